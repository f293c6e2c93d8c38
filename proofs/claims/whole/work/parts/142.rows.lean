/-! Each method of SealedTalksModel is sound (2). By program. -/
section ZR42
variable {g : zG} {d : Nat} {p : Program} {l : Launch} {e : Env} {R : Room} {s : State} {m : MethodId} {args : Array Value} {below : List Frame} {meth : Method} {c : Code} {Q : State → Prop} {P : zP}
set_option maxRecDepth 100000 in
set_option maxHeartbeats 4000000 in
theorem s_Mo_write_0 (cx : z_cx zTab g d p l e R s m args below meth c prog_8_method_23_code "SealedTalksModel" 6) (hn : meth.name = "write") (hf : z_fin g p l e R s m args below meth c Q prog_8_method_23_code P (some .int)) : ∀ x ∈ k_Mo_write_0, z_sn zTab g d p l e R s m args below meth c Q 6 P x := by
  unfold k_Mo_write_0
  refine z_k (S_aload_n cx (k := 0) (by decide +kernel) rfl) ?_
  refine z_k (S_iload_n cx (k := 1) (by decide +kernel) rfl) ?_
  refine z_k (S_callV cx (T := F_Mo) (N := 43) (r := r_Mo_isSession) rfl ⟨w_690, w_4, by decide, by decide +kernel⟩ w_687 w_689 wp_17 rfl (by decide +kernel)) ?_
  refine z_k (S_if_ne cx (off := 5) (by decide +kernel) (by decide)) ?_
  refine z_k (S_push cx (n := -1) (by decide +kernel) (by decide)) ?_
  refine z_k (S_iret (hf.2.1 rfl) (by decide +kernel)) ?_
  refine z_k (S_aload_n cx (k := 0) (by decide +kernel) rfl) ?_
  refine z_k (S_getf cx (T := F_Mo) (N := 43) (k := 24) rfl in_Mo (by decide) rfl w_552 (by decide +kernel)) ?_
  refine z_k (S_iload_n cx (k := 1) (by decide +kernel) rfl) ?_
  refine z_k (S_zald cx (by decide +kernel)) ?_
  refine z_k (S_if_eq cx (off := 6) (by decide +kernel) (by decide)) ?_
  refine z_k (S_bipush cx (n := -2) (by decide +kernel) (by decide)) ?_
  refine z_k (S_iret (hf.2.1 rfl) (by decide +kernel)) ?_
  refine z_k (S_aload_n cx (k := 0) (by decide +kernel) rfl) ?_
  refine z_k (S_iload_n cx (k := 1) (by decide +kernel) rfl) ?_
  refine z_k (S_callV cx (T := F_Mo) (N := 43) (r := r_Mo_isDone) rfl ⟨w_694, w_4, by decide, by decide +kernel⟩ w_691 w_693 wp_18 rfl (by decide +kernel)) ?_
  refine z_k (S_if_ne cx (off := 11) (by decide +kernel) (by decide)) ?_
  refine z_k (S_aload_n cx (k := 0) (by decide +kernel) rfl) ?_
  refine z_k (S_iload_n cx (k := 1) (by decide +kernel) rfl) ?_
  refine z_k (S_callV cx (T := F_Mo) (N := 43) (r := r_Mo_writes) rfl ⟨w_701, w_4, by decide, by decide +kernel⟩ w_698 w_700 wp_19 rfl (by decide +kernel)) ?_
  refine z_k (S_if_ne cx (off := 6) (by decide +kernel) (by decide)) ?_
  refine z_k (S_bipush cx (n := -3) (by decide +kernel) (by decide)) ?_
  refine z_k (S_iret (hf.2.1 rfl) (by decide +kernel)) ?_
  refine z_k (S_aload_n cx (k := 0) (by decide +kernel) rfl) ?_
  exact z_k0
set_option maxRecDepth 100000 in
set_option maxHeartbeats 4000000 in
theorem s_Mo_write_1 (cx : z_cx zTab g d p l e R s m args below meth c prog_8_method_23_code "SealedTalksModel" 6) (hn : meth.name = "write") (hf : z_fin g p l e R s m args below meth c Q prog_8_method_23_code P (some .int)) : ∀ x ∈ k_Mo_write_1, z_sn zTab g d p l e R s m args below meth c Q 6 P x := by
  unfold k_Mo_write_1
  refine z_k (S_getf cx (T := F_Mo) (N := 43) (k := 7) rfl in_Mo (by decide) rfl w_535 (by decide +kernel)) ?_
  refine z_k (S_bipush cx (n := 60) (by decide +kernel) (by decide)) ?_
  refine z_k (S_icmp_ne cx (off := 6) (by decide +kernel) (by decide)) ?_
  refine z_k (S_bipush cx (n := -4) (by decide +kernel) (by decide)) ?_
  refine z_k (S_iret (hf.2.1 rfl) (by decide +kernel)) ?_
  refine z_k (S_aload_n cx (k := 0) (by decide +kernel) rfl) ?_
  refine z_k (S_iload_n cx (k := 1) (by decide +kernel) rfl) ?_
  refine z_k (S_callV cx (T := F_Mo) (N := 43) (r := r_Mo_load) rfl ⟨w_705, w_4, by decide, by decide +kernel⟩ w_702 w_704 wp_20 rfl (by decide +kernel)) ?_
  refine z_k (S_aload_n cx (k := 0) (by decide +kernel) rfl) ?_
  refine z_k (S_push cx (n := 0) (by decide +kernel) (by decide)) ?_
  refine z_k (S_putf cx (T := F_Mo) (N := 43) (k := 39) (ty := t_Mo) rfl in_Mo t_Mo_ok n_Mo (by decide) rfl w_567 rfl (Or.inl ⟨rfl, rfl⟩) (by decide +kernel)) ?_
  refine z_k (S_push cx (n := 0) (by decide +kernel) (by decide)) ?_
  refine z_k (S_istore_n cx (by decide) (k := 3) (by decide +kernel) rfl) ?_
  refine z_k (S_iload_n cx (k := 3) (by decide +kernel) rfl) ?_
  refine z_k (S_push cx (n := 4) (by decide +kernel) (by decide)) ?_
  refine z_k (S_icmp_ge cx (off := 112) (by decide +kernel) (by decide)) ?_
  refine z_k (S_aload_n cx (k := 0) (by decide +kernel) rfl) ?_
  refine z_k (S_getf cx (T := F_Mo) (N := 43) (k := 13) rfl in_Mo (by decide) rfl w_541 (by decide +kernel)) ?_
  refine z_k (S_iload_n cx (k := 1) (by decide +kernel) rfl) ?_
  refine z_k (S_iald cx (by decide +kernel)) ?_
  refine z_k (S_aload_n cx (k := 0) (by decide +kernel) rfl) ?_
  refine z_k (S_getf cx (T := F_Mo) (N := 43) (k := 23) rfl in_Mo (by decide) rfl w_551 (by decide +kernel)) ?_
  refine z_k (S_iload_n cx (k := 1) (by decide +kernel) rfl) ?_
  refine z_k (S_iald cx (by decide +kernel)) ?_
  exact z_k0
set_option maxRecDepth 100000 in
set_option maxHeartbeats 4000000 in
theorem s_Mo_write_2 (cx : z_cx zTab g d p l e R s m args below meth c prog_8_method_23_code "SealedTalksModel" 6) (hn : meth.name = "write") (hf : z_fin g p l e R s m args below meth c Q prog_8_method_23_code P (some .int)) : ∀ x ∈ k_Mo_write_2, z_sn zTab g d p l e R s m args below meth c Q 6 P x := by
  unfold k_Mo_write_2
  refine z_k (S_iload_n cx (k := 3) (by decide +kernel) rfl) ?_
  refine z_k (S_callS cx (r := r_Mo_token) rfl ⟨w_708, w_4, by decide, by decide +kernel⟩ w_706 w_707 (by decide +kernel)) ?_
  refine z_k (S_istore cx (by decide) (by decide +kernel)) ?_
  refine z_k (S_iload cx (by decide +kernel)) ?_
  refine z_k (S_push cx (n := 1) (by decide +kernel) (by decide)) ?_
  refine z_k (S_icmp_ne cx (off := 43) (by decide +kernel) (by decide)) ?_
  refine z_k (S_aload_n cx (k := 0) (by decide +kernel) rfl) ?_
  refine z_k (S_dup cx (by decide +kernel)) ?_
  refine z_k (S_getf cx (T := F_Mo) (N := 43) (k := 10) rfl in_Mo (by decide) rfl w_538 (by decide +kernel)) ?_
  refine z_k (S_push cx (n := 1) (by decide +kernel) (by decide)) ?_
  refine z_k (S_iadd cx (by decide +kernel)) ?_
  refine z_k (S_putf cx (T := F_Mo) (N := 43) (k := 10) (ty := t_Mo) rfl in_Mo t_Mo_ok n_Mo (by decide) rfl w_538 rfl (Or.inl ⟨rfl, rfl⟩) (by decide +kernel)) ?_
  refine z_k (S_aload_n cx (k := 0) (by decide +kernel) rfl) ?_
  refine z_k (S_bipush cx (n := 8) (by decide +kernel) (by decide)) ?_
  refine z_k (S_aload_n cx (k := 0) (by decide +kernel) rfl) ?_
  refine z_k (S_getf cx (T := F_Mo) (N := 43) (k := 10) rfl in_Mo (by decide) rfl w_538 (by decide +kernel)) ?_
  refine z_k (S_iadd cx (by decide +kernel)) ?_
  refine z_k (S_putf cx (T := F_Mo) (N := 43) (k := 36) (ty := t_Mo) rfl in_Mo t_Mo_ok n_Mo (by decide) rfl w_564 rfl (Or.inl ⟨rfl, rfl⟩) (by decide +kernel)) ?_
  refine z_k (S_aload_n cx (k := 0) (by decide +kernel) rfl) ?_
  refine z_k (S_aload_n cx (k := 0) (by decide +kernel) rfl) ?_
  refine z_k (S_getf cx (T := F_Mo) (N := 43) (k := 36) rfl in_Mo (by decide) rfl w_564 (by decide +kernel)) ?_
  refine z_k (S_callV cx (T := F_Mo) (N := 43) (r := r_Mo_pub) rfl ⟨w_682, w_4, by decide, by decide +kernel⟩ w_679 w_681 wp_16 rfl (by decide +kernel)) ?_
  refine z_k (S_istore cx (by decide) (by decide +kernel)) ?_
  refine z_k (S_aload_n cx (k := 0) (by decide +kernel) rfl) ?_
  exact z_k0
set_option maxRecDepth 100000 in
set_option maxHeartbeats 4000000 in
theorem s_Mo_write_3 (cx : z_cx zTab g d p l e R s m args below meth c prog_8_method_23_code "SealedTalksModel" 6) (hn : meth.name = "write") (hf : z_fin g p l e R s m args below meth c Q prog_8_method_23_code P (some .int)) : ∀ x ∈ k_Mo_write_3, z_sn zTab g d p l e R s m args below meth c Q 6 P x := by
  unfold k_Mo_write_3
  refine z_k (S_iload cx (by decide +kernel)) ?_
  refine z_k (S_callV cx (T := F_Mo) (N := 43) (r := r_Mo_addPart) rfl ⟨w_712, w_4, by decide, by decide +kernel⟩ w_709 w_711 wp_21 rfl (by decide +kernel)) ?_
  refine z_k (S_goto cx (off := 42) (by decide +kernel) (by decide)) ?_
  refine z_k (S_iload cx (by decide +kernel)) ?_
  refine z_k (S_push cx (n := 2) (by decide +kernel) (by decide)) ?_
  refine z_k (S_icmp_ne cx (off := 24) (by decide +kernel) (by decide)) ?_
  refine z_k (S_aload_n cx (k := 0) (by decide +kernel) rfl) ?_
  refine z_k (S_aload_n cx (k := 0) (by decide +kernel) rfl) ?_
  refine z_k (S_getf cx (T := F_Mo) (N := 43) (k := 15) rfl in_Mo (by decide) rfl w_543 (by decide +kernel)) ?_
  refine z_k (S_iload_n cx (k := 1) (by decide +kernel) rfl) ?_
  refine z_k (S_iald cx (by decide +kernel)) ?_
  refine z_k (S_callV cx (T := F_Mo) (N := 43) (r := r_Mo_pub) rfl ⟨w_682, w_4, by decide, by decide +kernel⟩ w_679 w_681 wp_16 rfl (by decide +kernel)) ?_
  refine z_k (S_istore cx (by decide) (by decide +kernel)) ?_
  refine z_k (S_aload_n cx (k := 0) (by decide +kernel) rfl) ?_
  refine z_k (S_iload cx (by decide +kernel)) ?_
  refine z_k (S_callV cx (T := F_Mo) (N := 43) (r := r_Mo_put) rfl ⟨w_720, w_4, by decide, by decide +kernel⟩ w_717 w_719 wp_23 rfl (by decide +kernel)) ?_
  refine z_k (S_goto cx (off := 15) (by decide +kernel) (by decide)) ?_
  refine z_k (S_iload cx (by decide +kernel)) ?_
  refine z_k (S_push cx (n := 2) (by decide +kernel) (by decide)) ?_
  refine z_k (S_icmp_le cx (off := 9) (by decide +kernel) (by decide)) ?_
  refine z_k (S_aload_n cx (k := 0) (by decide +kernel) rfl) ?_
  refine z_k (S_iload cx (by decide +kernel)) ?_
  refine z_k (S_callV cx (T := F_Mo) (N := 43) (r := r_Mo_agree) rfl ⟨w_724, w_4, by decide, by decide +kernel⟩ w_721 w_723 wp_24 rfl (by decide +kernel)) ?_
  refine z_k (S_iinc cx (n := 1) (by decide) (by decide +kernel) (by decide)) ?_
  exact z_k0
set_option maxRecDepth 100000 in
set_option maxHeartbeats 4000000 in
theorem s_Mo_write_4 (cx : z_cx zTab g d p l e R s m args below meth c prog_8_method_23_code "SealedTalksModel" 6) (hn : meth.name = "write") (hf : z_fin g p l e R s m args below meth c Q prog_8_method_23_code P (some .int)) : ∀ x ∈ k_Mo_write_4, z_sn zTab g d p l e R s m args below meth c Q 6 P x := by
  unfold k_Mo_write_4
  refine z_k (S_goto cx (off := -111) (by decide +kernel) (by decide)) ?_
  refine z_k (S_aload_n cx (k := 0) (by decide +kernel) rfl) ?_
  refine z_k (S_iload_n cx (k := 2) (by decide +kernel) rfl) ?_
  refine z_k (S_callV cx (T := F_Mo) (N := 43) (r := r_Mo_num) rfl ⟨w_670, w_4, by decide, by decide +kernel⟩ w_667 w_669 wp_13 rfl (by decide +kernel)) ?_
  refine z_k (S_istore_n cx (by decide) (k := 3) (by decide +kernel) rfl) ?_
  refine z_k (S_aload_n cx (k := 0) (by decide +kernel) rfl) ?_
  refine z_k (S_iload_n cx (k := 3) (by decide +kernel) rfl) ?_
  refine z_k (S_callV cx (T := F_Mo) (N := 43) (r := r_Mo_put) rfl ⟨w_720, w_4, by decide, by decide +kernel⟩ w_717 w_719 wp_23 rfl (by decide +kernel)) ?_
  refine z_k (S_aload_n cx (k := 0) (by decide +kernel) rfl) ?_
  refine z_k (S_callV cx (T := F_Mo) (N := 43) (r := r_Mo_keep) rfl ⟨w_728, w_4, by decide, by decide +kernel⟩ w_725 w_727 wp_25 rfl (by decide +kernel)) ?_
  refine z_k (S_aload_n cx (k := 0) (by decide +kernel) rfl) ?_
  refine z_k (S_aload_n cx (k := 0) (by decide +kernel) rfl) ?_
  refine z_k (S_getf cx (T := F_Mo) (N := 43) (k := 39) rfl in_Mo (by decide) rfl w_567 (by decide +kernel)) ?_
  refine z_k (S_callV cx (T := F_Mo) (N := 43) (r := r_Mo_newMessage) rfl ⟨w_732, w_4, by decide, by decide +kernel⟩ w_729 w_731 wp_26 rfl (by decide +kernel)) ?_
  refine z_k (S_iret (hf.2.1 rfl) (by decide +kernel)) ?_
  exact z_k0
theorem s_Mo_write : z_snd zTab r_Mo_write := ⟨by decide +kernel, w_686, fun g d p l e R s m args below meth c Q P cx hn hf => z_k (s_Mo_write_0 cx hn hf) (z_k (s_Mo_write_1 cx hn hf) (z_k (s_Mo_write_2 cx hn hf) (z_k (s_Mo_write_3 cx hn hf) (z_k (s_Mo_write_4 cx hn hf) (z_k0)))))⟩
set_option maxRecDepth 100000 in
set_option maxHeartbeats 4000000 in
theorem s_Mo_fetch_0 (cx : z_cx zTab g d p l e R s m args below meth c prog_8_method_24_code "SealedTalksModel" 3) (hn : meth.name = "fetch") (hf : z_fin g p l e R s m args below meth c Q prog_8_method_24_code P none) : ∀ x ∈ k_Mo_fetch_0, z_sn zTab g d p l e R s m args below meth c Q 3 P x := by
  unfold k_Mo_fetch_0
  refine z_k (S_aload_n cx (k := 0) (by decide +kernel) rfl) ?_
  refine z_k (S_aload_n cx (k := 0) (by decide +kernel) rfl) ?_
  refine z_k (S_getf cx (T := F_Mo) (N := 43) (k := 8) rfl in_Mo (by decide) rfl w_536 (by decide +kernel)) ?_
  refine z_k (S_iload_n cx (k := 1) (by decide +kernel) rfl) ?_
  refine z_k (S_iald cx (by decide +kernel)) ?_
  refine z_k (S_putf cx (T := F_Mo) (N := 43) (k := 39) (ty := t_Mo) rfl in_Mo t_Mo_ok n_Mo (by decide) rfl w_567 rfl (Or.inl ⟨rfl, rfl⟩) (by decide +kernel)) ?_
  refine z_k (S_push cx (n := 0) (by decide +kernel) (by decide)) ?_
  refine z_k (S_istore_n cx (by decide) (k := 2) (by decide +kernel) rfl) ?_
  refine z_k (S_iload_n cx (k := 2) (by decide +kernel) rfl) ?_
  refine z_k (S_aload_n cx (k := 0) (by decide +kernel) rfl) ?_
  refine z_k (S_getf cx (T := F_Mo) (N := 43) (k := 39) rfl in_Mo (by decide) rfl w_567 (by decide +kernel)) ?_
  refine z_k (S_icmp_ge cx (off := 25) (by decide +kernel) (by decide)) ?_
  refine z_k (S_aload_n cx (k := 0) (by decide +kernel) rfl) ?_
  refine z_k (S_getf cx (T := F_Mo) (N := 43) (k := 40) rfl in_Mo (by decide) rfl w_568 (by decide +kernel)) ?_
  refine z_k (S_iload_n cx (k := 2) (by decide +kernel) rfl) ?_
  refine z_k (S_aload_n cx (k := 0) (by decide +kernel) rfl) ?_
  refine z_k (S_getf cx (T := F_Mo) (N := 43) (k := 9) rfl in_Mo (by decide) rfl w_537 (by decide +kernel)) ?_
  refine z_k (S_push cx (n := 3) (by decide +kernel) (by decide)) ?_
  refine z_k (S_iload_n cx (k := 1) (by decide +kernel) rfl) ?_
  refine z_k (S_imul cx (by decide +kernel)) ?_
  refine z_k (S_iload_n cx (k := 2) (by decide +kernel) rfl) ?_
  refine z_k (S_iadd cx (by decide +kernel)) ?_
  refine z_k (S_iald cx (by decide +kernel)) ?_
  refine z_k (S_iast cx (by decide +kernel)) ?_
  exact z_k0
set_option maxRecDepth 100000 in
set_option maxHeartbeats 4000000 in
theorem s_Mo_fetch_1 (cx : z_cx zTab g d p l e R s m args below meth c prog_8_method_24_code "SealedTalksModel" 3) (hn : meth.name = "fetch") (hf : z_fin g p l e R s m args below meth c Q prog_8_method_24_code P none) : ∀ x ∈ k_Mo_fetch_1, z_sn zTab g d p l e R s m args below meth c Q 3 P x := by
  unfold k_Mo_fetch_1
  refine z_k (S_iinc cx (n := 1) (by decide) (by decide +kernel) (by decide)) ?_
  refine z_k (S_goto cx (off := -27) (by decide +kernel) (by decide)) ?_
  refine z_k (S_vret (hf.1 rfl) (by decide +kernel)) ?_
  exact z_k0
theorem s_Mo_fetch : z_snd zTab r_Mo_fetch := ⟨by decide +kernel, w_740, fun g d p l e R s m args below meth c Q P cx hn hf => z_k (s_Mo_fetch_0 cx hn hf) (z_k (s_Mo_fetch_1 cx hn hf) (z_k0))⟩
set_option maxRecDepth 100000 in
set_option maxHeartbeats 4000000 in
theorem s_Mo_run_0 (cx : z_cx zTab g d p l e R s m args below meth c prog_8_method_25_code "SealedTalksModel" 5) (hn : meth.name = "run") (hf : z_fin g p l e R s m args below meth c Q prog_8_method_25_code P (some .int)) : ∀ x ∈ k_Mo_run_0, z_sn zTab g d p l e R s m args below meth c Q 5 P x := by
  unfold k_Mo_run_0
  refine z_k (S_push cx (n := 0) (by decide +kernel) (by decide)) ?_
  refine z_k (S_istore_n cx (by decide) (k := 2) (by decide +kernel) rfl) ?_
  refine z_k (S_iload_n cx (k := 2) (by decide +kernel) rfl) ?_
  refine z_k (S_push cx (n := 4) (by decide +kernel) (by decide)) ?_
  refine z_k (S_icmp_ge cx (off := 160) (by decide +kernel) (by decide)) ?_
  refine z_k (S_aload_n cx (k := 0) (by decide +kernel) rfl) ?_
  refine z_k (S_getf cx (T := F_Mo) (N := 43) (k := 42) rfl in_Mo (by decide) rfl w_570 (by decide +kernel)) ?_
  refine z_k (S_if_ne cx (off := 153) (by decide +kernel) (by decide)) ?_
  refine z_k (S_aload_n cx (k := 0) (by decide +kernel) rfl) ?_
  refine z_k (S_getf cx (T := F_Mo) (N := 43) (k := 13) rfl in_Mo (by decide) rfl w_541 (by decide +kernel)) ?_
  refine z_k (S_iload_n cx (k := 1) (by decide +kernel) rfl) ?_
  refine z_k (S_iald cx (by decide +kernel)) ?_
  refine z_k (S_aload_n cx (k := 0) (by decide +kernel) rfl) ?_
  refine z_k (S_getf cx (T := F_Mo) (N := 43) (k := 23) rfl in_Mo (by decide) rfl w_551 (by decide +kernel)) ?_
  refine z_k (S_iload_n cx (k := 1) (by decide +kernel) rfl) ?_
  refine z_k (S_iald cx (by decide +kernel)) ?_
  refine z_k (S_iload_n cx (k := 2) (by decide +kernel) rfl) ?_
  refine z_k (S_callS cx (r := r_Mo_token) rfl ⟨w_708, w_4, by decide, by decide +kernel⟩ w_706 w_707 (by decide +kernel)) ?_
  refine z_k (S_istore_n cx (by decide) (k := 3) (by decide +kernel) rfl) ?_
  refine z_k (S_iload_n cx (k := 3) (by decide +kernel) rfl) ?_
  refine z_k (S_push cx (n := 1) (by decide +kernel) (by decide)) ?_
  refine z_k (S_icmp_ne cx (off := 75) (by decide +kernel) (by decide)) ?_
  refine z_k (S_aload_n cx (k := 0) (by decide +kernel) rfl) ?_
  refine z_k (S_callV cx (T := F_Mo) (N := 43) (r := r_Mo_nextPart) rfl ⟨w_760, w_4, by decide, by decide +kernel⟩ w_757 w_759 wp_32 rfl (by decide +kernel)) ?_
  exact z_k0
set_option maxRecDepth 100000 in
set_option maxHeartbeats 4000000 in
theorem s_Mo_run_1 (cx : z_cx zTab g d p l e R s m args below meth c prog_8_method_25_code "SealedTalksModel" 5) (hn : meth.name = "run") (hf : z_fin g p l e R s m args below meth c Q prog_8_method_25_code P (some .int)) : ∀ x ∈ k_Mo_run_1, z_sn zTab g d p l e R s m args below meth c Q 5 P x := by
  unfold k_Mo_run_1
  refine z_k (S_istore cx (by decide) (by decide +kernel)) ?_
  refine z_k (S_aload_n cx (k := 0) (by decide +kernel) rfl) ?_
  refine z_k (S_iload cx (by decide +kernel)) ?_
  refine z_k (S_if_lt cx (off := 14) (by decide +kernel) (by decide)) ?_
  refine z_k (S_aload_n cx (k := 0) (by decide +kernel) rfl) ?_
  refine z_k (S_getf cx (T := F_Mo) (N := 43) (k := 1) rfl in_Mo (by decide) rfl w_529 (by decide +kernel)) ?_
  refine z_k (S_iload cx (by decide +kernel)) ?_
  refine z_k (S_bald cx (by decide +kernel)) ?_
  refine z_k (S_push cx (n := 2) (by decide +kernel) (by decide)) ?_
  refine z_k (S_icmp_eq cx (off := 7) (by decide +kernel) (by decide)) ?_
  refine z_k (S_push cx (n := 1) (by decide +kernel) (by decide)) ?_
  refine z_k (S_goto cx (off := 4) (by decide +kernel) (by decide)) ?_
  refine z_k (S_push cx (n := 0) (by decide +kernel) (by decide)) ?_
  refine z_k (S_putf cx (T := F_Mo) (N := 43) (k := 42) (ty := t_Mo) rfl in_Mo t_Mo_ok n_Mo (by decide) rfl w_570 rfl (Or.inr (Or.inl ⟨rfl, rfl⟩)) (by decide +kernel)) ?_
  refine z_k (S_aload_n cx (k := 0) (by decide +kernel) rfl) ?_
  refine z_k (S_aload_n cx (k := 0) (by decide +kernel) rfl) ?_
  refine z_k (S_getf cx (T := F_Mo) (N := 43) (k := 42) rfl in_Mo (by decide) rfl w_570 (by decide +kernel)) ?_
  refine z_k (S_if_eq cx (off := 10) (by decide +kernel) (by decide)) ?_
  refine z_k (S_aload_n cx (k := 0) (by decide +kernel) rfl) ?_
  refine z_k (S_getf cx (T := F_Mo) (N := 43) (k := 37) rfl in_Mo (by decide) rfl w_565 (by decide +kernel)) ?_
  refine z_k (S_goto cx (off := 10) (by decide +kernel) (by decide)) ?_
  refine z_k (S_aload_n cx (k := 0) (by decide +kernel) rfl) ?_
  refine z_k (S_getf cx (T := F_Mo) (N := 43) (k := 2) rfl in_Mo (by decide) rfl w_530 (by decide +kernel)) ?_
  refine z_k (S_iload cx (by decide +kernel)) ?_
  exact z_k0
set_option maxRecDepth 100000 in
set_option maxHeartbeats 4000000 in
theorem s_Mo_run_2 (cx : z_cx zTab g d p l e R s m args below meth c prog_8_method_25_code "SealedTalksModel" 5) (hn : meth.name = "run") (hf : z_fin g p l e R s m args below meth c Q prog_8_method_25_code P (some .int)) : ∀ x ∈ k_Mo_run_2, z_sn zTab g d p l e R s m args below meth c Q 5 P x := by
  unfold k_Mo_run_2
  refine z_k (S_iald cx (by decide +kernel)) ?_
  refine z_k (S_putf cx (T := F_Mo) (N := 43) (k := 37) (ty := t_Mo) rfl in_Mo t_Mo_ok n_Mo (by decide) rfl w_565 rfl (Or.inl ⟨rfl, rfl⟩) (by decide +kernel)) ?_
  refine z_k (S_aload_n cx (k := 0) (by decide +kernel) rfl) ?_
  refine z_k (S_getf cx (T := F_Mo) (N := 43) (k := 42) rfl in_Mo (by decide) rfl w_570 (by decide +kernel)) ?_
  refine z_k (S_if_ne cx (off := 9) (by decide +kernel) (by decide)) ?_
  refine z_k (S_aload_n cx (k := 0) (by decide +kernel) rfl) ?_
  refine z_k (S_iload cx (by decide +kernel)) ?_
  refine z_k (S_callV cx (T := F_Mo) (N := 43) (r := r_Mo_mixHash) rfl ⟨w_716, w_4, by decide, by decide +kernel⟩ w_713 w_715 wp_22 rfl (by decide +kernel)) ?_
  refine z_k (S_goto cx (off := 53) (by decide +kernel) (by decide)) ?_
  refine z_k (S_iload_n cx (k := 3) (by decide +kernel) rfl) ?_
  refine z_k (S_push cx (n := 2) (by decide +kernel) (by decide)) ?_
  refine z_k (S_icmp_ne cx (off := 38) (by decide +kernel) (by decide)) ?_
  refine z_k (S_aload_n cx (k := 0) (by decide +kernel) rfl) ?_
  refine z_k (S_push cx (n := 2) (by decide +kernel) (by decide)) ?_
  refine z_k (S_callV cx (T := F_Mo) (N := 43) (r := r_Mo_take) rfl ⟨w_764, w_4, by decide, by decide +kernel⟩ w_761 w_763 wp_33 rfl (by decide +kernel)) ?_
  refine z_k (S_istore cx (by decide) (by decide +kernel)) ?_
  refine z_k (S_aload_n cx (k := 0) (by decide +kernel) rfl) ?_
  refine z_k (S_aload_n cx (k := 0) (by decide +kernel) rfl) ?_
  refine z_k (S_getf cx (T := F_Mo) (N := 43) (k := 42) rfl in_Mo (by decide) rfl w_570 (by decide +kernel)) ?_
  refine z_k (S_if_eq cx (off := 10) (by decide +kernel) (by decide)) ?_
  refine z_k (S_aload_n cx (k := 0) (by decide +kernel) rfl) ?_
  refine z_k (S_getf cx (T := F_Mo) (N := 43) (k := 38) rfl in_Mo (by decide) rfl w_566 (by decide +kernel)) ?_
  refine z_k (S_goto cx (off := 10) (by decide +kernel) (by decide)) ?_
  refine z_k (S_aload_n cx (k := 0) (by decide +kernel) rfl) ?_
  exact z_k0
set_option maxRecDepth 100000 in
set_option maxHeartbeats 4000000 in
theorem s_Mo_run_3 (cx : z_cx zTab g d p l e R s m args below meth c prog_8_method_25_code "SealedTalksModel" 5) (hn : meth.name = "run") (hf : z_fin g p l e R s m args below meth c Q prog_8_method_25_code P (some .int)) : ∀ x ∈ k_Mo_run_3, z_sn zTab g d p l e R s m args below meth c Q 5 P x := by
  unfold k_Mo_run_3
  refine z_k (S_getf cx (T := F_Mo) (N := 43) (k := 2) rfl in_Mo (by decide) rfl w_530 (by decide +kernel)) ?_
  refine z_k (S_iload cx (by decide +kernel)) ?_
  refine z_k (S_iald cx (by decide +kernel)) ?_
  refine z_k (S_putf cx (T := F_Mo) (N := 43) (k := 38) (ty := t_Mo) rfl in_Mo t_Mo_ok n_Mo (by decide) rfl w_566 rfl (Or.inl ⟨rfl, rfl⟩) (by decide +kernel)) ?_
  refine z_k (S_goto cx (off := 13) (by decide +kernel) (by decide)) ?_
  refine z_k (S_iload_n cx (k := 3) (by decide +kernel) rfl) ?_
  refine z_k (S_push cx (n := 2) (by decide +kernel) (by decide)) ?_
  refine z_k (S_icmp_le cx (off := 8) (by decide +kernel) (by decide)) ?_
  refine z_k (S_aload_n cx (k := 0) (by decide +kernel) rfl) ?_
  refine z_k (S_iload_n cx (k := 3) (by decide +kernel) rfl) ?_
  refine z_k (S_callV cx (T := F_Mo) (N := 43) (r := r_Mo_agree) rfl ⟨w_724, w_4, by decide, by decide +kernel⟩ w_721 w_723 wp_24 rfl (by decide +kernel)) ?_
  refine z_k (S_iinc cx (n := 1) (by decide) (by decide +kernel) (by decide)) ?_
  refine z_k (S_goto cx (off := -159) (by decide +kernel) (by decide)) ?_
  refine z_k (S_aload_n cx (k := 0) (by decide +kernel) rfl) ?_
  refine z_k (S_getf cx (T := F_Mo) (N := 43) (k := 42) rfl in_Mo (by decide) rfl w_570 (by decide +kernel)) ?_
  refine z_k (S_if_eq cx (off := 7) (by decide +kernel) (by decide)) ?_
  refine z_k (S_push cx (n := -1) (by decide +kernel) (by decide)) ?_
  refine z_k (S_goto cx (off := 8) (by decide +kernel) (by decide)) ?_
  refine z_k (S_aload_n cx (k := 0) (by decide +kernel) rfl) ?_
  refine z_k (S_push cx (n := 1) (by decide +kernel) (by decide)) ?_
  refine z_k (S_callV cx (T := F_Mo) (N := 43) (r := r_Mo_take) rfl ⟨w_764, w_4, by decide, by decide +kernel⟩ w_761 w_763 wp_33 rfl (by decide +kernel)) ?_
  refine z_k (S_istore_n cx (by decide) (k := 2) (by decide +kernel) rfl) ?_
  refine z_k (S_aload_n cx (k := 0) (by decide +kernel) rfl) ?_
  refine z_k (S_getf cx (T := F_Mo) (N := 43) (k := 42) rfl in_Mo (by decide) rfl w_570 (by decide +kernel)) ?_
  exact z_k0
set_option maxRecDepth 100000 in
set_option maxHeartbeats 4000000 in
theorem s_Mo_run_4 (cx : z_cx zTab g d p l e R s m args below meth c prog_8_method_25_code "SealedTalksModel" 5) (hn : meth.name = "run") (hf : z_fin g p l e R s m args below meth c Q prog_8_method_25_code P (some .int)) : ∀ x ∈ k_Mo_run_4, z_sn zTab g d p l e R s m args below meth c Q 5 P x := by
  unfold k_Mo_run_4
  refine z_k (S_if_ne cx (off := 14) (by decide +kernel) (by decide)) ?_
  refine z_k (S_aload_n cx (k := 0) (by decide +kernel) rfl) ?_
  refine z_k (S_getf cx (T := F_Mo) (N := 43) (k := 41) rfl in_Mo (by decide) rfl w_569 (by decide +kernel)) ?_
  refine z_k (S_aload_n cx (k := 0) (by decide +kernel) rfl) ?_
  refine z_k (S_getf cx (T := F_Mo) (N := 43) (k := 39) rfl in_Mo (by decide) rfl w_567 (by decide +kernel)) ?_
  refine z_k (S_icmp_eq cx (off := 7) (by decide +kernel) (by decide)) ?_
  refine z_k (S_push cx (n := -1) (by decide +kernel) (by decide)) ?_
  refine z_k (S_goto cx (off := 4) (by decide +kernel) (by decide)) ?_
  refine z_k (S_iload_n cx (k := 2) (by decide +kernel) rfl) ?_
  refine z_k (S_iret (hf.2.1 rfl) (by decide +kernel)) ?_
  exact z_k0
theorem s_Mo_run : z_snd zTab r_Mo_run := ⟨by decide +kernel, w_756, fun g d p l e R s m args below meth c Q P cx hn hf => z_k (s_Mo_run_0 cx hn hf) (z_k (s_Mo_run_1 cx hn hf) (z_k (s_Mo_run_2 cx hn hf) (z_k (s_Mo_run_3 cx hn hf) (z_k (s_Mo_run_4 cx hn hf) (z_k0)))))⟩
set_option maxRecDepth 100000 in
set_option maxHeartbeats 4000000 in
theorem s_Mo_took_0 (cx : z_cx zTab g d p l e R s m args below meth c prog_8_method_26_code "SealedTalksModel" 3) (hn : meth.name = "took") (hf : z_fin g p l e R s m args below meth c Q prog_8_method_26_code P none) : ∀ x ∈ k_Mo_took_0, z_sn zTab g d p l e R s m args below meth c Q 3 P x := by
  unfold k_Mo_took_0
  refine z_k (S_aload_n cx (k := 0) (by decide +kernel) rfl) ?_
  refine z_k (S_getf cx (T := F_Mo) (N := 43) (k := 26) rfl in_Mo (by decide) rfl w_554 (by decide +kernel)) ?_
  refine z_k (S_iload_n cx (k := 1) (by decide +kernel) rfl) ?_
  refine z_k (S_iload_n cx (k := 2) (by decide +kernel) rfl) ?_
  refine z_k (S_iast cx (by decide +kernel)) ?_
  refine z_k (S_aload_n cx (k := 0) (by decide +kernel) rfl) ?_
  refine z_k (S_getf cx (T := F_Mo) (N := 43) (k := 27) rfl in_Mo (by decide) rfl w_555 (by decide +kernel)) ?_
  refine z_k (S_iload_n cx (k := 1) (by decide +kernel) rfl) ?_
  refine z_k (S_aload_n cx (k := 0) (by decide +kernel) rfl) ?_
  refine z_k (S_getf cx (T := F_Mo) (N := 43) (k := 27) rfl in_Mo (by decide) rfl w_555 (by decide +kernel)) ?_
  refine z_k (S_iload_n cx (k := 1) (by decide +kernel) rfl) ?_
  refine z_k (S_iald cx (by decide +kernel)) ?_
  refine z_k (S_push cx (n := 1) (by decide +kernel) (by decide)) ?_
  refine z_k (S_iadd cx (by decide +kernel)) ?_
  refine z_k (S_iast cx (by decide +kernel)) ?_
  refine z_k (S_vret (hf.1 rfl) (by decide +kernel)) ?_
  exact z_k0
theorem s_Mo_took : z_snd zTab r_Mo_took := ⟨by decide +kernel, w_748, fun g d p l e R s m args below meth c Q P cx hn hf => z_k (s_Mo_took_0 cx hn hf) (z_k0)⟩
set_option maxRecDepth 100000 in
set_option maxHeartbeats 4000000 in
theorem s_Mo_reads_0 (cx : z_cx zTab g d p l e R s m args below meth c prog_8_method_27_code "SealedTalksModel" 4) (hn : meth.name = "reads") (hf : z_fin g p l e R s m args below meth c Q prog_8_method_27_code P (some .boolean)) : ∀ x ∈ k_Mo_reads_0, z_sn zTab g d p l e R s m args below meth c Q 4 P x := by
  unfold k_Mo_reads_0
  refine z_k (S_aload_n cx (k := 0) (by decide +kernel) rfl) ?_
  refine z_k (S_getf cx (T := F_Mo) (N := 43) (k := 0) rfl in_Mo (by decide) rfl w_528 (by decide +kernel)) ?_
  refine z_k (S_istore_n cx (by decide) (k := 2) (by decide +kernel) rfl) ?_
  refine z_k (S_aload_n cx (k := 0) (by decide +kernel) rfl) ?_
  refine z_k (S_iload_n cx (k := 1) (by decide +kernel) rfl) ?_
  refine z_k (S_callV cx (T := F_Mo) (N := 43) (r := r_Mo_load) rfl ⟨w_705, w_4, by decide, by decide +kernel⟩ w_702 w_704 wp_20 rfl (by decide +kernel)) ?_
  refine z_k (S_aload_n cx (k := 0) (by decide +kernel) rfl) ?_
  refine z_k (S_iload_n cx (k := 1) (by decide +kernel) rfl) ?_
  refine z_k (S_callV cx (T := F_Mo) (N := 43) (r := r_Mo_writes) rfl ⟨w_701, w_4, by decide, by decide +kernel⟩ w_698 w_700 wp_19 rfl (by decide +kernel)) ?_
  refine z_k (S_if_eq cx (off := 7) (by decide +kernel) (by decide)) ?_
  refine z_k (S_push cx (n := -1) (by decide +kernel) (by decide)) ?_
  refine z_k (S_goto cx (off := 8) (by decide +kernel) (by decide)) ?_
  refine z_k (S_aload_n cx (k := 0) (by decide +kernel) rfl) ?_
  refine z_k (S_iload_n cx (k := 1) (by decide +kernel) rfl) ?_
  refine z_k (S_callV cx (T := F_Mo) (N := 43) (r := r_Mo_run) rfl ⟨w_756, w_4, by decide, by decide +kernel⟩ w_753 w_755 wp_31 rfl (by decide +kernel)) ?_
  refine z_k (S_istore_n cx (by decide) (k := 3) (by decide +kernel) rfl) ?_
  refine z_k (S_iload_n cx (k := 3) (by decide +kernel) rfl) ?_
  refine z_k (S_if_ge cx (off := 10) (by decide +kernel) (by decide)) ?_
  refine z_k (S_aload_n cx (k := 0) (by decide +kernel) rfl) ?_
  refine z_k (S_iload_n cx (k := 2) (by decide +kernel) rfl) ?_
  refine z_k (S_putf cx (T := F_Mo) (N := 43) (k := 0) (ty := t_Mo) rfl in_Mo t_Mo_ok n_Mo (by decide) rfl w_528 rfl (Or.inl ⟨rfl, rfl⟩) (by decide +kernel)) ?_
  refine z_k (S_push cx (n := 0) (by decide +kernel) (by decide)) ?_
  refine z_k (S_zret (hf.2.2.1 rfl) (by decide +kernel)) ?_
  refine z_k (S_aload_n cx (k := 0) (by decide +kernel) rfl) ?_
  exact z_k0
set_option maxRecDepth 100000 in
set_option maxHeartbeats 4000000 in
theorem s_Mo_reads_1 (cx : z_cx zTab g d p l e R s m args below meth c prog_8_method_27_code "SealedTalksModel" 4) (hn : meth.name = "reads") (hf : z_fin g p l e R s m args below meth c Q prog_8_method_27_code P (some .boolean)) : ∀ x ∈ k_Mo_reads_1, z_sn zTab g d p l e R s m args below meth c Q 4 P x := by
  unfold k_Mo_reads_1
  refine z_k (S_callV cx (T := F_Mo) (N := 43) (r := r_Mo_keep) rfl ⟨w_728, w_4, by decide, by decide +kernel⟩ w_725 w_727 wp_25 rfl (by decide +kernel)) ?_
  refine z_k (S_aload_n cx (k := 0) (by decide +kernel) rfl) ?_
  refine z_k (S_iload_n cx (k := 1) (by decide +kernel) rfl) ?_
  refine z_k (S_aload_n cx (k := 0) (by decide +kernel) rfl) ?_
  refine z_k (S_getf cx (T := F_Mo) (N := 43) (k := 2) rfl in_Mo (by decide) rfl w_530 (by decide +kernel)) ?_
  refine z_k (S_iload_n cx (k := 3) (by decide +kernel) rfl) ?_
  refine z_k (S_iald cx (by decide +kernel)) ?_
  refine z_k (S_callV cx (T := F_Mo) (N := 43) (r := r_Mo_took) rfl ⟨w_748, w_4, by decide, by decide +kernel⟩ w_745 w_747 wp_29 rfl (by decide +kernel)) ?_
  refine z_k (S_push cx (n := 1) (by decide +kernel) (by decide)) ?_
  refine z_k (S_zret (hf.2.2.1 rfl) (by decide +kernel)) ?_
  exact z_k0
theorem s_Mo_reads : z_snd zTab r_Mo_reads := ⟨by decide +kernel, w_752, fun g d p l e R s m args below meth c Q P cx hn hf => z_k (s_Mo_reads_0 cx hn hf) (z_k (s_Mo_reads_1 cx hn hf) (z_k0))⟩
set_option maxRecDepth 100000 in
set_option maxHeartbeats 4000000 in
theorem s_Mo_accepts_0 (cx : z_cx zTab g d p l e R s m args below meth c prog_8_method_28_code "SealedTalksModel" 10) (hn : meth.name = "accepts") (hf : z_fin g p l e R s m args below meth c Q prog_8_method_28_code P (some .boolean)) : ∀ x ∈ k_Mo_accepts_0, z_sn zTab g d p l e R s m args below meth c Q 10 P x := by
  unfold k_Mo_accepts_0
  refine z_k (S_aload_n cx (k := 0) (by decide +kernel) rfl) ?_
  refine z_k (S_getf cx (T := F_Mo) (N := 43) (k := 39) rfl in_Mo (by decide) rfl w_567 (by decide +kernel)) ?_
  refine z_k (S_push cx (n := 2) (by decide +kernel) (by decide)) ?_
  refine z_k (S_icmp_ne cx (off := 12) (by decide +kernel) (by decide)) ?_
  refine z_k (S_aload_n cx (k := 0) (by decide +kernel) rfl) ?_
  refine z_k (S_getf cx (T := F_Mo) (N := 43) (k := 40) rfl in_Mo (by decide) rfl w_568 (by decide +kernel)) ?_
  refine z_k (S_push cx (n := 1) (by decide +kernel) (by decide)) ?_
  refine z_k (S_iald cx (by decide +kernel)) ?_
  refine z_k (S_goto cx (off := 4) (by decide +kernel) (by decide)) ?_
  refine z_k (S_push cx (n := 0) (by decide +kernel) (by decide)) ?_
  refine z_k (S_istore_n cx (by decide) (k := 2) (by decide +kernel) rfl) ?_
  refine z_k (S_aload_n cx (k := 0) (by decide +kernel) rfl) ?_
  refine z_k (S_getf cx (T := F_Mo) (N := 43) (k := 39) rfl in_Mo (by decide) rfl w_567 (by decide +kernel)) ?_
  refine z_k (S_push cx (n := 2) (by decide +kernel) (by decide)) ?_
  refine z_k (S_icmp_ne cx (off := 29) (by decide +kernel) (by decide)) ?_
  refine z_k (S_aload_n cx (k := 0) (by decide +kernel) rfl) ?_
  refine z_k (S_getf cx (T := F_Mo) (N := 43) (k := 1) rfl in_Mo (by decide) rfl w_529 (by decide +kernel)) ?_
  refine z_k (S_aload_n cx (k := 0) (by decide +kernel) rfl) ?_
  refine z_k (S_getf cx (T := F_Mo) (N := 43) (k := 40) rfl in_Mo (by decide) rfl w_568 (by decide +kernel)) ?_
  refine z_k (S_push cx (n := 0) (by decide +kernel) (by decide)) ?_
  refine z_k (S_iald cx (by decide +kernel)) ?_
  refine z_k (S_bald cx (by decide +kernel)) ?_
  refine z_k (S_push cx (n := 1) (by decide +kernel) (by decide)) ?_
  refine z_k (S_icmp_ne cx (off := 14) (by decide +kernel) (by decide)) ?_
  exact z_k0
set_option maxRecDepth 100000 in
set_option maxHeartbeats 4000000 in
theorem s_Mo_accepts_1 (cx : z_cx zTab g d p l e R s m args below meth c prog_8_method_28_code "SealedTalksModel" 10) (hn : meth.name = "accepts") (hf : z_fin g p l e R s m args below meth c Q prog_8_method_28_code P (some .boolean)) : ∀ x ∈ k_Mo_accepts_1, z_sn zTab g d p l e R s m args below meth c Q 10 P x := by
  unfold k_Mo_accepts_1
  refine z_k (S_aload_n cx (k := 0) (by decide +kernel) rfl) ?_
  refine z_k (S_getf cx (T := F_Mo) (N := 43) (k := 1) rfl in_Mo (by decide) rfl w_529 (by decide +kernel)) ?_
  refine z_k (S_iload_n cx (k := 2) (by decide +kernel) rfl) ?_
  refine z_k (S_bald cx (by decide +kernel)) ?_
  refine z_k (S_bipush cx (n := 8) (by decide +kernel) (by decide)) ?_
  refine z_k (S_icmp_eq cx (off := 5) (by decide +kernel) (by decide)) ?_
  refine z_k (S_push cx (n := 0) (by decide +kernel) (by decide)) ?_
  refine z_k (S_zret (hf.2.2.1 rfl) (by decide +kernel)) ?_
  refine z_k (S_aload_n cx (k := 0) (by decide +kernel) rfl) ?_
  refine z_k (S_getf cx (T := F_Mo) (N := 43) (k := 2) rfl in_Mo (by decide) rfl w_530 (by decide +kernel)) ?_
  refine z_k (S_aload_n cx (k := 0) (by decide +kernel) rfl) ?_
  refine z_k (S_getf cx (T := F_Mo) (N := 43) (k := 40) rfl in_Mo (by decide) rfl w_568 (by decide +kernel)) ?_
  refine z_k (S_push cx (n := 0) (by decide +kernel) (by decide)) ?_
  refine z_k (S_iald cx (by decide +kernel)) ?_
  refine z_k (S_iald cx (by decide +kernel)) ?_
  refine z_k (S_istore_n cx (by decide) (k := 3) (by decide +kernel) rfl) ?_
  refine z_k (S_aload_n cx (k := 0) (by decide +kernel) rfl) ?_
  refine z_k (S_getf cx (T := F_Mo) (N := 43) (k := 3) rfl in_Mo (by decide) rfl w_531 (by decide +kernel)) ?_
  refine z_k (S_iload_n cx (k := 2) (by decide +kernel) rfl) ?_
  refine z_k (S_sald cx (by decide +kernel)) ?_
  refine z_k (S_istore cx (by decide) (by decide +kernel)) ?_
  refine z_k (S_aload_n cx (k := 0) (by decide +kernel) rfl) ?_
  refine z_k (S_getf cx (T := F_Mo) (N := 43) (k := 4) rfl in_Mo (by decide) rfl w_532 (by decide +kernel)) ?_
  refine z_k (S_iload_n cx (k := 2) (by decide +kernel) rfl) ?_
  exact z_k0
set_option maxRecDepth 100000 in
set_option maxHeartbeats 4000000 in
theorem s_Mo_accepts_2 (cx : z_cx zTab g d p l e R s m args below meth c prog_8_method_28_code "SealedTalksModel" 10) (hn : meth.name = "accepts") (hf : z_fin g p l e R s m args below meth c Q prog_8_method_28_code P (some .boolean)) : ∀ x ∈ k_Mo_accepts_2, z_sn zTab g d p l e R s m args below meth c Q 10 P x := by
  unfold k_Mo_accepts_2
  refine z_k (S_sald cx (by decide +kernel)) ?_
  refine z_k (S_istore cx (by decide) (by decide +kernel)) ?_
  refine z_k (S_aload_n cx (k := 0) (by decide +kernel) rfl) ?_
  refine z_k (S_getf cx (T := F_Mo) (N := 43) (k := 5) rfl in_Mo (by decide) rfl w_533 (by decide +kernel)) ?_
  refine z_k (S_iload_n cx (k := 2) (by decide +kernel) rfl) ?_
  refine z_k (S_sald cx (by decide +kernel)) ?_
  refine z_k (S_istore cx (by decide) (by decide +kernel)) ?_
  refine z_k (S_aload_n cx (k := 0) (by decide +kernel) rfl) ?_
  refine z_k (S_getf cx (T := F_Mo) (N := 43) (k := 1) rfl in_Mo (by decide) rfl w_529 (by decide +kernel)) ?_
  refine z_k (S_iload cx (by decide +kernel)) ?_
  refine z_k (S_bald cx (by decide +kernel)) ?_
  refine z_k (S_bipush cx (n := 7) (by decide +kernel) (by decide)) ?_
  refine z_k (S_icmp_ne cx (off := 47) (by decide +kernel) (by decide)) ?_
  refine z_k (S_aload_n cx (k := 0) (by decide +kernel) rfl) ?_
  refine z_k (S_getf cx (T := F_Mo) (N := 43) (k := 3) rfl in_Mo (by decide) rfl w_531 (by decide +kernel)) ?_
  refine z_k (S_iload cx (by decide +kernel)) ?_
  refine z_k (S_sald cx (by decide +kernel)) ?_
  refine z_k (S_aload_n cx (k := 0) (by decide +kernel) rfl) ?_
  refine z_k (S_getf cx (T := F_Mo) (N := 43) (k := 20) rfl in_Mo (by decide) rfl w_548 (by decide +kernel)) ?_
  refine z_k (S_iload_n cx (k := 1) (by decide +kernel) rfl) ?_
  refine z_k (S_iald cx (by decide +kernel)) ?_
  refine z_k (S_icmp_ne cx (off := 31) (by decide +kernel) (by decide)) ?_
  refine z_k (S_aload_n cx (k := 0) (by decide +kernel) rfl) ?_
  refine z_k (S_getf cx (T := F_Mo) (N := 43) (k := 2) rfl in_Mo (by decide) rfl w_530 (by decide +kernel)) ?_
  exact z_k0
set_option maxRecDepth 100000 in
set_option maxHeartbeats 4000000 in
theorem s_Mo_accepts_3 (cx : z_cx zTab g d p l e R s m args below meth c prog_8_method_28_code "SealedTalksModel" 10) (hn : meth.name = "accepts") (hf : z_fin g p l e R s m args below meth c Q prog_8_method_28_code P (some .boolean)) : ∀ x ∈ k_Mo_accepts_3, z_sn zTab g d p l e R s m args below meth c Q 10 P x := by
  unfold k_Mo_accepts_3
  refine z_k (S_iload cx (by decide +kernel)) ?_
  refine z_k (S_iald cx (by decide +kernel)) ?_
  refine z_k (S_aload_n cx (k := 0) (by decide +kernel) rfl) ?_
  refine z_k (S_getf cx (T := F_Mo) (N := 43) (k := 14) rfl in_Mo (by decide) rfl w_542 (by decide +kernel)) ?_
  refine z_k (S_iload_n cx (k := 1) (by decide +kernel) rfl) ?_
  refine z_k (S_zald cx (by decide +kernel)) ?_
  refine z_k (S_if_eq cx (off := 7) (by decide +kernel) (by decide)) ?_
  refine z_k (S_push cx (n := 2) (by decide +kernel) (by decide)) ?_
  refine z_k (S_goto cx (off := 4) (by decide +kernel) (by decide)) ?_
  refine z_k (S_push cx (n := 1) (by decide +kernel) (by decide)) ?_
  refine z_k (S_icmp_ne cx (off := 7) (by decide +kernel) (by decide)) ?_
  refine z_k (S_push cx (n := 1) (by decide +kernel) (by decide)) ?_
  refine z_k (S_goto cx (off := 4) (by decide +kernel) (by decide)) ?_
  refine z_k (S_push cx (n := 0) (by decide +kernel) (by decide)) ?_
  refine z_k (S_istore cx (by decide) (by decide +kernel)) ?_
  refine z_k (S_iload cx (by decide +kernel)) ?_
  refine z_k (S_if_eq cx (off := 53) (by decide +kernel) (by decide)) ?_
  refine z_k (S_aload_n cx (k := 0) (by decide +kernel) rfl) ?_
  refine z_k (S_getf cx (T := F_Mo) (N := 43) (k := 2) rfl in_Mo (by decide) rfl w_530 (by decide +kernel)) ?_
  refine z_k (S_iload_n cx (k := 2) (by decide +kernel) rfl) ?_
  refine z_k (S_iald cx (by decide +kernel)) ?_
  refine z_k (S_iload_n cx (k := 3) (by decide +kernel) rfl) ?_
  refine z_k (S_icmp_ne cx (off := 43) (by decide +kernel) (by decide)) ?_
  refine z_k (S_aload_n cx (k := 0) (by decide +kernel) rfl) ?_
  exact z_k0
set_option maxRecDepth 100000 in
set_option maxHeartbeats 4000000 in
theorem s_Mo_accepts_4 (cx : z_cx zTab g d p l e R s m args below meth c prog_8_method_28_code "SealedTalksModel" 10) (hn : meth.name = "accepts") (hf : z_fin g p l e R s m args below meth c Q prog_8_method_28_code P (some .boolean)) : ∀ x ∈ k_Mo_accepts_4, z_sn zTab g d p l e R s m args below meth c Q 10 P x := by
  unfold k_Mo_accepts_4
  refine z_k (S_getf cx (T := F_Mo) (N := 43) (k := 1) rfl in_Mo (by decide) rfl w_529 (by decide +kernel)) ?_
  refine z_k (S_iload cx (by decide +kernel)) ?_
  refine z_k (S_bald cx (by decide +kernel)) ?_
  refine z_k (S_push cx (n := 1) (by decide +kernel) (by decide)) ?_
  refine z_k (S_icmp_ne cx (off := 32) (by decide +kernel) (by decide)) ?_
  refine z_k (S_aload_n cx (k := 0) (by decide +kernel) rfl) ?_
  refine z_k (S_getf cx (T := F_Mo) (N := 43) (k := 2) rfl in_Mo (by decide) rfl w_530 (by decide +kernel)) ?_
  refine z_k (S_iload cx (by decide +kernel)) ?_
  refine z_k (S_iald cx (by decide +kernel)) ?_
  refine z_k (S_if_ne cx (off := 22) (by decide +kernel) (by decide)) ?_
  refine z_k (S_aload_n cx (k := 0) (by decide +kernel) rfl) ?_
  refine z_k (S_getf cx (T := F_Mo) (N := 43) (k := 1) rfl in_Mo (by decide) rfl w_529 (by decide +kernel)) ?_
  refine z_k (S_iload cx (by decide +kernel)) ?_
  refine z_k (S_bald cx (by decide +kernel)) ?_
  refine z_k (S_push cx (n := 1) (by decide +kernel) (by decide)) ?_
  refine z_k (S_icmp_ne cx (off := 11) (by decide +kernel) (by decide)) ?_
  refine z_k (S_iload_n cx (k := 3) (by decide +kernel) rfl) ?_
  refine z_k (S_if_lt cx (off := 7) (by decide +kernel) (by decide)) ?_
  refine z_k (S_push cx (n := 1) (by decide +kernel) (by decide)) ?_
  refine z_k (S_goto cx (off := 4) (by decide +kernel) (by decide)) ?_
  refine z_k (S_push cx (n := 0) (by decide +kernel) (by decide)) ?_
  refine z_k (S_istore cx (by decide) (by decide +kernel)) ?_
  refine z_k (S_iload cx (by decide +kernel)) ?_
  refine z_k (S_if_eq cx (off := 51) (by decide +kernel) (by decide)) ?_
  exact z_k0
set_option maxRecDepth 100000 in
set_option maxHeartbeats 4000000 in
theorem s_Mo_accepts_5 (cx : z_cx zTab g d p l e R s m args below meth c prog_8_method_28_code "SealedTalksModel" 10) (hn : meth.name = "accepts") (hf : z_fin g p l e R s m args below meth c Q prog_8_method_28_code P (some .boolean)) : ∀ x ∈ k_Mo_accepts_5, z_sn zTab g d p l e R s m args below meth c Q 10 P x := by
  unfold k_Mo_accepts_5
  refine z_k (S_iload_n cx (k := 3) (by decide +kernel) rfl) ?_
  refine z_k (S_aload_n cx (k := 0) (by decide +kernel) rfl) ?_
  refine z_k (S_getf cx (T := F_Mo) (N := 43) (k := 29) rfl in_Mo (by decide) rfl w_557 (by decide +kernel)) ?_
  refine z_k (S_iload_n cx (k := 1) (by decide +kernel) rfl) ?_
  refine z_k (S_iald cx (by decide +kernel)) ?_
  refine z_k (S_icmp_gt cx (off := 41) (by decide +kernel) (by decide)) ?_
  refine z_k (S_aload_n cx (k := 0) (by decide +kernel) rfl) ?_
  refine z_k (S_getf cx (T := F_Mo) (N := 43) (k := 29) rfl in_Mo (by decide) rfl w_557 (by decide +kernel)) ?_
  refine z_k (S_iload_n cx (k := 1) (by decide +kernel) rfl) ?_
  refine z_k (S_iald cx (by decide +kernel)) ?_
  refine z_k (S_iload_n cx (k := 3) (by decide +kernel) rfl) ?_
  refine z_k (S_isub cx (by decide +kernel)) ?_
  refine z_k (S_bipush cx (n := 7) (by decide +kernel) (by decide)) ?_
  refine z_k (S_icmp_gt cx (off := 24) (by decide +kernel) (by decide)) ?_
  refine z_k (S_aload_n cx (k := 0) (by decide +kernel) rfl) ?_
  refine z_k (S_getf cx (T := F_Mo) (N := 43) (k := 30) rfl in_Mo (by decide) rfl w_558 (by decide +kernel)) ?_
  refine z_k (S_iload_n cx (k := 1) (by decide +kernel) rfl) ?_
  refine z_k (S_iald cx (by decide +kernel)) ?_
  refine z_k (S_aload_n cx (k := 0) (by decide +kernel) rfl) ?_
  refine z_k (S_getf cx (T := F_Mo) (N := 43) (k := 29) rfl in_Mo (by decide) rfl w_557 (by decide +kernel)) ?_
  refine z_k (S_iload_n cx (k := 1) (by decide +kernel) rfl) ?_
  refine z_k (S_iald cx (by decide +kernel)) ?_
  refine z_k (S_iload_n cx (k := 3) (by decide +kernel) rfl) ?_
  refine z_k (S_isub cx (by decide +kernel)) ?_
  exact z_k0
set_option maxRecDepth 100000 in
set_option maxHeartbeats 4000000 in
theorem s_Mo_accepts_6 (cx : z_cx zTab g d p l e R s m args below meth c prog_8_method_28_code "SealedTalksModel" 10) (hn : meth.name = "accepts") (hf : z_fin g p l e R s m args below meth c Q prog_8_method_28_code P (some .boolean)) : ∀ x ∈ k_Mo_accepts_6, z_sn zTab g d p l e R s m args below meth c Q 10 P x := by
  unfold k_Mo_accepts_6
  refine z_k (S_ishr cx (by decide +kernel)) ?_
  refine z_k (S_push cx (n := 1) (by decide +kernel) (by decide)) ?_
  refine z_k (S_iand cx (by decide +kernel)) ?_
  refine z_k (S_push cx (n := 1) (by decide +kernel) (by decide)) ?_
  refine z_k (S_icmp_ne cx (off := 7) (by decide +kernel) (by decide)) ?_
  refine z_k (S_push cx (n := 1) (by decide +kernel) (by decide)) ?_
  refine z_k (S_goto cx (off := 4) (by decide +kernel) (by decide)) ?_
  refine z_k (S_push cx (n := 0) (by decide +kernel) (by decide)) ?_
  refine z_k (S_istore cx (by decide) (by decide +kernel)) ?_
  refine z_k (S_iload cx (by decide +kernel)) ?_
  refine z_k (S_if_eq cx (off := 8) (by decide +kernel) (by decide)) ?_
  refine z_k (S_iload cx (by decide +kernel)) ?_
  refine z_k (S_if_eq cx (off := 5) (by decide +kernel) (by decide)) ?_
  refine z_k (S_push cx (n := 0) (by decide +kernel) (by decide)) ?_
  refine z_k (S_zret (hf.2.2.1 rfl) (by decide +kernel)) ?_
  refine z_k (S_iload_n cx (k := 3) (by decide +kernel) rfl) ?_
  refine z_k (S_aload_n cx (k := 0) (by decide +kernel) rfl) ?_
  refine z_k (S_getf cx (T := F_Mo) (N := 43) (k := 29) rfl in_Mo (by decide) rfl w_557 (by decide +kernel)) ?_
  refine z_k (S_iload_n cx (k := 1) (by decide +kernel) rfl) ?_
  refine z_k (S_iald cx (by decide +kernel)) ?_
  refine z_k (S_icmp_le cx (off := 14) (by decide +kernel) (by decide)) ?_
  refine z_k (S_iload_n cx (k := 3) (by decide +kernel) rfl) ?_
  refine z_k (S_aload_n cx (k := 0) (by decide +kernel) rfl) ?_
  refine z_k (S_getf cx (T := F_Mo) (N := 43) (k := 29) rfl in_Mo (by decide) rfl w_557 (by decide +kernel)) ?_
  exact z_k0
set_option maxRecDepth 100000 in
set_option maxHeartbeats 4000000 in
theorem s_Mo_accepts_7 (cx : z_cx zTab g d p l e R s m args below meth c prog_8_method_28_code "SealedTalksModel" 10) (hn : meth.name = "accepts") (hf : z_fin g p l e R s m args below meth c Q prog_8_method_28_code P (some .boolean)) : ∀ x ∈ k_Mo_accepts_7, z_sn zTab g d p l e R s m args below meth c Q 10 P x := by
  unfold k_Mo_accepts_7
  refine z_k (S_iload_n cx (k := 1) (by decide +kernel) rfl) ?_
  refine z_k (S_iald cx (by decide +kernel)) ?_
  refine z_k (S_isub cx (by decide +kernel)) ?_
  refine z_k (S_goto cx (off := 4) (by decide +kernel) (by decide)) ?_
  refine z_k (S_push cx (n := 0) (by decide +kernel) (by decide)) ?_
  refine z_k (S_istore cx (by decide) (by decide +kernel)) ?_
  refine z_k (S_aload_n cx (k := 0) (by decide +kernel) rfl) ?_
  refine z_k (S_getf cx (T := F_Mo) (N := 43) (k := 30) rfl in_Mo (by decide) rfl w_558 (by decide +kernel)) ?_
  refine z_k (S_iload_n cx (k := 1) (by decide +kernel) rfl) ?_
  refine z_k (S_iload cx (by decide +kernel)) ?_
  refine z_k (S_bipush cx (n := 8) (by decide +kernel) (by decide)) ?_
  refine z_k (S_icmp_le cx (off := 7) (by decide +kernel) (by decide)) ?_
  refine z_k (S_push cx (n := 0) (by decide +kernel) (by decide)) ?_
  refine z_k (S_goto cx (off := 16) (by decide +kernel) (by decide)) ?_
  refine z_k (S_aload_n cx (k := 0) (by decide +kernel) rfl) ?_
  refine z_k (S_getf cx (T := F_Mo) (N := 43) (k := 30) rfl in_Mo (by decide) rfl w_558 (by decide +kernel)) ?_
  refine z_k (S_iload_n cx (k := 1) (by decide +kernel) rfl) ?_
  refine z_k (S_iald cx (by decide +kernel)) ?_
  refine z_k (S_iload cx (by decide +kernel)) ?_
  refine z_k (S_ishl cx (by decide +kernel)) ?_
  refine z_k (S_sipush cx (n := 255) (by decide +kernel) (by decide)) ?_
  refine z_k (S_iand cx (by decide +kernel)) ?_
  refine z_k (S_iast cx (by decide +kernel)) ?_
  refine z_k (S_aload_n cx (k := 0) (by decide +kernel) rfl) ?_
  exact z_k0
set_option maxRecDepth 100000 in
set_option maxHeartbeats 4000000 in
theorem s_Mo_accepts_8 (cx : z_cx zTab g d p l e R s m args below meth c prog_8_method_28_code "SealedTalksModel" 10) (hn : meth.name = "accepts") (hf : z_fin g p l e R s m args below meth c Q prog_8_method_28_code P (some .boolean)) : ∀ x ∈ k_Mo_accepts_8, z_sn zTab g d p l e R s m args below meth c Q 10 P x := by
  unfold k_Mo_accepts_8
  refine z_k (S_getf cx (T := F_Mo) (N := 43) (k := 29) rfl in_Mo (by decide) rfl w_557 (by decide +kernel)) ?_
  refine z_k (S_iload_n cx (k := 1) (by decide +kernel) rfl) ?_
  refine z_k (S_iload_n cx (k := 3) (by decide +kernel) rfl) ?_
  refine z_k (S_aload_n cx (k := 0) (by decide +kernel) rfl) ?_
  refine z_k (S_getf cx (T := F_Mo) (N := 43) (k := 29) rfl in_Mo (by decide) rfl w_557 (by decide +kernel)) ?_
  refine z_k (S_iload_n cx (k := 1) (by decide +kernel) rfl) ?_
  refine z_k (S_iald cx (by decide +kernel)) ?_
  refine z_k (S_icmp_le cx (off := 7) (by decide +kernel) (by decide)) ?_
  refine z_k (S_iload_n cx (k := 3) (by decide +kernel) rfl) ?_
  refine z_k (S_goto cx (off := 9) (by decide +kernel) (by decide)) ?_
  refine z_k (S_aload_n cx (k := 0) (by decide +kernel) rfl) ?_
  refine z_k (S_getf cx (T := F_Mo) (N := 43) (k := 29) rfl in_Mo (by decide) rfl w_557 (by decide +kernel)) ?_
  refine z_k (S_iload_n cx (k := 1) (by decide +kernel) rfl) ?_
  refine z_k (S_iald cx (by decide +kernel)) ?_
  refine z_k (S_iast cx (by decide +kernel)) ?_
  refine z_k (S_aload_n cx (k := 0) (by decide +kernel) rfl) ?_
  refine z_k (S_getf cx (T := F_Mo) (N := 43) (k := 30) rfl in_Mo (by decide) rfl w_558 (by decide +kernel)) ?_
  refine z_k (S_iload_n cx (k := 1) (by decide +kernel) rfl) ?_
  refine z_k (S_aload_n cx (k := 0) (by decide +kernel) rfl) ?_
  refine z_k (S_getf cx (T := F_Mo) (N := 43) (k := 30) rfl in_Mo (by decide) rfl w_558 (by decide +kernel)) ?_
  refine z_k (S_iload_n cx (k := 1) (by decide +kernel) rfl) ?_
  refine z_k (S_iald cx (by decide +kernel)) ?_
  refine z_k (S_push cx (n := 1) (by decide +kernel) (by decide)) ?_
  refine z_k (S_aload_n cx (k := 0) (by decide +kernel) rfl) ?_
  exact z_k0
set_option maxRecDepth 100000 in
set_option maxHeartbeats 4000000 in
theorem s_Mo_accepts_9 (cx : z_cx zTab g d p l e R s m args below meth c prog_8_method_28_code "SealedTalksModel" 10) (hn : meth.name = "accepts") (hf : z_fin g p l e R s m args below meth c Q prog_8_method_28_code P (some .boolean)) : ∀ x ∈ k_Mo_accepts_9, z_sn zTab g d p l e R s m args below meth c Q 10 P x := by
  unfold k_Mo_accepts_9
  refine z_k (S_getf cx (T := F_Mo) (N := 43) (k := 29) rfl in_Mo (by decide) rfl w_557 (by decide +kernel)) ?_
  refine z_k (S_iload_n cx (k := 1) (by decide +kernel) rfl) ?_
  refine z_k (S_iald cx (by decide +kernel)) ?_
  refine z_k (S_iload_n cx (k := 3) (by decide +kernel) rfl) ?_
  refine z_k (S_isub cx (by decide +kernel)) ?_
  refine z_k (S_ishl cx (by decide +kernel)) ?_
  refine z_k (S_ior cx (by decide +kernel)) ?_
  refine z_k (S_iast cx (by decide +kernel)) ?_
  refine z_k (S_aload_n cx (k := 0) (by decide +kernel) rfl) ?_
  refine z_k (S_iload_n cx (k := 1) (by decide +kernel) rfl) ?_
  refine z_k (S_aload_n cx (k := 0) (by decide +kernel) rfl) ?_
  refine z_k (S_getf cx (T := F_Mo) (N := 43) (k := 2) rfl in_Mo (by decide) rfl w_530 (by decide +kernel)) ?_
  refine z_k (S_iload cx (by decide +kernel)) ?_
  refine z_k (S_iald cx (by decide +kernel)) ?_
  refine z_k (S_callV cx (T := F_Mo) (N := 43) (r := r_Mo_took) rfl ⟨w_748, w_4, by decide, by decide +kernel⟩ w_745 w_747 wp_29 rfl (by decide +kernel)) ?_
  refine z_k (S_push cx (n := 1) (by decide +kernel) (by decide)) ?_
  refine z_k (S_zret (hf.2.2.1 rfl) (by decide +kernel)) ?_
  exact z_k0
theorem s_Mo_accepts : z_snd zTab r_Mo_accepts := ⟨by decide +kernel, w_744, fun g d p l e R s m args below meth c Q P cx hn hf => z_k (s_Mo_accepts_0 cx hn hf) (z_k (s_Mo_accepts_1 cx hn hf) (z_k (s_Mo_accepts_2 cx hn hf) (z_k (s_Mo_accepts_3 cx hn hf) (z_k (s_Mo_accepts_4 cx hn hf) (z_k (s_Mo_accepts_5 cx hn hf) (z_k (s_Mo_accepts_6 cx hn hf) (z_k (s_Mo_accepts_7 cx hn hf) (z_k (s_Mo_accepts_8 cx hn hf) (z_k (s_Mo_accepts_9 cx hn hf) (z_k0))))))))))⟩
end ZR42
