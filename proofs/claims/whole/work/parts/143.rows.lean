/-! Each method of SealedTalksModel is sound (3). By program. -/
section ZR43
variable {g : zG} {d : Nat} {p : Program} {l : Launch} {e : Env} {R : Room} {s : State} {m : MethodId} {args : Array Value} {below : List Frame} {meth : Method} {c : Code} {Q : State → Prop} {P : zP}
set_option maxRecDepth 100000 in
set_option maxHeartbeats 4000000 in
theorem s_Mo_deliver_0 (cx : z_cx zTab g d p l e R s m args below meth c prog_8_method_29_code "SealedTalksModel" 4) (hn : meth.name = "deliver") (hf : z_fin g p l e R s m args below meth c Q prog_8_method_29_code P (some .int)) : ∀ x ∈ k_Mo_deliver_0, z_sn zTab g d p l e R s m args below meth c Q 4 P x := by
  unfold k_Mo_deliver_0
  refine z_k (S_aload_n cx (k := 0) (by decide +kernel) rfl) ?_
  refine z_k (S_iload_n cx (k := 2) (by decide +kernel) rfl) ?_
  refine z_k (S_callV cx (T := F_Mo) (N := 43) (r := r_Mo_isSession) rfl ⟨w_690, w_4, by decide, by decide +kernel⟩ w_687 w_689 wp_17 rfl (by decide +kernel)) ?_
  refine z_k (S_if_eq cx (off := 17) (by decide +kernel) (by decide)) ?_
  refine z_k (S_iload_n cx (k := 1) (by decide +kernel) rfl) ?_
  refine z_k (S_push cx (n := 0) (by decide +kernel) (by decide)) ?_
  refine z_k (S_aload_n cx (k := 0) (by decide +kernel) rfl) ?_
  refine z_k (S_getf cx (T := F_Mo) (N := 43) (k := 7) rfl in_Mo (by decide) rfl w_535 (by decide +kernel)) ?_
  refine z_k (S_push cx (n := 1) (by decide +kernel) (by decide)) ?_
  refine z_k (S_isub cx (by decide +kernel)) ?_
  refine z_k (S_callS cx (r := r_Mo_within) rfl ⟨w_666, w_4, by decide, by decide +kernel⟩ w_664 w_665 (by decide +kernel)) ?_
  refine z_k (S_if_ne cx (off := 5) (by decide +kernel) (by decide)) ?_
  refine z_k (S_push cx (n := -1) (by decide +kernel) (by decide)) ?_
  refine z_k (S_iret (hf.2.1 rfl) (by decide +kernel)) ?_
  refine z_k (S_aload_n cx (k := 0) (by decide +kernel) rfl) ?_
  refine z_k (S_getf cx (T := F_Mo) (N := 43) (k := 24) rfl in_Mo (by decide) rfl w_552 (by decide +kernel)) ?_
  refine z_k (S_iload_n cx (k := 2) (by decide +kernel) rfl) ?_
  refine z_k (S_zald cx (by decide +kernel)) ?_
  refine z_k (S_if_eq cx (off := 6) (by decide +kernel) (by decide)) ?_
  refine z_k (S_bipush cx (n := -2) (by decide +kernel) (by decide)) ?_
  refine z_k (S_iret (hf.2.1 rfl) (by decide +kernel)) ?_
  refine z_k (S_aload_n cx (k := 0) (by decide +kernel) rfl) ?_
  refine z_k (S_iload_n cx (k := 1) (by decide +kernel) rfl) ?_
  refine z_k (S_callV cx (T := F_Mo) (N := 43) (r := r_Mo_fetch) rfl ⟨w_740, w_4, by decide, by decide +kernel⟩ w_737 w_739 wp_27 rfl (by decide +kernel)) ?_
  exact z_k0
set_option maxRecDepth 100000 in
set_option maxHeartbeats 4000000 in
theorem s_Mo_deliver_1 (cx : z_cx zTab g d p l e R s m args below meth c prog_8_method_29_code "SealedTalksModel" 4) (hn : meth.name = "deliver") (hf : z_fin g p l e R s m args below meth c Q prog_8_method_29_code P (some .int)) : ∀ x ∈ k_Mo_deliver_1, z_sn zTab g d p l e R s m args below meth c Q 4 P x := by
  unfold k_Mo_deliver_1
  refine z_k (S_aload_n cx (k := 0) (by decide +kernel) rfl) ?_
  refine z_k (S_iload_n cx (k := 2) (by decide +kernel) rfl) ?_
  refine z_k (S_callV cx (T := F_Mo) (N := 43) (r := r_Mo_isDone) rfl ⟨w_694, w_4, by decide, by decide +kernel⟩ w_691 w_693 wp_18 rfl (by decide +kernel)) ?_
  refine z_k (S_if_eq cx (off := 11) (by decide +kernel) (by decide)) ?_
  refine z_k (S_aload_n cx (k := 0) (by decide +kernel) rfl) ?_
  refine z_k (S_iload_n cx (k := 2) (by decide +kernel) rfl) ?_
  refine z_k (S_callV cx (T := F_Mo) (N := 43) (r := r_Mo_accepts) rfl ⟨w_744, w_4, by decide, by decide +kernel⟩ w_741 w_743 wp_28 rfl (by decide +kernel)) ?_
  refine z_k (S_goto cx (off := 8) (by decide +kernel) (by decide)) ?_
  refine z_k (S_aload_n cx (k := 0) (by decide +kernel) rfl) ?_
  refine z_k (S_iload_n cx (k := 2) (by decide +kernel) rfl) ?_
  refine z_k (S_callV cx (T := F_Mo) (N := 43) (r := r_Mo_reads) rfl ⟨w_752, w_4, by decide, by decide +kernel⟩ w_749 w_751 wp_30 rfl (by decide +kernel)) ?_
  refine z_k (S_istore_n cx (by decide) (k := 3) (by decide +kernel) rfl) ?_
  refine z_k (S_iload_n cx (k := 3) (by decide +kernel) rfl) ?_
  refine z_k (S_if_eq cx (off := 7) (by decide +kernel) (by decide)) ?_
  refine z_k (S_push cx (n := 1) (by decide +kernel) (by decide)) ?_
  refine z_k (S_goto cx (off := 4) (by decide +kernel) (by decide)) ?_
  refine z_k (S_push cx (n := 0) (by decide +kernel) (by decide)) ?_
  refine z_k (S_iret (hf.2.1 rfl) (by decide +kernel)) ?_
  exact z_k0
theorem s_Mo_deliver : z_snd zTab r_Mo_deliver := ⟨by decide +kernel, w_736, fun g d p l e R s m args below meth c Q P cx hn hf => z_k (s_Mo_deliver_0 cx hn hf) (z_k (s_Mo_deliver_1 cx hn hf) (z_k0))⟩
set_option maxRecDepth 100000 in
set_option maxHeartbeats 4000000 in
theorem s_Mo_send_0 (cx : z_cx zTab g d p l e R s m args below meth c prog_8_method_30_code "SealedTalksModel" 6) (hn : meth.name = "send") (hf : z_fin g p l e R s m args below meth c Q prog_8_method_30_code P (some .int)) : ∀ x ∈ k_Mo_send_0, z_sn zTab g d p l e R s m args below meth c Q 6 P x := by
  unfold k_Mo_send_0
  refine z_k (S_aload_n cx (k := 0) (by decide +kernel) rfl) ?_
  refine z_k (S_iload_n cx (k := 1) (by decide +kernel) rfl) ?_
  refine z_k (S_callV cx (T := F_Mo) (N := 43) (r := r_Mo_isSession) rfl ⟨w_690, w_4, by decide, by decide +kernel⟩ w_687 w_689 wp_17 rfl (by decide +kernel)) ?_
  refine z_k (S_if_ne cx (off := 5) (by decide +kernel) (by decide)) ?_
  refine z_k (S_push cx (n := -1) (by decide +kernel) (by decide)) ?_
  refine z_k (S_iret (hf.2.1 rfl) (by decide +kernel)) ?_
  refine z_k (S_aload_n cx (k := 0) (by decide +kernel) rfl) ?_
  refine z_k (S_getf cx (T := F_Mo) (N := 43) (k := 24) rfl in_Mo (by decide) rfl w_552 (by decide +kernel)) ?_
  refine z_k (S_iload_n cx (k := 1) (by decide +kernel) rfl) ?_
  refine z_k (S_zald cx (by decide +kernel)) ?_
  refine z_k (S_if_eq cx (off := 6) (by decide +kernel) (by decide)) ?_
  refine z_k (S_bipush cx (n := -2) (by decide +kernel) (by decide)) ?_
  refine z_k (S_iret (hf.2.1 rfl) (by decide +kernel)) ?_
  refine z_k (S_aload_n cx (k := 0) (by decide +kernel) rfl) ?_
  refine z_k (S_iload_n cx (k := 1) (by decide +kernel) rfl) ?_
  refine z_k (S_callV cx (T := F_Mo) (N := 43) (r := r_Mo_isDone) rfl ⟨w_694, w_4, by decide, by decide +kernel⟩ w_691 w_693 wp_18 rfl (by decide +kernel)) ?_
  refine z_k (S_if_ne cx (off := 6) (by decide +kernel) (by decide)) ?_
  refine z_k (S_bipush cx (n := -3) (by decide +kernel) (by decide)) ?_
  refine z_k (S_iret (hf.2.1 rfl) (by decide +kernel)) ?_
  refine z_k (S_aload_n cx (k := 0) (by decide +kernel) rfl) ?_
  refine z_k (S_getf cx (T := F_Mo) (N := 43) (k := 7) rfl in_Mo (by decide) rfl w_535 (by decide +kernel)) ?_
  refine z_k (S_bipush cx (n := 60) (by decide +kernel) (by decide)) ?_
  refine z_k (S_icmp_ne cx (off := 6) (by decide +kernel) (by decide)) ?_
  refine z_k (S_bipush cx (n := -4) (by decide +kernel) (by decide)) ?_
  exact z_k0
set_option maxRecDepth 100000 in
set_option maxHeartbeats 4000000 in
theorem s_Mo_send_1 (cx : z_cx zTab g d p l e R s m args below meth c prog_8_method_30_code "SealedTalksModel" 6) (hn : meth.name = "send") (hf : z_fin g p l e R s m args below meth c Q prog_8_method_30_code P (some .int)) : ∀ x ∈ k_Mo_send_1, z_sn zTab g d p l e R s m args below meth c Q 6 P x := by
  unfold k_Mo_send_1
  refine z_k (S_iret (hf.2.1 rfl) (by decide +kernel)) ?_
  refine z_k (S_aload_n cx (k := 0) (by decide +kernel) rfl) ?_
  refine z_k (S_bipush cx (n := 7) (by decide +kernel) (by decide)) ?_
  refine z_k (S_aload_n cx (k := 0) (by decide +kernel) rfl) ?_
  refine z_k (S_getf cx (T := F_Mo) (N := 43) (k := 14) rfl in_Mo (by decide) rfl w_542 (by decide +kernel)) ?_
  refine z_k (S_iload_n cx (k := 1) (by decide +kernel) rfl) ?_
  refine z_k (S_zald cx (by decide +kernel)) ?_
  refine z_k (S_if_eq cx (off := 7) (by decide +kernel) (by decide)) ?_
  refine z_k (S_push cx (n := 1) (by decide +kernel) (by decide)) ?_
  refine z_k (S_goto cx (off := 4) (by decide +kernel) (by decide)) ?_
  refine z_k (S_push cx (n := 2) (by decide +kernel) (by decide)) ?_
  refine z_k (S_aload_n cx (k := 0) (by decide +kernel) rfl) ?_
  refine z_k (S_getf cx (T := F_Mo) (N := 43) (k := 20) rfl in_Mo (by decide) rfl w_548 (by decide +kernel)) ?_
  refine z_k (S_iload_n cx (k := 1) (by decide +kernel) rfl) ?_
  refine z_k (S_iald cx (by decide +kernel)) ?_
  refine z_k (S_push cx (n := 0) (by decide +kernel) (by decide)) ?_
  refine z_k (S_push cx (n := 0) (by decide +kernel) (by decide)) ?_
  refine z_k (S_callV cx (T := F_Mo) (N := 43) (r := r_Mo_term) rfl ⟨w_674, w_4, by decide, by decide +kernel⟩ w_671 w_673 wp_14 rfl (by decide +kernel)) ?_
  refine z_k (S_istore_n cx (by decide) (k := 3) (by decide +kernel) rfl) ?_
  refine z_k (S_aload_n cx (k := 0) (by decide +kernel) rfl) ?_
  refine z_k (S_push cx (n := 0) (by decide +kernel) (by decide)) ?_
  refine z_k (S_callV cx (T := F_Mo) (N := 43) (r := r_Mo_num) rfl ⟨w_670, w_4, by decide, by decide +kernel⟩ w_667 w_669 wp_13 rfl (by decide +kernel)) ?_
  refine z_k (S_istore cx (by decide) (by decide +kernel)) ?_
  refine z_k (S_aload_n cx (k := 0) (by decide +kernel) rfl) ?_
  exact z_k0
set_option maxRecDepth 100000 in
set_option maxHeartbeats 4000000 in
theorem s_Mo_send_2 (cx : z_cx zTab g d p l e R s m args below meth c prog_8_method_30_code "SealedTalksModel" 6) (hn : meth.name = "send") (hf : z_fin g p l e R s m args below meth c Q prog_8_method_30_code P (some .int)) : ∀ x ∈ k_Mo_send_2, z_sn zTab g d p l e R s m args below meth c Q 6 P x := by
  unfold k_Mo_send_2
  refine z_k (S_iload_n cx (k := 2) (by decide +kernel) rfl) ?_
  refine z_k (S_callV cx (T := F_Mo) (N := 43) (r := r_Mo_num) rfl ⟨w_670, w_4, by decide, by decide +kernel⟩ w_667 w_669 wp_13 rfl (by decide +kernel)) ?_
  refine z_k (S_istore cx (by decide) (by decide +kernel)) ?_
  refine z_k (S_aload_n cx (k := 0) (by decide +kernel) rfl) ?_
  refine z_k (S_getf cx (T := F_Mo) (N := 43) (k := 40) rfl in_Mo (by decide) rfl w_568 (by decide +kernel)) ?_
  refine z_k (S_push cx (n := 0) (by decide +kernel) (by decide)) ?_
  refine z_k (S_aload_n cx (k := 0) (by decide +kernel) rfl) ?_
  refine z_k (S_aload_n cx (k := 0) (by decide +kernel) rfl) ?_
  refine z_k (S_getf cx (T := F_Mo) (N := 43) (k := 28) rfl in_Mo (by decide) rfl w_556 (by decide +kernel)) ?_
  refine z_k (S_iload_n cx (k := 1) (by decide +kernel) rfl) ?_
  refine z_k (S_iald cx (by decide +kernel)) ?_
  refine z_k (S_callV cx (T := F_Mo) (N := 43) (r := r_Mo_num) rfl ⟨w_670, w_4, by decide, by decide +kernel⟩ w_667 w_669 wp_13 rfl (by decide +kernel)) ?_
  refine z_k (S_iast cx (by decide +kernel)) ?_
  refine z_k (S_aload_n cx (k := 0) (by decide +kernel) rfl) ?_
  refine z_k (S_getf cx (T := F_Mo) (N := 43) (k := 40) rfl in_Mo (by decide) rfl w_568 (by decide +kernel)) ?_
  refine z_k (S_push cx (n := 1) (by decide +kernel) (by decide)) ?_
  refine z_k (S_aload_n cx (k := 0) (by decide +kernel) rfl) ?_
  refine z_k (S_bipush cx (n := 8) (by decide +kernel) (by decide)) ?_
  refine z_k (S_aload_n cx (k := 0) (by decide +kernel) rfl) ?_
  refine z_k (S_getf cx (T := F_Mo) (N := 43) (k := 28) rfl in_Mo (by decide) rfl w_556 (by decide +kernel)) ?_
  refine z_k (S_iload_n cx (k := 1) (by decide +kernel) rfl) ?_
  refine z_k (S_iald cx (by decide +kernel)) ?_
  refine z_k (S_iload_n cx (k := 3) (by decide +kernel) rfl) ?_
  refine z_k (S_iload cx (by decide +kernel)) ?_
  exact z_k0
set_option maxRecDepth 100000 in
set_option maxHeartbeats 4000000 in
theorem s_Mo_send_3 (cx : z_cx zTab g d p l e R s m args below meth c prog_8_method_30_code "SealedTalksModel" 6) (hn : meth.name = "send") (hf : z_fin g p l e R s m args below meth c Q prog_8_method_30_code P (some .int)) : ∀ x ∈ k_Mo_send_3, z_sn zTab g d p l e R s m args below meth c Q 6 P x := by
  unfold k_Mo_send_3
  refine z_k (S_iload cx (by decide +kernel)) ?_
  refine z_k (S_callV cx (T := F_Mo) (N := 43) (r := r_Mo_term) rfl ⟨w_674, w_4, by decide, by decide +kernel⟩ w_671 w_673 wp_14 rfl (by decide +kernel)) ?_
  refine z_k (S_iast cx (by decide +kernel)) ?_
  refine z_k (S_aload_n cx (k := 0) (by decide +kernel) rfl) ?_
  refine z_k (S_getf cx (T := F_Mo) (N := 43) (k := 28) rfl in_Mo (by decide) rfl w_556 (by decide +kernel)) ?_
  refine z_k (S_iload_n cx (k := 1) (by decide +kernel) rfl) ?_
  refine z_k (S_aload_n cx (k := 0) (by decide +kernel) rfl) ?_
  refine z_k (S_getf cx (T := F_Mo) (N := 43) (k := 28) rfl in_Mo (by decide) rfl w_556 (by decide +kernel)) ?_
  refine z_k (S_iload_n cx (k := 1) (by decide +kernel) rfl) ?_
  refine z_k (S_iald cx (by decide +kernel)) ?_
  refine z_k (S_push cx (n := 1) (by decide +kernel) (by decide)) ?_
  refine z_k (S_iadd cx (by decide +kernel)) ?_
  refine z_k (S_iast cx (by decide +kernel)) ?_
  refine z_k (S_aload_n cx (k := 0) (by decide +kernel) rfl) ?_
  refine z_k (S_push cx (n := 2) (by decide +kernel) (by decide)) ?_
  refine z_k (S_callV cx (T := F_Mo) (N := 43) (r := r_Mo_newMessage) rfl ⟨w_732, w_4, by decide, by decide +kernel⟩ w_729 w_731 wp_26 rfl (by decide +kernel)) ?_
  refine z_k (S_iret (hf.2.1 rfl) (by decide +kernel)) ?_
  exact z_k0
theorem s_Mo_send : z_snd zTab r_Mo_send := ⟨by decide +kernel, w_768, fun g d p l e R s m args below meth c Q P cx hn hf => z_k (s_Mo_send_0 cx hn hf) (z_k (s_Mo_send_1 cx hn hf) (z_k (s_Mo_send_2 cx hn hf) (z_k (s_Mo_send_3 cx hn hf) (z_k0))))⟩
set_option maxRecDepth 100000 in
set_option maxHeartbeats 4000000 in
theorem s_Mo_isPart_0 (cx : z_cx zTab g d p l e R s m args below meth c prog_8_method_31_code "SealedTalksModel" 3) (hn : meth.name = "isPart") (hf : z_fin g p l e R s m args below meth c Q prog_8_method_31_code P (some .boolean)) : ∀ x ∈ k_Mo_isPart_0, z_sn zTab g d p l e R s m args below meth c Q 3 P x := by
  unfold k_Mo_isPart_0
  refine z_k (S_iload_n cx (k := 1) (by decide +kernel) rfl) ?_
  refine z_k (S_push cx (n := 0) (by decide +kernel) (by decide)) ?_
  refine z_k (S_aload_n cx (k := 0) (by decide +kernel) rfl) ?_
  refine z_k (S_getf cx (T := F_Mo) (N := 43) (k := 7) rfl in_Mo (by decide) rfl w_535 (by decide +kernel)) ?_
  refine z_k (S_push cx (n := 1) (by decide +kernel) (by decide)) ?_
  refine z_k (S_isub cx (by decide +kernel)) ?_
  refine z_k (S_callS cx (r := r_Mo_within) rfl ⟨w_666, w_4, by decide, by decide +kernel⟩ w_664 w_665 (by decide +kernel)) ?_
  refine z_k (S_if_eq cx (off := 23) (by decide +kernel) (by decide)) ?_
  refine z_k (S_iload_n cx (k := 2) (by decide +kernel) rfl) ?_
  refine z_k (S_push cx (n := 0) (by decide +kernel) (by decide)) ?_
  refine z_k (S_aload_n cx (k := 0) (by decide +kernel) rfl) ?_
  refine z_k (S_getf cx (T := F_Mo) (N := 43) (k := 8) rfl in_Mo (by decide) rfl w_536 (by decide +kernel)) ?_
  refine z_k (S_iload_n cx (k := 1) (by decide +kernel) rfl) ?_
  refine z_k (S_iald cx (by decide +kernel)) ?_
  refine z_k (S_push cx (n := 1) (by decide +kernel) (by decide)) ?_
  refine z_k (S_isub cx (by decide +kernel)) ?_
  refine z_k (S_callS cx (r := r_Mo_within) rfl ⟨w_666, w_4, by decide, by decide +kernel⟩ w_664 w_665 (by decide +kernel)) ?_
  refine z_k (S_if_eq cx (off := 7) (by decide +kernel) (by decide)) ?_
  refine z_k (S_push cx (n := 1) (by decide +kernel) (by decide)) ?_
  refine z_k (S_goto cx (off := 4) (by decide +kernel) (by decide)) ?_
  refine z_k (S_push cx (n := 0) (by decide +kernel) (by decide)) ?_
  refine z_k (S_zret (hf.2.2.1 rfl) (by decide +kernel)) ?_
  exact z_k0
theorem s_Mo_isPart : z_snd zTab r_Mo_isPart := ⟨by decide +kernel, w_776, fun g d p l e R s m args below meth c Q P cx hn hf => z_k (s_Mo_isPart_0 cx hn hf) (z_k0)⟩
set_option maxRecDepth 100000 in
set_option maxHeartbeats 4000000 in
theorem s_Mo_splice_0 (cx : z_cx zTab g d p l e R s m args below meth c prog_8_method_32_code "SealedTalksModel" 5) (hn : meth.name = "splice") (hf : z_fin g p l e R s m args below meth c Q prog_8_method_32_code P (some .int)) : ∀ x ∈ k_Mo_splice_0, z_sn zTab g d p l e R s m args below meth c Q 5 P x := by
  unfold k_Mo_splice_0
  refine z_k (S_aload_n cx (k := 0) (by decide +kernel) rfl) ?_
  refine z_k (S_iload_n cx (k := 1) (by decide +kernel) rfl) ?_
  refine z_k (S_iload_n cx (k := 2) (by decide +kernel) rfl) ?_
  refine z_k (S_callV cx (T := F_Mo) (N := 43) (r := r_Mo_isPart) rfl ⟨w_776, w_4, by decide, by decide +kernel⟩ w_773 w_775 wp_34 rfl (by decide +kernel)) ?_
  refine z_k (S_if_eq cx (off := 13) (by decide +kernel) (by decide)) ?_
  refine z_k (S_aload_n cx (k := 0) (by decide +kernel) rfl) ?_
  refine z_k (S_iload_n cx (k := 3) (by decide +kernel) rfl) ?_
  refine z_k (S_iload cx (by decide +kernel)) ?_
  refine z_k (S_callV cx (T := F_Mo) (N := 43) (r := r_Mo_isPart) rfl ⟨w_776, w_4, by decide, by decide +kernel⟩ w_773 w_775 wp_34 rfl (by decide +kernel)) ?_
  refine z_k (S_if_ne cx (off := 5) (by decide +kernel) (by decide)) ?_
  refine z_k (S_push cx (n := -1) (by decide +kernel) (by decide)) ?_
  refine z_k (S_iret (hf.2.1 rfl) (by decide +kernel)) ?_
  refine z_k (S_aload_n cx (k := 0) (by decide +kernel) rfl) ?_
  refine z_k (S_getf cx (T := F_Mo) (N := 43) (k := 7) rfl in_Mo (by decide) rfl w_535 (by decide +kernel)) ?_
  refine z_k (S_bipush cx (n := 60) (by decide +kernel) (by decide)) ?_
  refine z_k (S_icmp_ne cx (off := 6) (by decide +kernel) (by decide)) ?_
  refine z_k (S_bipush cx (n := -4) (by decide +kernel) (by decide)) ?_
  refine z_k (S_iret (hf.2.1 rfl) (by decide +kernel)) ?_
  refine z_k (S_aload_n cx (k := 0) (by decide +kernel) rfl) ?_
  refine z_k (S_iload_n cx (k := 1) (by decide +kernel) rfl) ?_
  refine z_k (S_callV cx (T := F_Mo) (N := 43) (r := r_Mo_fetch) rfl ⟨w_740, w_4, by decide, by decide +kernel⟩ w_737 w_739 wp_27 rfl (by decide +kernel)) ?_
  refine z_k (S_aload_n cx (k := 0) (by decide +kernel) rfl) ?_
  refine z_k (S_getf cx (T := F_Mo) (N := 43) (k := 40) rfl in_Mo (by decide) rfl w_568 (by decide +kernel)) ?_
  refine z_k (S_iload_n cx (k := 2) (by decide +kernel) rfl) ?_
  exact z_k0
set_option maxRecDepth 100000 in
set_option maxHeartbeats 4000000 in
theorem s_Mo_splice_1 (cx : z_cx zTab g d p l e R s m args below meth c prog_8_method_32_code "SealedTalksModel" 5) (hn : meth.name = "splice") (hf : z_fin g p l e R s m args below meth c Q prog_8_method_32_code P (some .int)) : ∀ x ∈ k_Mo_splice_1, z_sn zTab g d p l e R s m args below meth c Q 5 P x := by
  unfold k_Mo_splice_1
  refine z_k (S_aload_n cx (k := 0) (by decide +kernel) rfl) ?_
  refine z_k (S_getf cx (T := F_Mo) (N := 43) (k := 9) rfl in_Mo (by decide) rfl w_537 (by decide +kernel)) ?_
  refine z_k (S_push cx (n := 3) (by decide +kernel) (by decide)) ?_
  refine z_k (S_iload_n cx (k := 3) (by decide +kernel) rfl) ?_
  refine z_k (S_imul cx (by decide +kernel)) ?_
  refine z_k (S_iload cx (by decide +kernel)) ?_
  refine z_k (S_iadd cx (by decide +kernel)) ?_
  refine z_k (S_iald cx (by decide +kernel)) ?_
  refine z_k (S_iast cx (by decide +kernel)) ?_
  refine z_k (S_aload_n cx (k := 0) (by decide +kernel) rfl) ?_
  refine z_k (S_aload_n cx (k := 0) (by decide +kernel) rfl) ?_
  refine z_k (S_getf cx (T := F_Mo) (N := 43) (k := 39) rfl in_Mo (by decide) rfl w_567 (by decide +kernel)) ?_
  refine z_k (S_callV cx (T := F_Mo) (N := 43) (r := r_Mo_newMessage) rfl ⟨w_732, w_4, by decide, by decide +kernel⟩ w_729 w_731 wp_26 rfl (by decide +kernel)) ?_
  refine z_k (S_iret (hf.2.1 rfl) (by decide +kernel)) ?_
  exact z_k0
theorem s_Mo_splice : z_snd zTab r_Mo_splice := ⟨by decide +kernel, w_772, fun g d p l e R s m args below meth c Q P cx hn hf => z_k (s_Mo_splice_0 cx hn hf) (z_k (s_Mo_splice_1 cx hn hf) (z_k0))⟩
set_option maxRecDepth 100000 in
set_option maxHeartbeats 4000000 in
theorem s_Mo_replace_0 (cx : z_cx zTab g d p l e R s m args below meth c prog_8_method_33_code "SealedTalksModel" 4) (hn : meth.name = "replace") (hf : z_fin g p l e R s m args below meth c Q prog_8_method_33_code P (some .int)) : ∀ x ∈ k_Mo_replace_0, z_sn zTab g d p l e R s m args below meth c Q 4 P x := by
  unfold k_Mo_replace_0
  refine z_k (S_aload_n cx (k := 0) (by decide +kernel) rfl) ?_
  refine z_k (S_iload_n cx (k := 1) (by decide +kernel) rfl) ?_
  refine z_k (S_iload_n cx (k := 2) (by decide +kernel) rfl) ?_
  refine z_k (S_callV cx (T := F_Mo) (N := 43) (r := r_Mo_isPart) rfl ⟨w_776, w_4, by decide, by decide +kernel⟩ w_773 w_775 wp_34 rfl (by decide +kernel)) ?_
  refine z_k (S_if_ne cx (off := 5) (by decide +kernel) (by decide)) ?_
  refine z_k (S_push cx (n := -1) (by decide +kernel) (by decide)) ?_
  refine z_k (S_iret (hf.2.1 rfl) (by decide +kernel)) ?_
  refine z_k (S_aload_n cx (k := 0) (by decide +kernel) rfl) ?_
  refine z_k (S_getf cx (T := F_Mo) (N := 43) (k := 7) rfl in_Mo (by decide) rfl w_535 (by decide +kernel)) ?_
  refine z_k (S_bipush cx (n := 60) (by decide +kernel) (by decide)) ?_
  refine z_k (S_icmp_ne cx (off := 6) (by decide +kernel) (by decide)) ?_
  refine z_k (S_bipush cx (n := -4) (by decide +kernel) (by decide)) ?_
  refine z_k (S_iret (hf.2.1 rfl) (by decide +kernel)) ?_
  refine z_k (S_aload_n cx (k := 0) (by decide +kernel) rfl) ?_
  refine z_k (S_iload_n cx (k := 1) (by decide +kernel) rfl) ?_
  refine z_k (S_callV cx (T := F_Mo) (N := 43) (r := r_Mo_fetch) rfl ⟨w_740, w_4, by decide, by decide +kernel⟩ w_737 w_739 wp_27 rfl (by decide +kernel)) ?_
  refine z_k (S_aload_n cx (k := 0) (by decide +kernel) rfl) ?_
  refine z_k (S_getf cx (T := F_Mo) (N := 43) (k := 40) rfl in_Mo (by decide) rfl w_568 (by decide +kernel)) ?_
  refine z_k (S_iload_n cx (k := 2) (by decide +kernel) rfl) ?_
  refine z_k (S_aload_n cx (k := 0) (by decide +kernel) rfl) ?_
  refine z_k (S_iload_n cx (k := 3) (by decide +kernel) rfl) ?_
  refine z_k (S_callV cx (T := F_Mo) (N := 43) (r := r_Mo_num) rfl ⟨w_670, w_4, by decide, by decide +kernel⟩ w_667 w_669 wp_13 rfl (by decide +kernel)) ?_
  refine z_k (S_iast cx (by decide +kernel)) ?_
  refine z_k (S_aload_n cx (k := 0) (by decide +kernel) rfl) ?_
  exact z_k0
set_option maxRecDepth 100000 in
set_option maxHeartbeats 4000000 in
theorem s_Mo_replace_1 (cx : z_cx zTab g d p l e R s m args below meth c prog_8_method_33_code "SealedTalksModel" 4) (hn : meth.name = "replace") (hf : z_fin g p l e R s m args below meth c Q prog_8_method_33_code P (some .int)) : ∀ x ∈ k_Mo_replace_1, z_sn zTab g d p l e R s m args below meth c Q 4 P x := by
  unfold k_Mo_replace_1
  refine z_k (S_aload_n cx (k := 0) (by decide +kernel) rfl) ?_
  refine z_k (S_getf cx (T := F_Mo) (N := 43) (k := 39) rfl in_Mo (by decide) rfl w_567 (by decide +kernel)) ?_
  refine z_k (S_callV cx (T := F_Mo) (N := 43) (r := r_Mo_newMessage) rfl ⟨w_732, w_4, by decide, by decide +kernel⟩ w_729 w_731 wp_26 rfl (by decide +kernel)) ?_
  refine z_k (S_iret (hf.2.1 rfl) (by decide +kernel)) ?_
  exact z_k0
theorem s_Mo_replace : z_snd zTab r_Mo_replace := ⟨by decide +kernel, w_780, fun g d p l e R s m args below meth c Q P cx hn hf => z_k (s_Mo_replace_0 cx hn hf) (z_k (s_Mo_replace_1 cx hn hf) (z_k0))⟩
set_option maxRecDepth 100000 in
set_option maxHeartbeats 4000000 in
theorem s_Mo_give_0 (cx : z_cx zTab g d p l e R s m args below meth c prog_8_method_34_code "SealedTalksModel" 2) (hn : meth.name = "give") (hf : z_fin g p l e R s m args below meth c Q prog_8_method_34_code P (some .boolean)) : ∀ x ∈ k_Mo_give_0, z_sn zTab g d p l e R s m args below meth c Q 2 P x := by
  unfold k_Mo_give_0
  refine z_k (S_iload_n cx (k := 1) (by decide +kernel) rfl) ?_
  refine z_k (S_push cx (n := 1) (by decide +kernel) (by decide)) ?_
  refine z_k (S_bipush cx (n := 8) (by decide +kernel) (by decide)) ?_
  refine z_k (S_aload_n cx (k := 0) (by decide +kernel) rfl) ?_
  refine z_k (S_getf cx (T := F_Mo) (N := 43) (k := 10) rfl in_Mo (by decide) rfl w_538 (by decide +kernel)) ?_
  refine z_k (S_iadd cx (by decide +kernel)) ?_
  refine z_k (S_callS cx (r := r_Mo_within) rfl ⟨w_666, w_4, by decide, by decide +kernel⟩ w_664 w_665 (by decide +kernel)) ?_
  refine z_k (S_if_eq cx (off := 12) (by decide +kernel) (by decide)) ?_
  refine z_k (S_aload_n cx (k := 0) (by decide +kernel) rfl) ?_
  refine z_k (S_getf cx (T := F_Mo) (N := 43) (k := 11) rfl in_Mo (by decide) rfl w_539 (by decide +kernel)) ?_
  refine z_k (S_iload_n cx (k := 1) (by decide +kernel) rfl) ?_
  refine z_k (S_zald cx (by decide +kernel)) ?_
  refine z_k (S_if_eq cx (off := 5) (by decide +kernel) (by decide)) ?_
  refine z_k (S_push cx (n := 0) (by decide +kernel) (by decide)) ?_
  refine z_k (S_zret (hf.2.2.1 rfl) (by decide +kernel)) ?_
  refine z_k (S_aload_n cx (k := 0) (by decide +kernel) rfl) ?_
  refine z_k (S_getf cx (T := F_Mo) (N := 43) (k := 11) rfl in_Mo (by decide) rfl w_539 (by decide +kernel)) ?_
  refine z_k (S_iload_n cx (k := 1) (by decide +kernel) rfl) ?_
  refine z_k (S_push cx (n := 1) (by decide +kernel) (by decide)) ?_
  refine z_k (S_zast cx (by decide +kernel)) ?_
  refine z_k (S_push cx (n := 1) (by decide +kernel) (by decide)) ?_
  refine z_k (S_zret (hf.2.2.1 rfl) (by decide +kernel)) ?_
  exact z_k0
theorem s_Mo_give : z_snd zTab r_Mo_give := ⟨by decide +kernel, w_784, fun g d p l e R s m args below meth c Q P cx hn hf => z_k (s_Mo_give_0 cx hn hf) (z_k0)⟩
set_option maxRecDepth 100000 in
set_option maxHeartbeats 4000000 in
theorem s_Mo_tick_0 (cx : z_cx zTab g d p l e R s m args below meth c prog_8_method_35_code "SealedTalksModel" 3) (hn : meth.name = "tick") (hf : z_fin g p l e R s m args below meth c Q prog_8_method_35_code P (some .int)) : ∀ x ∈ k_Mo_tick_0, z_sn zTab g d p l e R s m args below meth c Q 3 P x := by
  unfold k_Mo_tick_0
  refine z_k (S_push cx (n := 0) (by decide +kernel) (by decide)) ?_
  refine z_k (S_istore_n cx (by decide) (k := 1) (by decide +kernel) rfl) ?_
  refine z_k (S_push cx (n := 0) (by decide +kernel) (by decide)) ?_
  refine z_k (S_istore_n cx (by decide) (k := 2) (by decide +kernel) rfl) ?_
  refine z_k (S_iload_n cx (k := 2) (by decide +kernel) rfl) ?_
  refine z_k (S_aload_n cx (k := 0) (by decide +kernel) rfl) ?_
  refine z_k (S_getf cx (T := F_Mo) (N := 43) (k := 12) rfl in_Mo (by decide) rfl w_540 (by decide +kernel)) ?_
  refine z_k (S_icmp_ge cx (off := 84) (by decide +kernel) (by decide)) ?_
  refine z_k (S_aload_n cx (k := 0) (by decide +kernel) rfl) ?_
  refine z_k (S_getf cx (T := F_Mo) (N := 43) (k := 24) rfl in_Mo (by decide) rfl w_552 (by decide +kernel)) ?_
  refine z_k (S_iload_n cx (k := 2) (by decide +kernel) rfl) ?_
  refine z_k (S_zald cx (by decide +kernel)) ?_
  refine z_k (S_if_ne cx (off := 69) (by decide +kernel) (by decide)) ?_
  refine z_k (S_aload_n cx (k := 0) (by decide +kernel) rfl) ?_
  refine z_k (S_getf cx (T := F_Mo) (N := 43) (k := 25) rfl in_Mo (by decide) rfl w_553 (by decide +kernel)) ?_
  refine z_k (S_iload_n cx (k := 2) (by decide +kernel) rfl) ?_
  refine z_k (S_aload_n cx (k := 0) (by decide +kernel) rfl) ?_
  refine z_k (S_getf cx (T := F_Mo) (N := 43) (k := 25) rfl in_Mo (by decide) rfl w_553 (by decide +kernel)) ?_
  refine z_k (S_iload_n cx (k := 2) (by decide +kernel) rfl) ?_
  refine z_k (S_iald cx (by decide +kernel)) ?_
  refine z_k (S_push cx (n := 1) (by decide +kernel) (by decide)) ?_
  refine z_k (S_iadd cx (by decide +kernel)) ?_
  refine z_k (S_iast cx (by decide +kernel)) ?_
  refine z_k (S_aload_n cx (k := 0) (by decide +kernel) rfl) ?_
  exact z_k0
set_option maxRecDepth 100000 in
set_option maxHeartbeats 4000000 in
theorem s_Mo_tick_1 (cx : z_cx zTab g d p l e R s m args below meth c prog_8_method_35_code "SealedTalksModel" 3) (hn : meth.name = "tick") (hf : z_fin g p l e R s m args below meth c Q prog_8_method_35_code P (some .int)) : ∀ x ∈ k_Mo_tick_1, z_sn zTab g d p l e R s m args below meth c Q 3 P x := by
  unfold k_Mo_tick_1
  refine z_k (S_getf cx (T := F_Mo) (N := 43) (k := 24) rfl in_Mo (by decide) rfl w_552 (by decide +kernel)) ?_
  refine z_k (S_iload_n cx (k := 2) (by decide +kernel) rfl) ?_
  refine z_k (S_aload_n cx (k := 0) (by decide +kernel) rfl) ?_
  refine z_k (S_getf cx (T := F_Mo) (N := 43) (k := 25) rfl in_Mo (by decide) rfl w_553 (by decide +kernel)) ?_
  refine z_k (S_iload_n cx (k := 2) (by decide +kernel) rfl) ?_
  refine z_k (S_iald cx (by decide +kernel)) ?_
  refine z_k (S_aload_n cx (k := 0) (by decide +kernel) rfl) ?_
  refine z_k (S_iload_n cx (k := 2) (by decide +kernel) rfl) ?_
  refine z_k (S_callV cx (T := F_Mo) (N := 43) (r := r_Mo_isDone) rfl ⟨w_694, w_4, by decide, by decide +kernel⟩ w_691 w_693 wp_18 rfl (by decide +kernel)) ?_
  refine z_k (S_if_eq cx (off := 8) (by decide +kernel) (by decide)) ?_
  refine z_k (S_bipush cx (n := 30) (by decide +kernel) (by decide)) ?_
  refine z_k (S_goto cx (off := 5) (by decide +kernel) (by decide)) ?_
  refine z_k (S_bipush cx (n := 6) (by decide +kernel) (by decide)) ?_
  refine z_k (S_icmp_ne cx (off := 7) (by decide +kernel) (by decide)) ?_
  refine z_k (S_push cx (n := 1) (by decide +kernel) (by decide)) ?_
  refine z_k (S_goto cx (off := 4) (by decide +kernel) (by decide)) ?_
  refine z_k (S_push cx (n := 0) (by decide +kernel) (by decide)) ?_
  refine z_k (S_zast cx (by decide +kernel)) ?_
  refine z_k (S_aload_n cx (k := 0) (by decide +kernel) rfl) ?_
  refine z_k (S_getf cx (T := F_Mo) (N := 43) (k := 24) rfl in_Mo (by decide) rfl w_552 (by decide +kernel)) ?_
  refine z_k (S_iload_n cx (k := 2) (by decide +kernel) rfl) ?_
  refine z_k (S_zald cx (by decide +kernel)) ?_
  refine z_k (S_if_eq cx (off := 9) (by decide +kernel) (by decide)) ?_
  refine z_k (S_iload_n cx (k := 1) (by decide +kernel) rfl) ?_
  exact z_k0
set_option maxRecDepth 100000 in
set_option maxHeartbeats 4000000 in
theorem s_Mo_tick_2 (cx : z_cx zTab g d p l e R s m args below meth c prog_8_method_35_code "SealedTalksModel" 3) (hn : meth.name = "tick") (hf : z_fin g p l e R s m args below meth c Q prog_8_method_35_code P (some .int)) : ∀ x ∈ k_Mo_tick_2, z_sn zTab g d p l e R s m args below meth c Q 3 P x := by
  unfold k_Mo_tick_2
  refine z_k (S_push cx (n := 1) (by decide +kernel) (by decide)) ?_
  refine z_k (S_iadd cx (by decide +kernel)) ?_
  refine z_k (S_goto cx (off := 4) (by decide +kernel) (by decide)) ?_
  refine z_k (S_iload_n cx (k := 1) (by decide +kernel) rfl) ?_
  refine z_k (S_istore_n cx (by decide) (k := 1) (by decide +kernel) rfl) ?_
  refine z_k (S_iinc cx (n := 1) (by decide) (by decide +kernel) (by decide)) ?_
  refine z_k (S_goto cx (off := -86) (by decide +kernel) (by decide)) ?_
  refine z_k (S_iload_n cx (k := 1) (by decide +kernel) rfl) ?_
  refine z_k (S_iret (hf.2.1 rfl) (by decide +kernel)) ?_
  exact z_k0
theorem s_Mo_tick : z_snd zTab r_Mo_tick := ⟨by decide +kernel, w_788, fun g d p l e R s m args below meth c Q P cx hn hf => z_k (s_Mo_tick_0 cx hn hf) (z_k (s_Mo_tick_1 cx hn hf) (z_k (s_Mo_tick_2 cx hn hf) (z_k0)))⟩
set_option maxRecDepth 100000 in
set_option maxHeartbeats 4000000 in
theorem s_Mo_state_0 (cx : z_cx zTab g d p l e R s m args below meth c prog_8_method_36_code "SealedTalksModel" 2) (hn : meth.name = "state") (hf : z_fin g p l e R s m args below meth c Q prog_8_method_36_code P (some .int)) : ∀ x ∈ k_Mo_state_0, z_sn zTab g d p l e R s m args below meth c Q 2 P x := by
  unfold k_Mo_state_0
  refine z_k (S_aload_n cx (k := 0) (by decide +kernel) rfl) ?_
  refine z_k (S_iload_n cx (k := 1) (by decide +kernel) rfl) ?_
  refine z_k (S_callV cx (T := F_Mo) (N := 43) (r := r_Mo_isSession) rfl ⟨w_690, w_4, by decide, by decide +kernel⟩ w_687 w_689 wp_17 rfl (by decide +kernel)) ?_
  refine z_k (S_if_ne cx (off := 7) (by decide +kernel) (by decide)) ?_
  refine z_k (S_push cx (n := -1) (by decide +kernel) (by decide)) ?_
  refine z_k (S_goto cx (off := 29) (by decide +kernel) (by decide)) ?_
  refine z_k (S_aload_n cx (k := 0) (by decide +kernel) rfl) ?_
  refine z_k (S_getf cx (T := F_Mo) (N := 43) (k := 24) rfl in_Mo (by decide) rfl w_552 (by decide +kernel)) ?_
  refine z_k (S_iload_n cx (k := 1) (by decide +kernel) rfl) ?_
  refine z_k (S_zald cx (by decide +kernel)) ?_
  refine z_k (S_if_eq cx (off := 7) (by decide +kernel) (by decide)) ?_
  refine z_k (S_push cx (n := 2) (by decide +kernel) (by decide)) ?_
  refine z_k (S_goto cx (off := 16) (by decide +kernel) (by decide)) ?_
  refine z_k (S_aload_n cx (k := 0) (by decide +kernel) rfl) ?_
  refine z_k (S_iload_n cx (k := 1) (by decide +kernel) rfl) ?_
  refine z_k (S_callV cx (T := F_Mo) (N := 43) (r := r_Mo_isDone) rfl ⟨w_694, w_4, by decide, by decide +kernel⟩ w_691 w_693 wp_18 rfl (by decide +kernel)) ?_
  refine z_k (S_if_eq cx (off := 7) (by decide +kernel) (by decide)) ?_
  refine z_k (S_push cx (n := 1) (by decide +kernel) (by decide)) ?_
  refine z_k (S_goto cx (off := 4) (by decide +kernel) (by decide)) ?_
  refine z_k (S_push cx (n := 0) (by decide +kernel) (by decide)) ?_
  refine z_k (S_iret (hf.2.1 rfl) (by decide +kernel)) ?_
  exact z_k0
theorem s_Mo_state : z_snd zTab r_Mo_state := ⟨by decide +kernel, w_792, fun g d p l e R s m args below meth c Q P cx hn hf => z_k (s_Mo_state_0 cx hn hf) (z_k0)⟩
set_option maxRecDepth 100000 in
set_option maxHeartbeats 4000000 in
theorem s_Mo_steps_0 (cx : z_cx zTab g d p l e R s m args below meth c prog_8_method_37_code "SealedTalksModel" 2) (hn : meth.name = "steps") (hf : z_fin g p l e R s m args below meth c Q prog_8_method_37_code P (some .int)) : ∀ x ∈ k_Mo_steps_0, z_sn zTab g d p l e R s m args below meth c Q 2 P x := by
  unfold k_Mo_steps_0
  refine z_k (S_aload_n cx (k := 0) (by decide +kernel) rfl) ?_
  refine z_k (S_iload_n cx (k := 1) (by decide +kernel) rfl) ?_
  refine z_k (S_callV cx (T := F_Mo) (N := 43) (r := r_Mo_isSession) rfl ⟨w_690, w_4, by decide, by decide +kernel⟩ w_687 w_689 wp_17 rfl (by decide +kernel)) ?_
  refine z_k (S_if_eq cx (off := 12) (by decide +kernel) (by decide)) ?_
  refine z_k (S_aload_n cx (k := 0) (by decide +kernel) rfl) ?_
  refine z_k (S_getf cx (T := F_Mo) (N := 43) (k := 23) rfl in_Mo (by decide) rfl w_551 (by decide +kernel)) ?_
  refine z_k (S_iload_n cx (k := 1) (by decide +kernel) rfl) ?_
  refine z_k (S_iald cx (by decide +kernel)) ?_
  refine z_k (S_goto cx (off := 4) (by decide +kernel) (by decide)) ?_
  refine z_k (S_push cx (n := -1) (by decide +kernel) (by decide)) ?_
  refine z_k (S_iret (hf.2.1 rfl) (by decide +kernel)) ?_
  exact z_k0
theorem s_Mo_steps : z_snd zTab r_Mo_steps := ⟨by decide +kernel, w_796, fun g d p l e R s m args below meth c Q P cx hn hf => z_k (s_Mo_steps_0 cx hn hf) (z_k0)⟩
set_option maxRecDepth 100000 in
set_option maxHeartbeats 4000000 in
theorem s_Mo_peer_0 (cx : z_cx zTab g d p l e R s m args below meth c prog_8_method_38_code "SealedTalksModel" 2) (hn : meth.name = "peer") (hf : z_fin g p l e R s m args below meth c Q prog_8_method_38_code P (some .int)) : ∀ x ∈ k_Mo_peer_0, z_sn zTab g d p l e R s m args below meth c Q 2 P x := by
  unfold k_Mo_peer_0
  refine z_k (S_aload_n cx (k := 0) (by decide +kernel) rfl) ?_
  refine z_k (S_iload_n cx (k := 1) (by decide +kernel) rfl) ?_
  refine z_k (S_callV cx (T := F_Mo) (N := 43) (r := r_Mo_isSession) rfl ⟨w_690, w_4, by decide, by decide +kernel⟩ w_687 w_689 wp_17 rfl (by decide +kernel)) ?_
  refine z_k (S_if_eq cx (off := 12) (by decide +kernel) (by decide)) ?_
  refine z_k (S_aload_n cx (k := 0) (by decide +kernel) rfl) ?_
  refine z_k (S_getf cx (T := F_Mo) (N := 43) (k := 18) rfl in_Mo (by decide) rfl w_546 (by decide +kernel)) ?_
  refine z_k (S_iload_n cx (k := 1) (by decide +kernel) rfl) ?_
  refine z_k (S_iald cx (by decide +kernel)) ?_
  refine z_k (S_goto cx (off := 4) (by decide +kernel) (by decide)) ?_
  refine z_k (S_push cx (n := -1) (by decide +kernel) (by decide)) ?_
  refine z_k (S_iret (hf.2.1 rfl) (by decide +kernel)) ?_
  exact z_k0
theorem s_Mo_peer : z_snd zTab r_Mo_peer := ⟨by decide +kernel, w_800, fun g d p l e R s m args below meth c Q P cx hn hf => z_k (s_Mo_peer_0 cx hn hf) (z_k0)⟩
set_option maxRecDepth 100000 in
set_option maxHeartbeats 4000000 in
theorem s_Mo_payload_0 (cx : z_cx zTab g d p l e R s m args below meth c prog_8_method_39_code "SealedTalksModel" 2) (hn : meth.name = "payload") (hf : z_fin g p l e R s m args below meth c Q prog_8_method_39_code P (some .int)) : ∀ x ∈ k_Mo_payload_0, z_sn zTab g d p l e R s m args below meth c Q 2 P x := by
  unfold k_Mo_payload_0
  refine z_k (S_aload_n cx (k := 0) (by decide +kernel) rfl) ?_
  refine z_k (S_iload_n cx (k := 1) (by decide +kernel) rfl) ?_
  refine z_k (S_callV cx (T := F_Mo) (N := 43) (r := r_Mo_isSession) rfl ⟨w_690, w_4, by decide, by decide +kernel⟩ w_687 w_689 wp_17 rfl (by decide +kernel)) ?_
  refine z_k (S_if_eq cx (off := 12) (by decide +kernel) (by decide)) ?_
  refine z_k (S_aload_n cx (k := 0) (by decide +kernel) rfl) ?_
  refine z_k (S_getf cx (T := F_Mo) (N := 43) (k := 26) rfl in_Mo (by decide) rfl w_554 (by decide +kernel)) ?_
  refine z_k (S_iload_n cx (k := 1) (by decide +kernel) rfl) ?_
  refine z_k (S_iald cx (by decide +kernel)) ?_
  refine z_k (S_goto cx (off := 4) (by decide +kernel) (by decide)) ?_
  refine z_k (S_push cx (n := 0) (by decide +kernel) (by decide)) ?_
  refine z_k (S_iret (hf.2.1 rfl) (by decide +kernel)) ?_
  exact z_k0
theorem s_Mo_payload : z_snd zTab r_Mo_payload := ⟨by decide +kernel, w_804, fun g d p l e R s m args below meth c Q P cx hn hf => z_k (s_Mo_payload_0 cx hn hf) (z_k0)⟩
set_option maxRecDepth 100000 in
set_option maxHeartbeats 4000000 in
theorem s_Mo_accepted_0 (cx : z_cx zTab g d p l e R s m args below meth c prog_8_method_40_code "SealedTalksModel" 2) (hn : meth.name = "accepted") (hf : z_fin g p l e R s m args below meth c Q prog_8_method_40_code P (some .int)) : ∀ x ∈ k_Mo_accepted_0, z_sn zTab g d p l e R s m args below meth c Q 2 P x := by
  unfold k_Mo_accepted_0
  refine z_k (S_aload_n cx (k := 0) (by decide +kernel) rfl) ?_
  refine z_k (S_iload_n cx (k := 1) (by decide +kernel) rfl) ?_
  refine z_k (S_callV cx (T := F_Mo) (N := 43) (r := r_Mo_isSession) rfl ⟨w_690, w_4, by decide, by decide +kernel⟩ w_687 w_689 wp_17 rfl (by decide +kernel)) ?_
  refine z_k (S_if_eq cx (off := 12) (by decide +kernel) (by decide)) ?_
  refine z_k (S_aload_n cx (k := 0) (by decide +kernel) rfl) ?_
  refine z_k (S_getf cx (T := F_Mo) (N := 43) (k := 27) rfl in_Mo (by decide) rfl w_555 (by decide +kernel)) ?_
  refine z_k (S_iload_n cx (k := 1) (by decide +kernel) rfl) ?_
  refine z_k (S_iald cx (by decide +kernel)) ?_
  refine z_k (S_goto cx (off := 4) (by decide +kernel) (by decide)) ?_
  refine z_k (S_push cx (n := -1) (by decide +kernel) (by decide)) ?_
  refine z_k (S_iret (hf.2.1 rfl) (by decide +kernel)) ?_
  exact z_k0
theorem s_Mo_accepted : z_snd zTab r_Mo_accepted := ⟨by decide +kernel, w_808, fun g d p l e R s m args below meth c Q P cx hn hf => z_k (s_Mo_accepted_0 cx hn hf) (z_k0)⟩
set_option maxRecDepth 100000 in
set_option maxHeartbeats 4000000 in
theorem s_Mo_match_0 (cx : z_cx zTab g d p l e R s m args below meth c prog_8_method_41_code "SealedTalksModel" 3) (hn : meth.name = "match") (hf : z_fin g p l e R s m args below meth c Q prog_8_method_41_code P (some .boolean)) : ∀ x ∈ k_Mo_match_0, z_sn zTab g d p l e R s m args below meth c Q 3 P x := by
  unfold k_Mo_match_0
  refine z_k (S_aload_n cx (k := 0) (by decide +kernel) rfl) ?_
  refine z_k (S_iload_n cx (k := 1) (by decide +kernel) rfl) ?_
  refine z_k (S_callV cx (T := F_Mo) (N := 43) (r := r_Mo_isSession) rfl ⟨w_690, w_4, by decide, by decide +kernel⟩ w_687 w_689 wp_17 rfl (by decide +kernel)) ?_
  refine z_k (S_if_eq cx (off := 61) (by decide +kernel) (by decide)) ?_
  refine z_k (S_aload_n cx (k := 0) (by decide +kernel) rfl) ?_
  refine z_k (S_iload_n cx (k := 2) (by decide +kernel) rfl) ?_
  refine z_k (S_callV cx (T := F_Mo) (N := 43) (r := r_Mo_isSession) rfl ⟨w_690, w_4, by decide, by decide +kernel⟩ w_687 w_689 wp_17 rfl (by decide +kernel)) ?_
  refine z_k (S_if_eq cx (off := 53) (by decide +kernel) (by decide)) ?_
  refine z_k (S_aload_n cx (k := 0) (by decide +kernel) rfl) ?_
  refine z_k (S_iload_n cx (k := 1) (by decide +kernel) rfl) ?_
  refine z_k (S_callV cx (T := F_Mo) (N := 43) (r := r_Mo_isDone) rfl ⟨w_694, w_4, by decide, by decide +kernel⟩ w_691 w_693 wp_18 rfl (by decide +kernel)) ?_
  refine z_k (S_if_eq cx (off := 45) (by decide +kernel) (by decide)) ?_
  refine z_k (S_aload_n cx (k := 0) (by decide +kernel) rfl) ?_
  refine z_k (S_iload_n cx (k := 2) (by decide +kernel) rfl) ?_
  refine z_k (S_callV cx (T := F_Mo) (N := 43) (r := r_Mo_isDone) rfl ⟨w_694, w_4, by decide, by decide +kernel⟩ w_691 w_693 wp_18 rfl (by decide +kernel)) ?_
  refine z_k (S_if_eq cx (off := 37) (by decide +kernel) (by decide)) ?_
  refine z_k (S_aload_n cx (k := 0) (by decide +kernel) rfl) ?_
  refine z_k (S_getf cx (T := F_Mo) (N := 43) (k := 14) rfl in_Mo (by decide) rfl w_542 (by decide +kernel)) ?_
  refine z_k (S_iload_n cx (k := 1) (by decide +kernel) rfl) ?_
  refine z_k (S_zald cx (by decide +kernel)) ?_
  refine z_k (S_aload_n cx (k := 0) (by decide +kernel) rfl) ?_
  refine z_k (S_getf cx (T := F_Mo) (N := 43) (k := 14) rfl in_Mo (by decide) rfl w_542 (by decide +kernel)) ?_
  refine z_k (S_iload_n cx (k := 2) (by decide +kernel) rfl) ?_
  refine z_k (S_zald cx (by decide +kernel)) ?_
  exact z_k0
set_option maxRecDepth 100000 in
set_option maxHeartbeats 4000000 in
theorem s_Mo_match_1 (cx : z_cx zTab g d p l e R s m args below meth c prog_8_method_41_code "SealedTalksModel" 3) (hn : meth.name = "match") (hf : z_fin g p l e R s m args below meth c Q prog_8_method_41_code P (some .boolean)) : ∀ x ∈ k_Mo_match_1, z_sn zTab g d p l e R s m args below meth c Q 3 P x := by
  unfold k_Mo_match_1
  refine z_k (S_icmp_eq cx (off := 22) (by decide +kernel) (by decide)) ?_
  refine z_k (S_aload_n cx (k := 0) (by decide +kernel) rfl) ?_
  refine z_k (S_getf cx (T := F_Mo) (N := 43) (k := 20) rfl in_Mo (by decide) rfl w_548 (by decide +kernel)) ?_
  refine z_k (S_iload_n cx (k := 1) (by decide +kernel) rfl) ?_
  refine z_k (S_iald cx (by decide +kernel)) ?_
  refine z_k (S_aload_n cx (k := 0) (by decide +kernel) rfl) ?_
  refine z_k (S_getf cx (T := F_Mo) (N := 43) (k := 20) rfl in_Mo (by decide) rfl w_548 (by decide +kernel)) ?_
  refine z_k (S_iload_n cx (k := 2) (by decide +kernel) rfl) ?_
  refine z_k (S_iald cx (by decide +kernel)) ?_
  refine z_k (S_icmp_ne cx (off := 7) (by decide +kernel) (by decide)) ?_
  refine z_k (S_push cx (n := 1) (by decide +kernel) (by decide)) ?_
  refine z_k (S_goto cx (off := 4) (by decide +kernel) (by decide)) ?_
  refine z_k (S_push cx (n := 0) (by decide +kernel) (by decide)) ?_
  refine z_k (S_zret (hf.2.2.1 rfl) (by decide +kernel)) ?_
  exact z_k0
theorem s_Mo_match : z_snd zTab r_Mo_match := ⟨by decide +kernel, w_812, fun g d p l e R s m args below meth c Q P cx hn hf => z_k (s_Mo_match_0 cx hn hf) (z_k (s_Mo_match_1 cx hn hf) (z_k0))⟩
set_option maxRecDepth 100000 in
set_option maxHeartbeats 4000000 in
theorem s_Mo_open_0 (cx : z_cx zTab g d p l e R s m args below meth c prog_8_method_42_code "SealedTalksModel" 2) (hn : meth.name = "open") (hf : z_fin g p l e R s m args below meth c Q prog_8_method_42_code P (some .boolean)) : ∀ x ∈ k_Mo_open_0, z_sn zTab g d p l e R s m args below meth c Q 2 P x := by
  unfold k_Mo_open_0
  refine z_k (S_aload_n cx (k := 0) (by decide +kernel) rfl) ?_
  refine z_k (S_iload_n cx (k := 1) (by decide +kernel) rfl) ?_
  refine z_k (S_callV cx (T := F_Mo) (N := 43) (r := r_Mo_isSession) rfl ⟨w_690, w_4, by decide, by decide +kernel⟩ w_687 w_689 wp_17 rfl (by decide +kernel)) ?_
  refine z_k (S_if_eq cx (off := 11) (by decide +kernel) (by decide)) ?_
  refine z_k (S_aload_n cx (k := 0) (by decide +kernel) rfl) ?_
  refine z_k (S_iload_n cx (k := 1) (by decide +kernel) rfl) ?_
  refine z_k (S_callV cx (T := F_Mo) (N := 43) (r := r_Mo_isDone) rfl ⟨w_694, w_4, by decide, by decide +kernel⟩ w_691 w_693 wp_18 rfl (by decide +kernel)) ?_
  refine z_k (S_if_ne cx (off := 5) (by decide +kernel) (by decide)) ?_
  refine z_k (S_push cx (n := 0) (by decide +kernel) (by decide)) ?_
  refine z_k (S_zret (hf.2.2.1 rfl) (by decide +kernel)) ?_
  refine z_k (S_aload_n cx (k := 0) (by decide +kernel) rfl) ?_
  refine z_k (S_callV cx (T := F_Mo) (N := 43) (r := r_Mo_workOut) rfl ⟨w_820, w_4, by decide, by decide +kernel⟩ w_817 w_819 wp_35 rfl (by decide +kernel)) ?_
  refine z_k (S_aload_n cx (k := 0) (by decide +kernel) rfl) ?_
  refine z_k (S_getf cx (T := F_Mo) (N := 43) (k := 6) rfl in_Mo (by decide) rfl w_534 (by decide +kernel)) ?_
  refine z_k (S_aload_n cx (k := 0) (by decide +kernel) rfl) ?_
  refine z_k (S_getf cx (T := F_Mo) (N := 43) (k := 20) rfl in_Mo (by decide) rfl w_548 (by decide +kernel)) ?_
  refine z_k (S_iload_n cx (k := 1) (by decide +kernel) rfl) ?_
  refine z_k (S_iald cx (by decide +kernel)) ?_
  refine z_k (S_zald cx (by decide +kernel)) ?_
  refine z_k (S_zret (hf.2.2.1 rfl) (by decide +kernel)) ?_
  exact z_k0
theorem s_Mo_open : z_snd zTab r_Mo_open := ⟨by decide +kernel, w_816, fun g d p l e R s m args below meth c Q P cx hn hf => z_k (s_Mo_open_0 cx hn hf) (z_k0)⟩
set_option maxRecDepth 100000 in
set_option maxHeartbeats 4000000 in
theorem s_Mo_parts_0 (cx : z_cx zTab g d p l e R s m args below meth c prog_8_method_43_code "SealedTalksModel" 2) (hn : meth.name = "parts") (hf : z_fin g p l e R s m args below meth c Q prog_8_method_43_code P (some .int)) : ∀ x ∈ k_Mo_parts_0, z_sn zTab g d p l e R s m args below meth c Q 2 P x := by
  unfold k_Mo_parts_0
  refine z_k (S_iload_n cx (k := 1) (by decide +kernel) rfl) ?_
  refine z_k (S_push cx (n := 0) (by decide +kernel) (by decide)) ?_
  refine z_k (S_aload_n cx (k := 0) (by decide +kernel) rfl) ?_
  refine z_k (S_getf cx (T := F_Mo) (N := 43) (k := 7) rfl in_Mo (by decide) rfl w_535 (by decide +kernel)) ?_
  refine z_k (S_push cx (n := 1) (by decide +kernel) (by decide)) ?_
  refine z_k (S_isub cx (by decide +kernel)) ?_
  refine z_k (S_callS cx (r := r_Mo_within) rfl ⟨w_666, w_4, by decide, by decide +kernel⟩ w_664 w_665 (by decide +kernel)) ?_
  refine z_k (S_if_eq cx (off := 12) (by decide +kernel) (by decide)) ?_
  refine z_k (S_aload_n cx (k := 0) (by decide +kernel) rfl) ?_
  refine z_k (S_getf cx (T := F_Mo) (N := 43) (k := 8) rfl in_Mo (by decide) rfl w_536 (by decide +kernel)) ?_
  refine z_k (S_iload_n cx (k := 1) (by decide +kernel) rfl) ?_
  refine z_k (S_iald cx (by decide +kernel)) ?_
  refine z_k (S_goto cx (off := 4) (by decide +kernel) (by decide)) ?_
  refine z_k (S_push cx (n := -1) (by decide +kernel) (by decide)) ?_
  refine z_k (S_iret (hf.2.1 rfl) (by decide +kernel)) ?_
  exact z_k0
theorem s_Mo_parts : z_snd zTab r_Mo_parts := ⟨by decide +kernel, w_824, fun g d p l e R s m args below meth c Q P cx hn hf => z_k (s_Mo_parts_0 cx hn hf) (z_k0)⟩
set_option maxRecDepth 100000 in
set_option maxHeartbeats 4000000 in
theorem s_Mo_sees_0 (cx : z_cx zTab g d p l e R s m args below meth c prog_8_method_44_code "SealedTalksModel" 4) (hn : meth.name = "sees") (hf : z_fin g p l e R s m args below meth c Q prog_8_method_44_code P (some .int)) : ∀ x ∈ k_Mo_sees_0, z_sn zTab g d p l e R s m args below meth c Q 4 P x := by
  unfold k_Mo_sees_0
  refine z_k (S_aload_n cx (k := 0) (by decide +kernel) rfl) ?_
  refine z_k (S_iload_n cx (k := 1) (by decide +kernel) rfl) ?_
  refine z_k (S_iload_n cx (k := 2) (by decide +kernel) rfl) ?_
  refine z_k (S_callV cx (T := F_Mo) (N := 43) (r := r_Mo_isPart) rfl ⟨w_776, w_4, by decide, by decide +kernel⟩ w_773 w_775 wp_34 rfl (by decide +kernel)) ?_
  refine z_k (S_if_ne cx (off := 5) (by decide +kernel) (by decide)) ?_
  refine z_k (S_push cx (n := -1) (by decide +kernel) (by decide)) ?_
  refine z_k (S_iret (hf.2.1 rfl) (by decide +kernel)) ?_
  refine z_k (S_aload_n cx (k := 0) (by decide +kernel) rfl) ?_
  refine z_k (S_getf cx (T := F_Mo) (N := 43) (k := 9) rfl in_Mo (by decide) rfl w_537 (by decide +kernel)) ?_
  refine z_k (S_push cx (n := 3) (by decide +kernel) (by decide)) ?_
  refine z_k (S_iload_n cx (k := 1) (by decide +kernel) rfl) ?_
  refine z_k (S_imul cx (by decide +kernel)) ?_
  refine z_k (S_iload_n cx (k := 2) (by decide +kernel) rfl) ?_
  refine z_k (S_iadd cx (by decide +kernel)) ?_
  refine z_k (S_iald cx (by decide +kernel)) ?_
  refine z_k (S_istore_n cx (by decide) (k := 3) (by decide +kernel) rfl) ?_
  refine z_k (S_aload_n cx (k := 0) (by decide +kernel) rfl) ?_
  refine z_k (S_getf cx (T := F_Mo) (N := 43) (k := 1) rfl in_Mo (by decide) rfl w_529 (by decide +kernel)) ?_
  refine z_k (S_iload_n cx (k := 3) (by decide +kernel) rfl) ?_
  refine z_k (S_bald cx (by decide +kernel)) ?_
  refine z_k (S_push cx (n := 3) (by decide +kernel) (by decide)) ?_
  refine z_k (S_icmp_ge cx (off := 10) (by decide +kernel) (by decide)) ?_
  refine z_k (S_aload_n cx (k := 0) (by decide +kernel) rfl) ?_
  refine z_k (S_getf cx (T := F_Mo) (N := 43) (k := 1) rfl in_Mo (by decide) rfl w_529 (by decide +kernel)) ?_
  exact z_k0
set_option maxRecDepth 100000 in
set_option maxHeartbeats 4000000 in
theorem s_Mo_sees_1 (cx : z_cx zTab g d p l e R s m args below meth c prog_8_method_44_code "SealedTalksModel" 4) (hn : meth.name = "sees") (hf : z_fin g p l e R s m args below meth c Q prog_8_method_44_code P (some .int)) : ∀ x ∈ k_Mo_sees_1, z_sn zTab g d p l e R s m args below meth c Q 4 P x := by
  unfold k_Mo_sees_1
  refine z_k (S_iload_n cx (k := 3) (by decide +kernel) rfl) ?_
  refine z_k (S_bald cx (by decide +kernel)) ?_
  refine z_k (S_iret (hf.2.1 rfl) (by decide +kernel)) ?_
  refine z_k (S_aload_n cx (k := 0) (by decide +kernel) rfl) ?_
  refine z_k (S_callV cx (T := F_Mo) (N := 43) (r := r_Mo_workOut) rfl ⟨w_820, w_4, by decide, by decide +kernel⟩ w_817 w_819 wp_35 rfl (by decide +kernel)) ?_
  refine z_k (S_aload_n cx (k := 0) (by decide +kernel) rfl) ?_
  refine z_k (S_getf cx (T := F_Mo) (N := 43) (k := 6) rfl in_Mo (by decide) rfl w_534 (by decide +kernel)) ?_
  refine z_k (S_aload_n cx (k := 0) (by decide +kernel) rfl) ?_
  refine z_k (S_getf cx (T := F_Mo) (N := 43) (k := 3) rfl in_Mo (by decide) rfl w_531 (by decide +kernel)) ?_
  refine z_k (S_iload_n cx (k := 3) (by decide +kernel) rfl) ?_
  refine z_k (S_sald cx (by decide +kernel)) ?_
  refine z_k (S_zald cx (by decide +kernel)) ?_
  refine z_k (S_if_eq cx (off := 7) (by decide +kernel) (by decide)) ?_
  refine z_k (S_push cx (n := 3) (by decide +kernel) (by decide)) ?_
  refine z_k (S_goto cx (off := 4) (by decide +kernel) (by decide)) ?_
  refine z_k (S_push cx (n := 4) (by decide +kernel) (by decide)) ?_
  refine z_k (S_iret (hf.2.1 rfl) (by decide +kernel)) ?_
  exact z_k0
theorem s_Mo_sees : z_snd zTab r_Mo_sees := ⟨by decide +kernel, w_828, fun g d p l e R s m args below meth c Q P cx hn hf => z_k (s_Mo_sees_0 cx hn hf) (z_k (s_Mo_sees_1 cx hn hf) (z_k0))⟩
end ZR43
