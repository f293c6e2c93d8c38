/-! Each method of SealedTalksModel is sound (4). By program. -/
section ZR44
variable {g : zG} {d : Nat} {p : Program} {l : Launch} {e : Env} {R : Room} {s : State} {m : MethodId} {args : Array Value} {below : List Frame} {meth : Method} {c : Code} {Q : State → Prop} {P : zP}
set_option maxRecDepth 100000 in
set_option maxHeartbeats 4000000 in
theorem s_Mo_shown_0 (cx : z_cx zTab g d p l e R s m args below meth c prog_8_method_45_code "SealedTalksModel" 6) (hn : meth.name = "shown") (hf : z_fin g p l e R s m args below meth c Q prog_8_method_45_code P (some .int)) : ∀ x ∈ k_Mo_shown_0, z_sn zTab g d p l e R s m args below meth c Q 6 P x := by
  unfold k_Mo_shown_0
  refine z_k (S_aload_n cx (k := 0) (by decide +kernel) rfl) ?_
  refine z_k (S_iload_n cx (k := 1) (by decide +kernel) rfl) ?_
  refine z_k (S_iload_n cx (k := 2) (by decide +kernel) rfl) ?_
  refine z_k (S_callV cx (T := F_Mo) (N := 43) (r := r_Mo_sees) rfl ⟨w_828, w_4, by decide, by decide +kernel⟩ w_833 w_826 w_827 rfl (by decide +kernel)) ?_
  refine z_k (S_istore_n cx (by decide) (k := 3) (by decide +kernel) rfl) ?_
  refine z_k (S_iload_n cx (k := 3) (by decide +kernel) rfl) ?_
  refine z_k (S_if_lt cx (off := 8) (by decide +kernel) (by decide)) ?_
  refine z_k (S_iload_n cx (k := 3) (by decide +kernel) rfl) ?_
  refine z_k (S_push cx (n := 4) (by decide +kernel) (by decide)) ?_
  refine z_k (S_icmp_ne cx (off := 5) (by decide +kernel) (by decide)) ?_
  refine z_k (S_push cx (n := 0) (by decide +kernel) (by decide)) ?_
  refine z_k (S_iret (hf.2.1 rfl) (by decide +kernel)) ?_
  refine z_k (S_aload_n cx (k := 0) (by decide +kernel) rfl) ?_
  refine z_k (S_getf cx (T := F_Mo) (N := 43) (k := 9) rfl in_Mo (by decide) rfl w_537 (by decide +kernel)) ?_
  refine z_k (S_push cx (n := 3) (by decide +kernel) (by decide)) ?_
  refine z_k (S_iload_n cx (k := 1) (by decide +kernel) rfl) ?_
  refine z_k (S_imul cx (by decide +kernel)) ?_
  refine z_k (S_iload_n cx (k := 2) (by decide +kernel) rfl) ?_
  refine z_k (S_iadd cx (by decide +kernel)) ?_
  refine z_k (S_iald cx (by decide +kernel)) ?_
  refine z_k (S_istore cx (by decide) (by decide +kernel)) ?_
  refine z_k (S_aload_n cx (k := 0) (by decide +kernel) rfl) ?_
  refine z_k (S_getf cx (T := F_Mo) (N := 43) (k := 5) rfl in_Mo (by decide) rfl w_533 (by decide +kernel)) ?_
  refine z_k (S_iload cx (by decide +kernel)) ?_
  exact z_k0
set_option maxRecDepth 100000 in
set_option maxHeartbeats 4000000 in
theorem s_Mo_shown_1 (cx : z_cx zTab g d p l e R s m args below meth c prog_8_method_45_code "SealedTalksModel" 6) (hn : meth.name = "shown") (hf : z_fin g p l e R s m args below meth c Q prog_8_method_45_code P (some .int)) : ∀ x ∈ k_Mo_shown_1, z_sn zTab g d p l e R s m args below meth c Q 6 P x := by
  unfold k_Mo_shown_1
  refine z_k (S_sald cx (by decide +kernel)) ?_
  refine z_k (S_istore cx (by decide) (by decide +kernel)) ?_
  refine z_k (S_iload_n cx (k := 3) (by decide +kernel) rfl) ?_
  refine z_k (S_push cx (n := 3) (by decide +kernel) (by decide)) ?_
  refine z_k (S_icmp_ne cx (off := 13) (by decide +kernel) (by decide)) ?_
  refine z_k (S_aload_n cx (k := 0) (by decide +kernel) rfl) ?_
  refine z_k (S_getf cx (T := F_Mo) (N := 43) (k := 2) rfl in_Mo (by decide) rfl w_530 (by decide +kernel)) ?_
  refine z_k (S_iload cx (by decide +kernel)) ?_
  refine z_k (S_iald cx (by decide +kernel)) ?_
  refine z_k (S_goto cx (off := 10) (by decide +kernel) (by decide)) ?_
  refine z_k (S_aload_n cx (k := 0) (by decide +kernel) rfl) ?_
  refine z_k (S_getf cx (T := F_Mo) (N := 43) (k := 2) rfl in_Mo (by decide) rfl w_530 (by decide +kernel)) ?_
  refine z_k (S_iload cx (by decide +kernel)) ?_
  refine z_k (S_iald cx (by decide +kernel)) ?_
  refine z_k (S_iret (hf.2.1 rfl) (by decide +kernel)) ?_
  exact z_k0
theorem s_Mo_shown : z_snd zTab r_Mo_shown := ⟨by decide +kernel, w_832, fun g d p l e R s m args below meth c Q P cx hn hf => z_k (s_Mo_shown_0 cx hn hf) (z_k (s_Mo_shown_1 cx hn hf) (z_k0))⟩
set_option maxRecDepth 100000 in
set_option maxHeartbeats 4000000 in
theorem s_Mo_same_0 (cx : z_cx zTab g d p l e R s m args below meth c prog_8_method_46_code "SealedTalksModel" 5) (hn : meth.name = "same") (hf : z_fin g p l e R s m args below meth c Q prog_8_method_46_code P (some .boolean)) : ∀ x ∈ k_Mo_same_0, z_sn zTab g d p l e R s m args below meth c Q 5 P x := by
  unfold k_Mo_same_0
  refine z_k (S_aload_n cx (k := 0) (by decide +kernel) rfl) ?_
  refine z_k (S_iload_n cx (k := 1) (by decide +kernel) rfl) ?_
  refine z_k (S_iload_n cx (k := 2) (by decide +kernel) rfl) ?_
  refine z_k (S_callV cx (T := F_Mo) (N := 43) (r := r_Mo_isPart) rfl ⟨w_776, w_4, by decide, by decide +kernel⟩ w_773 w_775 wp_34 rfl (by decide +kernel)) ?_
  refine z_k (S_if_eq cx (off := 41) (by decide +kernel) (by decide)) ?_
  refine z_k (S_aload_n cx (k := 0) (by decide +kernel) rfl) ?_
  refine z_k (S_iload_n cx (k := 3) (by decide +kernel) rfl) ?_
  refine z_k (S_iload cx (by decide +kernel)) ?_
  refine z_k (S_callV cx (T := F_Mo) (N := 43) (r := r_Mo_isPart) rfl ⟨w_776, w_4, by decide, by decide +kernel⟩ w_773 w_775 wp_34 rfl (by decide +kernel)) ?_
  refine z_k (S_if_eq cx (off := 31) (by decide +kernel) (by decide)) ?_
  refine z_k (S_aload_n cx (k := 0) (by decide +kernel) rfl) ?_
  refine z_k (S_getf cx (T := F_Mo) (N := 43) (k := 9) rfl in_Mo (by decide) rfl w_537 (by decide +kernel)) ?_
  refine z_k (S_push cx (n := 3) (by decide +kernel) (by decide)) ?_
  refine z_k (S_iload_n cx (k := 1) (by decide +kernel) rfl) ?_
  refine z_k (S_imul cx (by decide +kernel)) ?_
  refine z_k (S_iload_n cx (k := 2) (by decide +kernel) rfl) ?_
  refine z_k (S_iadd cx (by decide +kernel)) ?_
  refine z_k (S_iald cx (by decide +kernel)) ?_
  refine z_k (S_aload_n cx (k := 0) (by decide +kernel) rfl) ?_
  refine z_k (S_getf cx (T := F_Mo) (N := 43) (k := 9) rfl in_Mo (by decide) rfl w_537 (by decide +kernel)) ?_
  refine z_k (S_push cx (n := 3) (by decide +kernel) (by decide)) ?_
  refine z_k (S_iload_n cx (k := 3) (by decide +kernel) rfl) ?_
  refine z_k (S_imul cx (by decide +kernel)) ?_
  refine z_k (S_iload cx (by decide +kernel)) ?_
  exact z_k0
set_option maxRecDepth 100000 in
set_option maxHeartbeats 4000000 in
theorem s_Mo_same_1 (cx : z_cx zTab g d p l e R s m args below meth c prog_8_method_46_code "SealedTalksModel" 5) (hn : meth.name = "same") (hf : z_fin g p l e R s m args below meth c Q prog_8_method_46_code P (some .boolean)) : ∀ x ∈ k_Mo_same_1, z_sn zTab g d p l e R s m args below meth c Q 5 P x := by
  unfold k_Mo_same_1
  refine z_k (S_iadd cx (by decide +kernel)) ?_
  refine z_k (S_iald cx (by decide +kernel)) ?_
  refine z_k (S_icmp_ne cx (off := 7) (by decide +kernel) (by decide)) ?_
  refine z_k (S_push cx (n := 1) (by decide +kernel) (by decide)) ?_
  refine z_k (S_goto cx (off := 4) (by decide +kernel) (by decide)) ?_
  refine z_k (S_push cx (n := 0) (by decide +kernel) (by decide)) ?_
  refine z_k (S_zret (hf.2.2.1 rfl) (by decide +kernel)) ?_
  exact z_k0
theorem s_Mo_same : z_snd zTab r_Mo_same := ⟨by decide +kernel, w_837, fun g d p l e R s m args below meth c Q P cx hn hf => z_k (s_Mo_same_0 cx hn hf) (z_k (s_Mo_same_1 cx hn hf) (z_k0))⟩
end ZR44
