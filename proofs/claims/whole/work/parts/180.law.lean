/-! The law is sound. By program. -/
section ZRL
variable {g : zG} {d : Nat} {p : Program} {l : Launch} {e : Env} {R : Room} {s : State} {m : MethodId} {args : Array Value} {below : List Frame} {meth : Method} {c : Code} {Q : State → Prop} {P : zP}
set_option maxRecDepth 100000 in
set_option maxHeartbeats 4000000 in
theorem s_La_law_0 (cx : z_cx zTab g d p l e R s m args below meth c code "SealedTalksLaw" 4) (hf : z_fin g p l e R s m args below meth c Q code P (some .boolean)) : ∀ x ∈ k_La_law_0, z_sn zTab g d p l e R s m args below meth c Q 4 P x := by
  unfold k_La_law_0
  refine z_k (S_new cx (T := F_St) (ty := t_St) rfl in_St t_St_ok w_9 w_10 w_1 fs_St (by decide +kernel)) ?_
  refine z_k (S_dup cx (by decide +kernel)) ?_
  refine z_k (S_callI cx (r := r_St_init) rfl ⟨w_13, w_1, by decide, by decide +kernel⟩ w_11 w_12 rfl rfl (by decide +kernel)) ?_
  refine z_k (S_astore_n cx (by decide) (k := 1) (by decide +kernel) rfl) ?_
  refine z_k (S_new cx (T := F_Mo) (ty := t_Mo) rfl in_Mo t_Mo_ok w_522 w_523 w_4 fs_Mo (by decide +kernel)) ?_
  refine z_k (S_dup cx (by decide +kernel)) ?_
  refine z_k (S_callI cx (r := r_Mo_init) rfl ⟨w_526, w_4, by decide, by decide +kernel⟩ w_524 w_525 rfl rfl (by decide +kernel)) ?_
  refine z_k (S_astore_n cx (by decide) (k := 2) (by decide +kernel) rfl) ?_
  refine z_k (S_push cx (n := 0) (by decide +kernel) (by decide)) ?_
  refine z_k (S_istore_n cx (by decide) (k := 3) (by decide +kernel) rfl) ?_
  refine z_k (S_iload_n cx (k := 3) (by decide +kernel) rfl) ?_
  refine z_k (S_aload_n cx (k := 0) (by decide +kernel) rfl) ?_
  refine z_k (S_alen cx (by decide +kernel)) ?_
  refine z_k (S_bipush cx (n := 6) (by decide +kernel) (by decide)) ?_
  refine z_k (S_isub cx (by decide +kernel)) ?_
  refine z_k (S_icmp_gt cx (off := 729) (by decide +kernel) (by decide)) ?_
  refine z_k (S_aload_n cx (k := 0) (by decide +kernel) rfl) ?_
  refine z_k (S_iload_n cx (k := 3) (by decide +kernel) rfl) ?_
  refine z_k (S_iald cx (by decide +kernel)) ?_
  refine z_k (S_bipush cx (n := 31) (by decide +kernel) (by decide)) ?_
  refine z_k (S_iand cx (by decide +kernel)) ?_
  refine z_k (S_tsw cx (df := 714) (lo := 0) (hi0 := 18) (offs := #[91, 170, 203, 236, 269, 322, 365, 388, 401, 424, 447, 470, 493, 516, 549, 572, 595, 628, 661]) (len := 91) (by decide +kernel) (by decide) (by decide) (by decide)) ?_
  refine z_k (S_aload_n cx (k := 1) (by decide +kernel) rfl) ?_
  refine z_k (S_aload_n cx (k := 0) (by decide +kernel) rfl) ?_
  exact z_k0
set_option maxRecDepth 100000 in
set_option maxHeartbeats 4000000 in
theorem s_La_law_1 (cx : z_cx zTab g d p l e R s m args below meth c code "SealedTalksLaw" 4) (hf : z_fin g p l e R s m args below meth c Q code P (some .boolean)) : ∀ x ∈ k_La_law_1, z_sn zTab g d p l e R s m args below meth c Q 4 P x := by
  unfold k_La_law_1
  refine z_k (S_iload_n cx (k := 3) (by decide +kernel) rfl) ?_
  refine z_k (S_push cx (n := 1) (by decide +kernel) (by decide)) ?_
  refine z_k (S_iadd cx (by decide +kernel)) ?_
  refine z_k (S_iald cx (by decide +kernel)) ?_
  refine z_k (S_aload_n cx (k := 0) (by decide +kernel) rfl) ?_
  refine z_k (S_iload_n cx (k := 3) (by decide +kernel) rfl) ?_
  refine z_k (S_push cx (n := 2) (by decide +kernel) (by decide)) ?_
  refine z_k (S_iadd cx (by decide +kernel)) ?_
  refine z_k (S_iald cx (by decide +kernel)) ?_
  refine z_k (S_if_eq cx (off := 7) (by decide +kernel) (by decide)) ?_
  refine z_k (S_push cx (n := 1) (by decide +kernel) (by decide)) ?_
  refine z_k (S_goto cx (off := 4) (by decide +kernel) (by decide)) ?_
  refine z_k (S_push cx (n := 0) (by decide +kernel) (by decide)) ?_
  refine z_k (S_aload_n cx (k := 0) (by decide +kernel) rfl) ?_
  refine z_k (S_iload_n cx (k := 3) (by decide +kernel) rfl) ?_
  refine z_k (S_push cx (n := 3) (by decide +kernel) (by decide)) ?_
  refine z_k (S_iadd cx (by decide +kernel)) ?_
  refine z_k (S_iald cx (by decide +kernel)) ?_
  refine z_k (S_aload_n cx (k := 0) (by decide +kernel) rfl) ?_
  refine z_k (S_iload_n cx (k := 3) (by decide +kernel) rfl) ?_
  refine z_k (S_push cx (n := 4) (by decide +kernel) (by decide)) ?_
  refine z_k (S_iadd cx (by decide +kernel)) ?_
  refine z_k (S_iald cx (by decide +kernel)) ?_
  refine z_k (S_aload_n cx (k := 0) (by decide +kernel) rfl) ?_
  exact z_k0
set_option maxRecDepth 100000 in
set_option maxHeartbeats 4000000 in
theorem s_La_law_2 (cx : z_cx zTab g d p l e R s m args below meth c code "SealedTalksLaw" 4) (hf : z_fin g p l e R s m args below meth c Q code P (some .boolean)) : ∀ x ∈ k_La_law_2, z_sn zTab g d p l e R s m args below meth c Q 4 P x := by
  unfold k_La_law_2
  refine z_k (S_iload_n cx (k := 3) (by decide +kernel) rfl) ?_
  refine z_k (S_push cx (n := 5) (by decide +kernel) (by decide)) ?_
  refine z_k (S_iadd cx (by decide +kernel)) ?_
  refine z_k (S_iald cx (by decide +kernel)) ?_
  refine z_k (S_callV cx (T := F_St) (N := 4) (r := r_St_start) rfl ⟨w_93, w_1, by decide, by decide +kernel⟩ w_90 w_91 w_92 rfl (by decide +kernel)) ?_
  refine z_k (S_aload_n cx (k := 2) (by decide +kernel) rfl) ?_
  refine z_k (S_aload_n cx (k := 0) (by decide +kernel) rfl) ?_
  refine z_k (S_iload_n cx (k := 3) (by decide +kernel) rfl) ?_
  refine z_k (S_push cx (n := 1) (by decide +kernel) (by decide)) ?_
  refine z_k (S_iadd cx (by decide +kernel)) ?_
  refine z_k (S_iald cx (by decide +kernel)) ?_
  refine z_k (S_aload_n cx (k := 0) (by decide +kernel) rfl) ?_
  refine z_k (S_iload_n cx (k := 3) (by decide +kernel) rfl) ?_
  refine z_k (S_push cx (n := 2) (by decide +kernel) (by decide)) ?_
  refine z_k (S_iadd cx (by decide +kernel)) ?_
  refine z_k (S_iald cx (by decide +kernel)) ?_
  refine z_k (S_if_eq cx (off := 7) (by decide +kernel) (by decide)) ?_
  refine z_k (S_push cx (n := 1) (by decide +kernel) (by decide)) ?_
  refine z_k (S_goto cx (off := 4) (by decide +kernel) (by decide)) ?_
  refine z_k (S_push cx (n := 0) (by decide +kernel) (by decide)) ?_
  refine z_k (S_aload_n cx (k := 0) (by decide +kernel) rfl) ?_
  refine z_k (S_iload_n cx (k := 3) (by decide +kernel) rfl) ?_
  refine z_k (S_push cx (n := 3) (by decide +kernel) (by decide)) ?_
  refine z_k (S_iadd cx (by decide +kernel)) ?_
  exact z_k0
set_option maxRecDepth 100000 in
set_option maxHeartbeats 4000000 in
theorem s_La_law_3 (cx : z_cx zTab g d p l e R s m args below meth c code "SealedTalksLaw" 4) (hf : z_fin g p l e R s m args below meth c Q code P (some .boolean)) : ∀ x ∈ k_La_law_3, z_sn zTab g d p l e R s m args below meth c Q 4 P x := by
  unfold k_La_law_3
  refine z_k (S_iald cx (by decide +kernel)) ?_
  refine z_k (S_aload_n cx (k := 0) (by decide +kernel) rfl) ?_
  refine z_k (S_iload_n cx (k := 3) (by decide +kernel) rfl) ?_
  refine z_k (S_push cx (n := 4) (by decide +kernel) (by decide)) ?_
  refine z_k (S_iadd cx (by decide +kernel)) ?_
  refine z_k (S_iald cx (by decide +kernel)) ?_
  refine z_k (S_aload_n cx (k := 0) (by decide +kernel) rfl) ?_
  refine z_k (S_iload_n cx (k := 3) (by decide +kernel) rfl) ?_
  refine z_k (S_push cx (n := 5) (by decide +kernel) (by decide)) ?_
  refine z_k (S_iadd cx (by decide +kernel)) ?_
  refine z_k (S_iald cx (by decide +kernel)) ?_
  refine z_k (S_callV cx (T := F_Mo) (N := 43) (r := r_Mo_start) rfl ⟨w_663, w_4, by decide, by decide +kernel⟩ w_660 w_661 w_662 rfl (by decide +kernel)) ?_
  refine z_k (S_icmp_eq cx (off := 549) (by decide +kernel) (by decide)) ?_
  refine z_k (S_push cx (n := 0) (by decide +kernel) (by decide)) ?_
  refine z_k (S_zret (hf.2.2.1 rfl) (by decide +kernel)) ?_
  refine z_k (S_aload_n cx (k := 1) (by decide +kernel) rfl) ?_
  refine z_k (S_aload_n cx (k := 0) (by decide +kernel) rfl) ?_
  refine z_k (S_iload_n cx (k := 3) (by decide +kernel) rfl) ?_
  refine z_k (S_push cx (n := 1) (by decide +kernel) (by decide)) ?_
  refine z_k (S_iadd cx (by decide +kernel)) ?_
  refine z_k (S_iald cx (by decide +kernel)) ?_
  refine z_k (S_aload_n cx (k := 0) (by decide +kernel) rfl) ?_
  refine z_k (S_iload_n cx (k := 3) (by decide +kernel) rfl) ?_
  refine z_k (S_push cx (n := 2) (by decide +kernel) (by decide)) ?_
  exact z_k0
set_option maxRecDepth 100000 in
set_option maxHeartbeats 4000000 in
theorem s_La_law_4 (cx : z_cx zTab g d p l e R s m args below meth c code "SealedTalksLaw" 4) (hf : z_fin g p l e R s m args below meth c Q code P (some .boolean)) : ∀ x ∈ k_La_law_4, z_sn zTab g d p l e R s m args below meth c Q 4 P x := by
  unfold k_La_law_4
  refine z_k (S_iadd cx (by decide +kernel)) ?_
  refine z_k (S_iald cx (by decide +kernel)) ?_
  refine z_k (S_callV cx (T := F_St) (N := 4) (r := r_St_write) rfl ⟨w_236, w_1, by decide, by decide +kernel⟩ w_233 w_234 w_235 rfl (by decide +kernel)) ?_
  refine z_k (S_aload_n cx (k := 2) (by decide +kernel) rfl) ?_
  refine z_k (S_aload_n cx (k := 0) (by decide +kernel) rfl) ?_
  refine z_k (S_iload_n cx (k := 3) (by decide +kernel) rfl) ?_
  refine z_k (S_push cx (n := 1) (by decide +kernel) (by decide)) ?_
  refine z_k (S_iadd cx (by decide +kernel)) ?_
  refine z_k (S_iald cx (by decide +kernel)) ?_
  refine z_k (S_aload_n cx (k := 0) (by decide +kernel) rfl) ?_
  refine z_k (S_iload_n cx (k := 3) (by decide +kernel) rfl) ?_
  refine z_k (S_push cx (n := 2) (by decide +kernel) (by decide)) ?_
  refine z_k (S_iadd cx (by decide +kernel)) ?_
  refine z_k (S_iald cx (by decide +kernel)) ?_
  refine z_k (S_callV cx (T := F_Mo) (N := 43) (r := r_Mo_write) rfl ⟨w_686, w_4, by decide, by decide +kernel⟩ w_683 w_684 w_685 rfl (by decide +kernel)) ?_
  refine z_k (S_icmp_eq cx (off := 516) (by decide +kernel) (by decide)) ?_
  refine z_k (S_push cx (n := 0) (by decide +kernel) (by decide)) ?_
  refine z_k (S_zret (hf.2.2.1 rfl) (by decide +kernel)) ?_
  refine z_k (S_aload_n cx (k := 1) (by decide +kernel) rfl) ?_
  refine z_k (S_aload_n cx (k := 0) (by decide +kernel) rfl) ?_
  refine z_k (S_iload_n cx (k := 3) (by decide +kernel) rfl) ?_
  refine z_k (S_push cx (n := 1) (by decide +kernel) (by decide)) ?_
  refine z_k (S_iadd cx (by decide +kernel)) ?_
  refine z_k (S_iald cx (by decide +kernel)) ?_
  exact z_k0
set_option maxRecDepth 100000 in
set_option maxHeartbeats 4000000 in
theorem s_La_law_5 (cx : z_cx zTab g d p l e R s m args below meth c code "SealedTalksLaw" 4) (hf : z_fin g p l e R s m args below meth c Q code P (some .boolean)) : ∀ x ∈ k_La_law_5, z_sn zTab g d p l e R s m args below meth c Q 4 P x := by
  unfold k_La_law_5
  refine z_k (S_aload_n cx (k := 0) (by decide +kernel) rfl) ?_
  refine z_k (S_iload_n cx (k := 3) (by decide +kernel) rfl) ?_
  refine z_k (S_push cx (n := 2) (by decide +kernel) (by decide)) ?_
  refine z_k (S_iadd cx (by decide +kernel)) ?_
  refine z_k (S_iald cx (by decide +kernel)) ?_
  refine z_k (S_callV cx (T := F_St) (N := 4) (r := r_St_send) rfl ⟨w_330, w_1, by decide, by decide +kernel⟩ w_327 w_328 w_329 rfl (by decide +kernel)) ?_
  refine z_k (S_aload_n cx (k := 2) (by decide +kernel) rfl) ?_
  refine z_k (S_aload_n cx (k := 0) (by decide +kernel) rfl) ?_
  refine z_k (S_iload_n cx (k := 3) (by decide +kernel) rfl) ?_
  refine z_k (S_push cx (n := 1) (by decide +kernel) (by decide)) ?_
  refine z_k (S_iadd cx (by decide +kernel)) ?_
  refine z_k (S_iald cx (by decide +kernel)) ?_
  refine z_k (S_aload_n cx (k := 0) (by decide +kernel) rfl) ?_
  refine z_k (S_iload_n cx (k := 3) (by decide +kernel) rfl) ?_
  refine z_k (S_push cx (n := 2) (by decide +kernel) (by decide)) ?_
  refine z_k (S_iadd cx (by decide +kernel)) ?_
  refine z_k (S_iald cx (by decide +kernel)) ?_
  refine z_k (S_callV cx (T := F_Mo) (N := 43) (r := r_Mo_send) rfl ⟨w_768, w_4, by decide, by decide +kernel⟩ w_765 w_766 w_767 rfl (by decide +kernel)) ?_
  refine z_k (S_icmp_eq cx (off := 483) (by decide +kernel) (by decide)) ?_
  refine z_k (S_push cx (n := 0) (by decide +kernel) (by decide)) ?_
  refine z_k (S_zret (hf.2.2.1 rfl) (by decide +kernel)) ?_
  refine z_k (S_aload_n cx (k := 1) (by decide +kernel) rfl) ?_
  refine z_k (S_aload_n cx (k := 0) (by decide +kernel) rfl) ?_
  refine z_k (S_iload_n cx (k := 3) (by decide +kernel) rfl) ?_
  exact z_k0
set_option maxRecDepth 100000 in
set_option maxHeartbeats 4000000 in
theorem s_La_law_6 (cx : z_cx zTab g d p l e R s m args below meth c code "SealedTalksLaw" 4) (hf : z_fin g p l e R s m args below meth c Q code P (some .boolean)) : ∀ x ∈ k_La_law_6, z_sn zTab g d p l e R s m args below meth c Q 4 P x := by
  unfold k_La_law_6
  refine z_k (S_push cx (n := 1) (by decide +kernel) (by decide)) ?_
  refine z_k (S_iadd cx (by decide +kernel)) ?_
  refine z_k (S_iald cx (by decide +kernel)) ?_
  refine z_k (S_aload_n cx (k := 0) (by decide +kernel) rfl) ?_
  refine z_k (S_iload_n cx (k := 3) (by decide +kernel) rfl) ?_
  refine z_k (S_push cx (n := 2) (by decide +kernel) (by decide)) ?_
  refine z_k (S_iadd cx (by decide +kernel)) ?_
  refine z_k (S_iald cx (by decide +kernel)) ?_
  refine z_k (S_callV cx (T := F_St) (N := 4) (r := r_St_deliver) rfl ⟨w_342, w_1, by decide, by decide +kernel⟩ w_339 w_340 w_341 rfl (by decide +kernel)) ?_
  refine z_k (S_aload_n cx (k := 2) (by decide +kernel) rfl) ?_
  refine z_k (S_aload_n cx (k := 0) (by decide +kernel) rfl) ?_
  refine z_k (S_iload_n cx (k := 3) (by decide +kernel) rfl) ?_
  refine z_k (S_push cx (n := 1) (by decide +kernel) (by decide)) ?_
  refine z_k (S_iadd cx (by decide +kernel)) ?_
  refine z_k (S_iald cx (by decide +kernel)) ?_
  refine z_k (S_aload_n cx (k := 0) (by decide +kernel) rfl) ?_
  refine z_k (S_iload_n cx (k := 3) (by decide +kernel) rfl) ?_
  refine z_k (S_push cx (n := 2) (by decide +kernel) (by decide)) ?_
  refine z_k (S_iadd cx (by decide +kernel)) ?_
  refine z_k (S_iald cx (by decide +kernel)) ?_
  refine z_k (S_callV cx (T := F_Mo) (N := 43) (r := r_Mo_deliver) rfl ⟨w_736, w_4, by decide, by decide +kernel⟩ w_733 w_734 w_735 rfl (by decide +kernel)) ?_
  refine z_k (S_icmp_eq cx (off := 450) (by decide +kernel) (by decide)) ?_
  refine z_k (S_push cx (n := 0) (by decide +kernel) (by decide)) ?_
  refine z_k (S_zret (hf.2.2.1 rfl) (by decide +kernel)) ?_
  exact z_k0
set_option maxRecDepth 100000 in
set_option maxHeartbeats 4000000 in
theorem s_La_law_7 (cx : z_cx zTab g d p l e R s m args below meth c code "SealedTalksLaw" 4) (hf : z_fin g p l e R s m args below meth c Q code P (some .boolean)) : ∀ x ∈ k_La_law_7, z_sn zTab g d p l e R s m args below meth c Q 4 P x := by
  unfold k_La_law_7
  refine z_k (S_aload_n cx (k := 1) (by decide +kernel) rfl) ?_
  refine z_k (S_aload_n cx (k := 0) (by decide +kernel) rfl) ?_
  refine z_k (S_iload_n cx (k := 3) (by decide +kernel) rfl) ?_
  refine z_k (S_push cx (n := 1) (by decide +kernel) (by decide)) ?_
  refine z_k (S_iadd cx (by decide +kernel)) ?_
  refine z_k (S_iald cx (by decide +kernel)) ?_
  refine z_k (S_aload_n cx (k := 0) (by decide +kernel) rfl) ?_
  refine z_k (S_iload_n cx (k := 3) (by decide +kernel) rfl) ?_
  refine z_k (S_push cx (n := 2) (by decide +kernel) (by decide)) ?_
  refine z_k (S_iadd cx (by decide +kernel)) ?_
  refine z_k (S_iald cx (by decide +kernel)) ?_
  refine z_k (S_aload_n cx (k := 0) (by decide +kernel) rfl) ?_
  refine z_k (S_iload_n cx (k := 3) (by decide +kernel) rfl) ?_
  refine z_k (S_push cx (n := 3) (by decide +kernel) (by decide)) ?_
  refine z_k (S_iadd cx (by decide +kernel)) ?_
  refine z_k (S_iald cx (by decide +kernel)) ?_
  refine z_k (S_aload_n cx (k := 0) (by decide +kernel) rfl) ?_
  refine z_k (S_iload_n cx (k := 3) (by decide +kernel) rfl) ?_
  refine z_k (S_push cx (n := 4) (by decide +kernel) (by decide)) ?_
  refine z_k (S_iadd cx (by decide +kernel)) ?_
  refine z_k (S_iald cx (by decide +kernel)) ?_
  refine z_k (S_callV cx (T := F_St) (N := 4) (r := r_St_splice) rfl ⟨w_437, w_1, by decide, by decide +kernel⟩ w_434 w_435 w_436 rfl (by decide +kernel)) ?_
  refine z_k (S_aload_n cx (k := 2) (by decide +kernel) rfl) ?_
  refine z_k (S_aload_n cx (k := 0) (by decide +kernel) rfl) ?_
  exact z_k0
set_option maxRecDepth 100000 in
set_option maxHeartbeats 4000000 in
theorem s_La_law_8 (cx : z_cx zTab g d p l e R s m args below meth c code "SealedTalksLaw" 4) (hf : z_fin g p l e R s m args below meth c Q code P (some .boolean)) : ∀ x ∈ k_La_law_8, z_sn zTab g d p l e R s m args below meth c Q 4 P x := by
  unfold k_La_law_8
  refine z_k (S_iload_n cx (k := 3) (by decide +kernel) rfl) ?_
  refine z_k (S_push cx (n := 1) (by decide +kernel) (by decide)) ?_
  refine z_k (S_iadd cx (by decide +kernel)) ?_
  refine z_k (S_iald cx (by decide +kernel)) ?_
  refine z_k (S_aload_n cx (k := 0) (by decide +kernel) rfl) ?_
  refine z_k (S_iload_n cx (k := 3) (by decide +kernel) rfl) ?_
  refine z_k (S_push cx (n := 2) (by decide +kernel) (by decide)) ?_
  refine z_k (S_iadd cx (by decide +kernel)) ?_
  refine z_k (S_iald cx (by decide +kernel)) ?_
  refine z_k (S_aload_n cx (k := 0) (by decide +kernel) rfl) ?_
  refine z_k (S_iload_n cx (k := 3) (by decide +kernel) rfl) ?_
  refine z_k (S_push cx (n := 3) (by decide +kernel) (by decide)) ?_
  refine z_k (S_iadd cx (by decide +kernel)) ?_
  refine z_k (S_iald cx (by decide +kernel)) ?_
  refine z_k (S_aload_n cx (k := 0) (by decide +kernel) rfl) ?_
  refine z_k (S_iload_n cx (k := 3) (by decide +kernel) rfl) ?_
  refine z_k (S_push cx (n := 4) (by decide +kernel) (by decide)) ?_
  refine z_k (S_iadd cx (by decide +kernel)) ?_
  refine z_k (S_iald cx (by decide +kernel)) ?_
  refine z_k (S_callV cx (T := F_Mo) (N := 43) (r := r_Mo_splice) rfl ⟨w_772, w_4, by decide, by decide +kernel⟩ w_769 w_770 w_771 rfl (by decide +kernel)) ?_
  refine z_k (S_icmp_eq cx (off := 397) (by decide +kernel) (by decide)) ?_
  refine z_k (S_push cx (n := 0) (by decide +kernel) (by decide)) ?_
  refine z_k (S_zret (hf.2.2.1 rfl) (by decide +kernel)) ?_
  refine z_k (S_aload_n cx (k := 1) (by decide +kernel) rfl) ?_
  exact z_k0
set_option maxRecDepth 100000 in
set_option maxHeartbeats 4000000 in
theorem s_La_law_9 (cx : z_cx zTab g d p l e R s m args below meth c code "SealedTalksLaw" 4) (hf : z_fin g p l e R s m args below meth c Q code P (some .boolean)) : ∀ x ∈ k_La_law_9, z_sn zTab g d p l e R s m args below meth c Q 4 P x := by
  unfold k_La_law_9
  refine z_k (S_aload_n cx (k := 0) (by decide +kernel) rfl) ?_
  refine z_k (S_iload_n cx (k := 3) (by decide +kernel) rfl) ?_
  refine z_k (S_push cx (n := 1) (by decide +kernel) (by decide)) ?_
  refine z_k (S_iadd cx (by decide +kernel)) ?_
  refine z_k (S_iald cx (by decide +kernel)) ?_
  refine z_k (S_aload_n cx (k := 0) (by decide +kernel) rfl) ?_
  refine z_k (S_iload_n cx (k := 3) (by decide +kernel) rfl) ?_
  refine z_k (S_push cx (n := 2) (by decide +kernel) (by decide)) ?_
  refine z_k (S_iadd cx (by decide +kernel)) ?_
  refine z_k (S_iald cx (by decide +kernel)) ?_
  refine z_k (S_aload_n cx (k := 0) (by decide +kernel) rfl) ?_
  refine z_k (S_iload_n cx (k := 3) (by decide +kernel) rfl) ?_
  refine z_k (S_push cx (n := 3) (by decide +kernel) (by decide)) ?_
  refine z_k (S_iadd cx (by decide +kernel)) ?_
  refine z_k (S_iald cx (by decide +kernel)) ?_
  refine z_k (S_callV cx (T := F_St) (N := 4) (r := r_St_replace) rfl ⟨w_448, w_1, by decide, by decide +kernel⟩ w_445 w_446 w_447 rfl (by decide +kernel)) ?_
  refine z_k (S_aload_n cx (k := 2) (by decide +kernel) rfl) ?_
  refine z_k (S_aload_n cx (k := 0) (by decide +kernel) rfl) ?_
  refine z_k (S_iload_n cx (k := 3) (by decide +kernel) rfl) ?_
  refine z_k (S_push cx (n := 1) (by decide +kernel) (by decide)) ?_
  refine z_k (S_iadd cx (by decide +kernel)) ?_
  refine z_k (S_iald cx (by decide +kernel)) ?_
  refine z_k (S_aload_n cx (k := 0) (by decide +kernel) rfl) ?_
  refine z_k (S_iload_n cx (k := 3) (by decide +kernel) rfl) ?_
  exact z_k0
set_option maxRecDepth 100000 in
set_option maxHeartbeats 4000000 in
theorem s_La_law_10 (cx : z_cx zTab g d p l e R s m args below meth c code "SealedTalksLaw" 4) (hf : z_fin g p l e R s m args below meth c Q code P (some .boolean)) : ∀ x ∈ k_La_law_10, z_sn zTab g d p l e R s m args below meth c Q 4 P x := by
  unfold k_La_law_10
  refine z_k (S_push cx (n := 2) (by decide +kernel) (by decide)) ?_
  refine z_k (S_iadd cx (by decide +kernel)) ?_
  refine z_k (S_iald cx (by decide +kernel)) ?_
  refine z_k (S_aload_n cx (k := 0) (by decide +kernel) rfl) ?_
  refine z_k (S_iload_n cx (k := 3) (by decide +kernel) rfl) ?_
  refine z_k (S_push cx (n := 3) (by decide +kernel) (by decide)) ?_
  refine z_k (S_iadd cx (by decide +kernel)) ?_
  refine z_k (S_iald cx (by decide +kernel)) ?_
  refine z_k (S_callV cx (T := F_Mo) (N := 43) (r := r_Mo_replace) rfl ⟨w_780, w_4, by decide, by decide +kernel⟩ w_777 w_778 w_779 rfl (by decide +kernel)) ?_
  refine z_k (S_icmp_eq cx (off := 354) (by decide +kernel) (by decide)) ?_
  refine z_k (S_push cx (n := 0) (by decide +kernel) (by decide)) ?_
  refine z_k (S_zret (hf.2.2.1 rfl) (by decide +kernel)) ?_
  refine z_k (S_aload_n cx (k := 1) (by decide +kernel) rfl) ?_
  refine z_k (S_aload_n cx (k := 0) (by decide +kernel) rfl) ?_
  refine z_k (S_iload_n cx (k := 3) (by decide +kernel) rfl) ?_
  refine z_k (S_push cx (n := 1) (by decide +kernel) (by decide)) ?_
  refine z_k (S_iadd cx (by decide +kernel)) ?_
  refine z_k (S_iald cx (by decide +kernel)) ?_
  refine z_k (S_callV cx (T := F_St) (N := 4) (r := r_St_give) rfl ⟨w_453, w_1, by decide, by decide +kernel⟩ w_450 w_451 w_452 rfl (by decide +kernel)) ?_
  refine z_k (S_aload_n cx (k := 2) (by decide +kernel) rfl) ?_
  refine z_k (S_aload_n cx (k := 0) (by decide +kernel) rfl) ?_
  refine z_k (S_iload_n cx (k := 3) (by decide +kernel) rfl) ?_
  refine z_k (S_push cx (n := 1) (by decide +kernel) (by decide)) ?_
  refine z_k (S_iadd cx (by decide +kernel)) ?_
  exact z_k0
set_option maxRecDepth 100000 in
set_option maxHeartbeats 4000000 in
theorem s_La_law_11 (cx : z_cx zTab g d p l e R s m args below meth c code "SealedTalksLaw" 4) (hf : z_fin g p l e R s m args below meth c Q code P (some .boolean)) : ∀ x ∈ k_La_law_11, z_sn zTab g d p l e R s m args below meth c Q 4 P x := by
  unfold k_La_law_11
  refine z_k (S_iald cx (by decide +kernel)) ?_
  refine z_k (S_callV cx (T := F_Mo) (N := 43) (r := r_Mo_give) rfl ⟨w_784, w_4, by decide, by decide +kernel⟩ w_781 w_782 w_783 rfl (by decide +kernel)) ?_
  refine z_k (S_icmp_eq cx (off := 331) (by decide +kernel) (by decide)) ?_
  refine z_k (S_push cx (n := 0) (by decide +kernel) (by decide)) ?_
  refine z_k (S_zret (hf.2.2.1 rfl) (by decide +kernel)) ?_
  refine z_k (S_aload_n cx (k := 1) (by decide +kernel) rfl) ?_
  refine z_k (S_callV cx (T := F_St) (N := 4) (r := r_St_tick) rfl ⟨w_461, w_1, by decide, by decide +kernel⟩ w_458 w_459 w_460 rfl (by decide +kernel)) ?_
  refine z_k (S_aload_n cx (k := 2) (by decide +kernel) rfl) ?_
  refine z_k (S_callV cx (T := F_Mo) (N := 43) (r := r_Mo_tick) rfl ⟨w_788, w_4, by decide, by decide +kernel⟩ w_785 w_786 w_787 rfl (by decide +kernel)) ?_
  refine z_k (S_icmp_eq cx (off := 318) (by decide +kernel) (by decide)) ?_
  refine z_k (S_push cx (n := 0) (by decide +kernel) (by decide)) ?_
  refine z_k (S_zret (hf.2.2.1 rfl) (by decide +kernel)) ?_
  refine z_k (S_aload_n cx (k := 1) (by decide +kernel) rfl) ?_
  refine z_k (S_aload_n cx (k := 0) (by decide +kernel) rfl) ?_
  refine z_k (S_iload_n cx (k := 3) (by decide +kernel) rfl) ?_
  refine z_k (S_push cx (n := 1) (by decide +kernel) (by decide)) ?_
  refine z_k (S_iadd cx (by decide +kernel)) ?_
  refine z_k (S_iald cx (by decide +kernel)) ?_
  refine z_k (S_callV cx (T := F_St) (N := 4) (r := r_St_state) rfl ⟨w_469, w_1, by decide, by decide +kernel⟩ w_466 w_467 w_468 rfl (by decide +kernel)) ?_
  refine z_k (S_aload_n cx (k := 2) (by decide +kernel) rfl) ?_
  refine z_k (S_aload_n cx (k := 0) (by decide +kernel) rfl) ?_
  refine z_k (S_iload_n cx (k := 3) (by decide +kernel) rfl) ?_
  refine z_k (S_push cx (n := 1) (by decide +kernel) (by decide)) ?_
  refine z_k (S_iadd cx (by decide +kernel)) ?_
  exact z_k0
set_option maxRecDepth 100000 in
set_option maxHeartbeats 4000000 in
theorem s_La_law_12 (cx : z_cx zTab g d p l e R s m args below meth c code "SealedTalksLaw" 4) (hf : z_fin g p l e R s m args below meth c Q code P (some .boolean)) : ∀ x ∈ k_La_law_12, z_sn zTab g d p l e R s m args below meth c Q 4 P x := by
  unfold k_La_law_12
  refine z_k (S_iald cx (by decide +kernel)) ?_
  refine z_k (S_callV cx (T := F_Mo) (N := 43) (r := r_Mo_state) rfl ⟨w_792, w_4, by decide, by decide +kernel⟩ w_789 w_790 w_791 rfl (by decide +kernel)) ?_
  refine z_k (S_icmp_eq cx (off := 295) (by decide +kernel) (by decide)) ?_
  refine z_k (S_push cx (n := 0) (by decide +kernel) (by decide)) ?_
  refine z_k (S_zret (hf.2.2.1 rfl) (by decide +kernel)) ?_
  refine z_k (S_aload_n cx (k := 1) (by decide +kernel) rfl) ?_
  refine z_k (S_aload_n cx (k := 0) (by decide +kernel) rfl) ?_
  refine z_k (S_iload_n cx (k := 3) (by decide +kernel) rfl) ?_
  refine z_k (S_push cx (n := 1) (by decide +kernel) (by decide)) ?_
  refine z_k (S_iadd cx (by decide +kernel)) ?_
  refine z_k (S_iald cx (by decide +kernel)) ?_
  refine z_k (S_callV cx (T := F_St) (N := 4) (r := r_St_steps) rfl ⟨w_473, w_1, by decide, by decide +kernel⟩ w_470 w_471 w_472 rfl (by decide +kernel)) ?_
  refine z_k (S_aload_n cx (k := 2) (by decide +kernel) rfl) ?_
  refine z_k (S_aload_n cx (k := 0) (by decide +kernel) rfl) ?_
  refine z_k (S_iload_n cx (k := 3) (by decide +kernel) rfl) ?_
  refine z_k (S_push cx (n := 1) (by decide +kernel) (by decide)) ?_
  refine z_k (S_iadd cx (by decide +kernel)) ?_
  refine z_k (S_iald cx (by decide +kernel)) ?_
  refine z_k (S_callV cx (T := F_Mo) (N := 43) (r := r_Mo_steps) rfl ⟨w_796, w_4, by decide, by decide +kernel⟩ w_793 w_794 w_795 rfl (by decide +kernel)) ?_
  refine z_k (S_icmp_eq cx (off := 272) (by decide +kernel) (by decide)) ?_
  refine z_k (S_push cx (n := 0) (by decide +kernel) (by decide)) ?_
  refine z_k (S_zret (hf.2.2.1 rfl) (by decide +kernel)) ?_
  refine z_k (S_aload_n cx (k := 1) (by decide +kernel) rfl) ?_
  refine z_k (S_aload_n cx (k := 0) (by decide +kernel) rfl) ?_
  exact z_k0
set_option maxRecDepth 100000 in
set_option maxHeartbeats 4000000 in
theorem s_La_law_13 (cx : z_cx zTab g d p l e R s m args below meth c code "SealedTalksLaw" 4) (hf : z_fin g p l e R s m args below meth c Q code P (some .boolean)) : ∀ x ∈ k_La_law_13, z_sn zTab g d p l e R s m args below meth c Q 4 P x := by
  unfold k_La_law_13
  refine z_k (S_iload_n cx (k := 3) (by decide +kernel) rfl) ?_
  refine z_k (S_push cx (n := 1) (by decide +kernel) (by decide)) ?_
  refine z_k (S_iadd cx (by decide +kernel)) ?_
  refine z_k (S_iald cx (by decide +kernel)) ?_
  refine z_k (S_callV cx (T := F_St) (N := 4) (r := r_St_peer) rfl ⟨w_477, w_1, by decide, by decide +kernel⟩ w_474 w_475 w_476 rfl (by decide +kernel)) ?_
  refine z_k (S_aload_n cx (k := 2) (by decide +kernel) rfl) ?_
  refine z_k (S_aload_n cx (k := 0) (by decide +kernel) rfl) ?_
  refine z_k (S_iload_n cx (k := 3) (by decide +kernel) rfl) ?_
  refine z_k (S_push cx (n := 1) (by decide +kernel) (by decide)) ?_
  refine z_k (S_iadd cx (by decide +kernel)) ?_
  refine z_k (S_iald cx (by decide +kernel)) ?_
  refine z_k (S_callV cx (T := F_Mo) (N := 43) (r := r_Mo_peer) rfl ⟨w_800, w_4, by decide, by decide +kernel⟩ w_797 w_798 w_799 rfl (by decide +kernel)) ?_
  refine z_k (S_icmp_eq cx (off := 249) (by decide +kernel) (by decide)) ?_
  refine z_k (S_push cx (n := 0) (by decide +kernel) (by decide)) ?_
  refine z_k (S_zret (hf.2.2.1 rfl) (by decide +kernel)) ?_
  refine z_k (S_aload_n cx (k := 1) (by decide +kernel) rfl) ?_
  refine z_k (S_aload_n cx (k := 0) (by decide +kernel) rfl) ?_
  refine z_k (S_iload_n cx (k := 3) (by decide +kernel) rfl) ?_
  refine z_k (S_push cx (n := 1) (by decide +kernel) (by decide)) ?_
  refine z_k (S_iadd cx (by decide +kernel)) ?_
  refine z_k (S_iald cx (by decide +kernel)) ?_
  refine z_k (S_callV cx (T := F_St) (N := 4) (r := r_St_payload) rfl ⟨w_481, w_1, by decide, by decide +kernel⟩ w_478 w_479 w_480 rfl (by decide +kernel)) ?_
  refine z_k (S_aload_n cx (k := 2) (by decide +kernel) rfl) ?_
  refine z_k (S_aload_n cx (k := 0) (by decide +kernel) rfl) ?_
  exact z_k0
set_option maxRecDepth 100000 in
set_option maxHeartbeats 4000000 in
theorem s_La_law_14 (cx : z_cx zTab g d p l e R s m args below meth c code "SealedTalksLaw" 4) (hf : z_fin g p l e R s m args below meth c Q code P (some .boolean)) : ∀ x ∈ k_La_law_14, z_sn zTab g d p l e R s m args below meth c Q 4 P x := by
  unfold k_La_law_14
  refine z_k (S_iload_n cx (k := 3) (by decide +kernel) rfl) ?_
  refine z_k (S_push cx (n := 1) (by decide +kernel) (by decide)) ?_
  refine z_k (S_iadd cx (by decide +kernel)) ?_
  refine z_k (S_iald cx (by decide +kernel)) ?_
  refine z_k (S_callV cx (T := F_Mo) (N := 43) (r := r_Mo_payload) rfl ⟨w_804, w_4, by decide, by decide +kernel⟩ w_801 w_802 w_803 rfl (by decide +kernel)) ?_
  refine z_k (S_icmp_eq cx (off := 226) (by decide +kernel) (by decide)) ?_
  refine z_k (S_push cx (n := 0) (by decide +kernel) (by decide)) ?_
  refine z_k (S_zret (hf.2.2.1 rfl) (by decide +kernel)) ?_
  refine z_k (S_aload_n cx (k := 1) (by decide +kernel) rfl) ?_
  refine z_k (S_aload_n cx (k := 0) (by decide +kernel) rfl) ?_
  refine z_k (S_iload_n cx (k := 3) (by decide +kernel) rfl) ?_
  refine z_k (S_push cx (n := 1) (by decide +kernel) (by decide)) ?_
  refine z_k (S_iadd cx (by decide +kernel)) ?_
  refine z_k (S_iald cx (by decide +kernel)) ?_
  refine z_k (S_callV cx (T := F_St) (N := 4) (r := r_St_accepted) rfl ⟨w_485, w_1, by decide, by decide +kernel⟩ w_482 w_483 w_484 rfl (by decide +kernel)) ?_
  refine z_k (S_aload_n cx (k := 2) (by decide +kernel) rfl) ?_
  refine z_k (S_aload_n cx (k := 0) (by decide +kernel) rfl) ?_
  refine z_k (S_iload_n cx (k := 3) (by decide +kernel) rfl) ?_
  refine z_k (S_push cx (n := 1) (by decide +kernel) (by decide)) ?_
  refine z_k (S_iadd cx (by decide +kernel)) ?_
  refine z_k (S_iald cx (by decide +kernel)) ?_
  refine z_k (S_callV cx (T := F_Mo) (N := 43) (r := r_Mo_accepted) rfl ⟨w_808, w_4, by decide, by decide +kernel⟩ w_805 w_806 w_807 rfl (by decide +kernel)) ?_
  refine z_k (S_icmp_eq cx (off := 203) (by decide +kernel) (by decide)) ?_
  refine z_k (S_push cx (n := 0) (by decide +kernel) (by decide)) ?_
  exact z_k0
set_option maxRecDepth 100000 in
set_option maxHeartbeats 4000000 in
theorem s_La_law_15 (cx : z_cx zTab g d p l e R s m args below meth c code "SealedTalksLaw" 4) (hf : z_fin g p l e R s m args below meth c Q code P (some .boolean)) : ∀ x ∈ k_La_law_15, z_sn zTab g d p l e R s m args below meth c Q 4 P x := by
  unfold k_La_law_15
  refine z_k (S_zret (hf.2.2.1 rfl) (by decide +kernel)) ?_
  refine z_k (S_aload_n cx (k := 1) (by decide +kernel) rfl) ?_
  refine z_k (S_aload_n cx (k := 0) (by decide +kernel) rfl) ?_
  refine z_k (S_iload_n cx (k := 3) (by decide +kernel) rfl) ?_
  refine z_k (S_push cx (n := 1) (by decide +kernel) (by decide)) ?_
  refine z_k (S_iadd cx (by decide +kernel)) ?_
  refine z_k (S_iald cx (by decide +kernel)) ?_
  refine z_k (S_aload_n cx (k := 0) (by decide +kernel) rfl) ?_
  refine z_k (S_iload_n cx (k := 3) (by decide +kernel) rfl) ?_
  refine z_k (S_push cx (n := 2) (by decide +kernel) (by decide)) ?_
  refine z_k (S_iadd cx (by decide +kernel)) ?_
  refine z_k (S_iald cx (by decide +kernel)) ?_
  refine z_k (S_callV cx (T := F_St) (N := 4) (r := r_St_match) rfl ⟨w_489, w_1, by decide, by decide +kernel⟩ w_486 w_487 w_488 rfl (by decide +kernel)) ?_
  refine z_k (S_aload_n cx (k := 2) (by decide +kernel) rfl) ?_
  refine z_k (S_aload_n cx (k := 0) (by decide +kernel) rfl) ?_
  refine z_k (S_iload_n cx (k := 3) (by decide +kernel) rfl) ?_
  refine z_k (S_push cx (n := 1) (by decide +kernel) (by decide)) ?_
  refine z_k (S_iadd cx (by decide +kernel)) ?_
  refine z_k (S_iald cx (by decide +kernel)) ?_
  refine z_k (S_aload_n cx (k := 0) (by decide +kernel) rfl) ?_
  refine z_k (S_iload_n cx (k := 3) (by decide +kernel) rfl) ?_
  refine z_k (S_push cx (n := 2) (by decide +kernel) (by decide)) ?_
  refine z_k (S_iadd cx (by decide +kernel)) ?_
  refine z_k (S_iald cx (by decide +kernel)) ?_
  exact z_k0
set_option maxRecDepth 100000 in
set_option maxHeartbeats 4000000 in
theorem s_La_law_16 (cx : z_cx zTab g d p l e R s m args below meth c code "SealedTalksLaw" 4) (hf : z_fin g p l e R s m args below meth c Q code P (some .boolean)) : ∀ x ∈ k_La_law_16, z_sn zTab g d p l e R s m args below meth c Q 4 P x := by
  unfold k_La_law_16
  refine z_k (S_callV cx (T := F_Mo) (N := 43) (r := r_Mo_match) rfl ⟨w_812, w_4, by decide, by decide +kernel⟩ w_809 w_810 w_811 rfl (by decide +kernel)) ?_
  refine z_k (S_icmp_eq cx (off := 170) (by decide +kernel) (by decide)) ?_
  refine z_k (S_push cx (n := 0) (by decide +kernel) (by decide)) ?_
  refine z_k (S_zret (hf.2.2.1 rfl) (by decide +kernel)) ?_
  refine z_k (S_aload_n cx (k := 1) (by decide +kernel) rfl) ?_
  refine z_k (S_aload_n cx (k := 0) (by decide +kernel) rfl) ?_
  refine z_k (S_iload_n cx (k := 3) (by decide +kernel) rfl) ?_
  refine z_k (S_push cx (n := 1) (by decide +kernel) (by decide)) ?_
  refine z_k (S_iadd cx (by decide +kernel)) ?_
  refine z_k (S_iald cx (by decide +kernel)) ?_
  refine z_k (S_callV cx (T := F_St) (N := 4) (r := r_St_open) rfl ⟨w_493, w_1, by decide, by decide +kernel⟩ w_490 w_491 w_492 rfl (by decide +kernel)) ?_
  refine z_k (S_aload_n cx (k := 2) (by decide +kernel) rfl) ?_
  refine z_k (S_aload_n cx (k := 0) (by decide +kernel) rfl) ?_
  refine z_k (S_iload_n cx (k := 3) (by decide +kernel) rfl) ?_
  refine z_k (S_push cx (n := 1) (by decide +kernel) (by decide)) ?_
  refine z_k (S_iadd cx (by decide +kernel)) ?_
  refine z_k (S_iald cx (by decide +kernel)) ?_
  refine z_k (S_callV cx (T := F_Mo) (N := 43) (r := r_Mo_open) rfl ⟨w_816, w_4, by decide, by decide +kernel⟩ w_813 w_814 w_815 rfl (by decide +kernel)) ?_
  refine z_k (S_icmp_eq cx (off := 147) (by decide +kernel) (by decide)) ?_
  refine z_k (S_push cx (n := 0) (by decide +kernel) (by decide)) ?_
  refine z_k (S_zret (hf.2.2.1 rfl) (by decide +kernel)) ?_
  refine z_k (S_aload_n cx (k := 1) (by decide +kernel) rfl) ?_
  refine z_k (S_aload_n cx (k := 0) (by decide +kernel) rfl) ?_
  refine z_k (S_iload_n cx (k := 3) (by decide +kernel) rfl) ?_
  exact z_k0
set_option maxRecDepth 100000 in
set_option maxHeartbeats 4000000 in
theorem s_La_law_17 (cx : z_cx zTab g d p l e R s m args below meth c code "SealedTalksLaw" 4) (hf : z_fin g p l e R s m args below meth c Q code P (some .boolean)) : ∀ x ∈ k_La_law_17, z_sn zTab g d p l e R s m args below meth c Q 4 P x := by
  unfold k_La_law_17
  refine z_k (S_push cx (n := 1) (by decide +kernel) (by decide)) ?_
  refine z_k (S_iadd cx (by decide +kernel)) ?_
  refine z_k (S_iald cx (by decide +kernel)) ?_
  refine z_k (S_callV cx (T := F_St) (N := 4) (r := r_St_parts) rfl ⟨w_501, w_1, by decide, by decide +kernel⟩ w_498 w_499 w_500 rfl (by decide +kernel)) ?_
  refine z_k (S_aload_n cx (k := 2) (by decide +kernel) rfl) ?_
  refine z_k (S_aload_n cx (k := 0) (by decide +kernel) rfl) ?_
  refine z_k (S_iload_n cx (k := 3) (by decide +kernel) rfl) ?_
  refine z_k (S_push cx (n := 1) (by decide +kernel) (by decide)) ?_
  refine z_k (S_iadd cx (by decide +kernel)) ?_
  refine z_k (S_iald cx (by decide +kernel)) ?_
  refine z_k (S_callV cx (T := F_Mo) (N := 43) (r := r_Mo_parts) rfl ⟨w_824, w_4, by decide, by decide +kernel⟩ w_821 w_822 w_823 rfl (by decide +kernel)) ?_
  refine z_k (S_icmp_eq cx (off := 124) (by decide +kernel) (by decide)) ?_
  refine z_k (S_push cx (n := 0) (by decide +kernel) (by decide)) ?_
  refine z_k (S_zret (hf.2.2.1 rfl) (by decide +kernel)) ?_
  refine z_k (S_aload_n cx (k := 1) (by decide +kernel) rfl) ?_
  refine z_k (S_aload_n cx (k := 0) (by decide +kernel) rfl) ?_
  refine z_k (S_iload_n cx (k := 3) (by decide +kernel) rfl) ?_
  refine z_k (S_push cx (n := 1) (by decide +kernel) (by decide)) ?_
  refine z_k (S_iadd cx (by decide +kernel)) ?_
  refine z_k (S_iald cx (by decide +kernel)) ?_
  refine z_k (S_aload_n cx (k := 0) (by decide +kernel) rfl) ?_
  refine z_k (S_iload_n cx (k := 3) (by decide +kernel) rfl) ?_
  refine z_k (S_push cx (n := 2) (by decide +kernel) (by decide)) ?_
  refine z_k (S_iadd cx (by decide +kernel)) ?_
  exact z_k0
set_option maxRecDepth 100000 in
set_option maxHeartbeats 4000000 in
theorem s_La_law_18 (cx : z_cx zTab g d p l e R s m args below meth c code "SealedTalksLaw" 4) (hf : z_fin g p l e R s m args below meth c Q code P (some .boolean)) : ∀ x ∈ k_La_law_18, z_sn zTab g d p l e R s m args below meth c Q 4 P x := by
  unfold k_La_law_18
  refine z_k (S_iald cx (by decide +kernel)) ?_
  refine z_k (S_callV cx (T := F_St) (N := 4) (r := r_St_sees) rfl ⟨w_505, w_1, by decide, by decide +kernel⟩ w_502 w_503 w_504 rfl (by decide +kernel)) ?_
  refine z_k (S_aload_n cx (k := 2) (by decide +kernel) rfl) ?_
  refine z_k (S_aload_n cx (k := 0) (by decide +kernel) rfl) ?_
  refine z_k (S_iload_n cx (k := 3) (by decide +kernel) rfl) ?_
  refine z_k (S_push cx (n := 1) (by decide +kernel) (by decide)) ?_
  refine z_k (S_iadd cx (by decide +kernel)) ?_
  refine z_k (S_iald cx (by decide +kernel)) ?_
  refine z_k (S_aload_n cx (k := 0) (by decide +kernel) rfl) ?_
  refine z_k (S_iload_n cx (k := 3) (by decide +kernel) rfl) ?_
  refine z_k (S_push cx (n := 2) (by decide +kernel) (by decide)) ?_
  refine z_k (S_iadd cx (by decide +kernel)) ?_
  refine z_k (S_iald cx (by decide +kernel)) ?_
  refine z_k (S_callV cx (T := F_Mo) (N := 43) (r := r_Mo_sees) rfl ⟨w_828, w_4, by decide, by decide +kernel⟩ w_825 w_826 w_827 rfl (by decide +kernel)) ?_
  refine z_k (S_icmp_eq cx (off := 91) (by decide +kernel) (by decide)) ?_
  refine z_k (S_push cx (n := 0) (by decide +kernel) (by decide)) ?_
  refine z_k (S_zret (hf.2.2.1 rfl) (by decide +kernel)) ?_
  refine z_k (S_aload_n cx (k := 1) (by decide +kernel) rfl) ?_
  refine z_k (S_aload_n cx (k := 0) (by decide +kernel) rfl) ?_
  refine z_k (S_iload_n cx (k := 3) (by decide +kernel) rfl) ?_
  refine z_k (S_push cx (n := 1) (by decide +kernel) (by decide)) ?_
  refine z_k (S_iadd cx (by decide +kernel)) ?_
  refine z_k (S_iald cx (by decide +kernel)) ?_
  refine z_k (S_aload_n cx (k := 0) (by decide +kernel) rfl) ?_
  exact z_k0
set_option maxRecDepth 100000 in
set_option maxHeartbeats 4000000 in
theorem s_La_law_19 (cx : z_cx zTab g d p l e R s m args below meth c code "SealedTalksLaw" 4) (hf : z_fin g p l e R s m args below meth c Q code P (some .boolean)) : ∀ x ∈ k_La_law_19, z_sn zTab g d p l e R s m args below meth c Q 4 P x := by
  unfold k_La_law_19
  refine z_k (S_iload_n cx (k := 3) (by decide +kernel) rfl) ?_
  refine z_k (S_push cx (n := 2) (by decide +kernel) (by decide)) ?_
  refine z_k (S_iadd cx (by decide +kernel)) ?_
  refine z_k (S_iald cx (by decide +kernel)) ?_
  refine z_k (S_callV cx (T := F_St) (N := 4) (r := r_St_shown) rfl ⟨w_516, w_1, by decide, by decide +kernel⟩ w_513 w_514 w_515 rfl (by decide +kernel)) ?_
  refine z_k (S_aload_n cx (k := 2) (by decide +kernel) rfl) ?_
  refine z_k (S_aload_n cx (k := 0) (by decide +kernel) rfl) ?_
  refine z_k (S_iload_n cx (k := 3) (by decide +kernel) rfl) ?_
  refine z_k (S_push cx (n := 1) (by decide +kernel) (by decide)) ?_
  refine z_k (S_iadd cx (by decide +kernel)) ?_
  refine z_k (S_iald cx (by decide +kernel)) ?_
  refine z_k (S_aload_n cx (k := 0) (by decide +kernel) rfl) ?_
  refine z_k (S_iload_n cx (k := 3) (by decide +kernel) rfl) ?_
  refine z_k (S_push cx (n := 2) (by decide +kernel) (by decide)) ?_
  refine z_k (S_iadd cx (by decide +kernel)) ?_
  refine z_k (S_iald cx (by decide +kernel)) ?_
  refine z_k (S_callV cx (T := F_Mo) (N := 43) (r := r_Mo_shown) rfl ⟨w_832, w_4, by decide, by decide +kernel⟩ w_829 w_830 w_831 rfl (by decide +kernel)) ?_
  refine z_k (S_icmp_eq cx (off := 58) (by decide +kernel) (by decide)) ?_
  refine z_k (S_push cx (n := 0) (by decide +kernel) (by decide)) ?_
  refine z_k (S_zret (hf.2.2.1 rfl) (by decide +kernel)) ?_
  refine z_k (S_aload_n cx (k := 1) (by decide +kernel) rfl) ?_
  refine z_k (S_aload_n cx (k := 0) (by decide +kernel) rfl) ?_
  refine z_k (S_iload_n cx (k := 3) (by decide +kernel) rfl) ?_
  refine z_k (S_push cx (n := 1) (by decide +kernel) (by decide)) ?_
  exact z_k0
set_option maxRecDepth 100000 in
set_option maxHeartbeats 4000000 in
theorem s_La_law_20 (cx : z_cx zTab g d p l e R s m args below meth c code "SealedTalksLaw" 4) (hf : z_fin g p l e R s m args below meth c Q code P (some .boolean)) : ∀ x ∈ k_La_law_20, z_sn zTab g d p l e R s m args below meth c Q 4 P x := by
  unfold k_La_law_20
  refine z_k (S_iadd cx (by decide +kernel)) ?_
  refine z_k (S_iald cx (by decide +kernel)) ?_
  refine z_k (S_aload_n cx (k := 0) (by decide +kernel) rfl) ?_
  refine z_k (S_iload_n cx (k := 3) (by decide +kernel) rfl) ?_
  refine z_k (S_push cx (n := 2) (by decide +kernel) (by decide)) ?_
  refine z_k (S_iadd cx (by decide +kernel)) ?_
  refine z_k (S_iald cx (by decide +kernel)) ?_
  refine z_k (S_aload_n cx (k := 0) (by decide +kernel) rfl) ?_
  refine z_k (S_iload_n cx (k := 3) (by decide +kernel) rfl) ?_
  refine z_k (S_push cx (n := 3) (by decide +kernel) (by decide)) ?_
  refine z_k (S_iadd cx (by decide +kernel)) ?_
  refine z_k (S_iald cx (by decide +kernel)) ?_
  refine z_k (S_aload_n cx (k := 0) (by decide +kernel) rfl) ?_
  refine z_k (S_iload_n cx (k := 3) (by decide +kernel) rfl) ?_
  refine z_k (S_push cx (n := 4) (by decide +kernel) (by decide)) ?_
  refine z_k (S_iadd cx (by decide +kernel)) ?_
  refine z_k (S_iald cx (by decide +kernel)) ?_
  refine z_k (S_callV cx (T := F_St) (N := 4) (r := r_St_same) rfl ⟨w_521, w_1, by decide, by decide +kernel⟩ w_518 w_519 w_520 rfl (by decide +kernel)) ?_
  refine z_k (S_aload_n cx (k := 2) (by decide +kernel) rfl) ?_
  refine z_k (S_aload_n cx (k := 0) (by decide +kernel) rfl) ?_
  refine z_k (S_iload_n cx (k := 3) (by decide +kernel) rfl) ?_
  refine z_k (S_push cx (n := 1) (by decide +kernel) (by decide)) ?_
  refine z_k (S_iadd cx (by decide +kernel)) ?_
  refine z_k (S_iald cx (by decide +kernel)) ?_
  exact z_k0
set_option maxRecDepth 100000 in
set_option maxHeartbeats 4000000 in
theorem s_La_law_21 (cx : z_cx zTab g d p l e R s m args below meth c code "SealedTalksLaw" 4) (hf : z_fin g p l e R s m args below meth c Q code P (some .boolean)) : ∀ x ∈ k_La_law_21, z_sn zTab g d p l e R s m args below meth c Q 4 P x := by
  unfold k_La_law_21
  refine z_k (S_aload_n cx (k := 0) (by decide +kernel) rfl) ?_
  refine z_k (S_iload_n cx (k := 3) (by decide +kernel) rfl) ?_
  refine z_k (S_push cx (n := 2) (by decide +kernel) (by decide)) ?_
  refine z_k (S_iadd cx (by decide +kernel)) ?_
  refine z_k (S_iald cx (by decide +kernel)) ?_
  refine z_k (S_aload_n cx (k := 0) (by decide +kernel) rfl) ?_
  refine z_k (S_iload_n cx (k := 3) (by decide +kernel) rfl) ?_
  refine z_k (S_push cx (n := 3) (by decide +kernel) (by decide)) ?_
  refine z_k (S_iadd cx (by decide +kernel)) ?_
  refine z_k (S_iald cx (by decide +kernel)) ?_
  refine z_k (S_aload_n cx (k := 0) (by decide +kernel) rfl) ?_
  refine z_k (S_iload_n cx (k := 3) (by decide +kernel) rfl) ?_
  refine z_k (S_push cx (n := 4) (by decide +kernel) (by decide)) ?_
  refine z_k (S_iadd cx (by decide +kernel)) ?_
  refine z_k (S_iald cx (by decide +kernel)) ?_
  refine z_k (S_callV cx (T := F_Mo) (N := 43) (r := r_Mo_same) rfl ⟨w_837, w_4, by decide, by decide +kernel⟩ w_834 w_835 w_836 rfl (by decide +kernel)) ?_
  refine z_k (S_icmp_eq cx (off := 5) (by decide +kernel) (by decide)) ?_
  refine z_k (S_push cx (n := 0) (by decide +kernel) (by decide)) ?_
  refine z_k (S_zret (hf.2.2.1 rfl) (by decide +kernel)) ?_
  refine z_k (S_iinc cx (n := 6) (by decide) (by decide +kernel) (by decide)) ?_
  refine z_k (S_goto cx (off := -732) (by decide +kernel) (by decide)) ?_
  refine z_k (S_push cx (n := 1) (by decide +kernel) (by decide)) ?_
  refine z_k (S_zret (hf.2.2.1 rfl) (by decide +kernel)) ?_
  exact z_k0
end ZRL
