/-! Each method of SealedTalks$Terms is sound (0). By program. -/
section ZR20
variable {g : zG} {d : Nat} {p : Program} {l : Launch} {e : Env} {R : Room} {s : State} {m : MethodId} {args : Array Value} {below : List Frame} {meth : Method} {c : Code} {Q : State → Prop} {P : zP}
set_option maxRecDepth 100000 in
set_option maxHeartbeats 4000000 in
theorem s_Te_init_0 (cx : z_cx zTab g d p l e R s m args below meth c prog_6_method_1_code "SealedTalks$Terms" 1) (hn : meth.name = "<init>") (hf : z_fin g p l e R s m args below meth c Q prog_6_method_1_code P none) : ∀ x ∈ k_Te_init_0, z_sn zTab g d p l e R s m args below meth c Q 1 P x := by
  unfold k_Te_init_0
  refine z_k (S_aload_n cx (k := 0) (by decide +kernel) rfl) ?_
  refine z_k (S_oini cx w_22 w_15 w_16 (by decide +kernel)) ?_
  refine z_k (S_aload_n cx (k := 0) (by decide +kernel) rfl) ?_
  refine z_k (S_sipush cx (n := 720) (by decide +kernel) (by decide)) ?_
  refine z_k (S_newa cx (kd := 0) (at0 := .int) (ty := .int) rfl rfl w_57 (by decide) rfl (fun _ _ h => h) (by decide +kernel)) ?_
  refine z_k (S_putF cx (T := F_Te) (N := 11) (k := 0) (ty := t_Te) rfl in_Te t_Te_ok n_Te (by decide) rfl w_23 rfl hn rfl (Or.inr (Or.inr ⟨rfl, Or.inr ⟨_, rfl⟩⟩)) (by decide +kernel)) ?_
  refine z_k (S_aload_n cx (k := 0) (by decide +kernel) rfl) ?_
  refine z_k (S_sipush cx (n := 720) (by decide +kernel) (by decide)) ?_
  refine z_k (S_newa cx (kd := 0) (at0 := .int) (ty := .int) rfl rfl w_57 (by decide) rfl (fun _ _ h => h) (by decide +kernel)) ?_
  refine z_k (S_putF cx (T := F_Te) (N := 11) (k := 1) (ty := t_Te) rfl in_Te t_Te_ok n_Te (by decide) rfl w_24 rfl hn rfl (Or.inr (Or.inr ⟨rfl, Or.inr ⟨_, rfl⟩⟩)) (by decide +kernel)) ?_
  refine z_k (S_aload_n cx (k := 0) (by decide +kernel) rfl) ?_
  refine z_k (S_sipush cx (n := 720) (by decide +kernel) (by decide)) ?_
  refine z_k (S_newa cx (kd := 0) (at0 := .int) (ty := .int) rfl rfl w_57 (by decide) rfl (fun _ _ h => h) (by decide +kernel)) ?_
  refine z_k (S_putF cx (T := F_Te) (N := 11) (k := 2) (ty := t_Te) rfl in_Te t_Te_ok n_Te (by decide) rfl w_25 rfl hn rfl (Or.inr (Or.inr ⟨rfl, Or.inr ⟨_, rfl⟩⟩)) (by decide +kernel)) ?_
  refine z_k (S_aload_n cx (k := 0) (by decide +kernel) rfl) ?_
  refine z_k (S_sipush cx (n := 720) (by decide +kernel) (by decide)) ?_
  refine z_k (S_newa cx (kd := 0) (at0 := .int) (ty := .int) rfl rfl w_57 (by decide) rfl (fun _ _ h => h) (by decide +kernel)) ?_
  refine z_k (S_putF cx (T := F_Te) (N := 11) (k := 3) (ty := t_Te) rfl in_Te t_Te_ok n_Te (by decide) rfl w_26 rfl hn rfl (Or.inr (Or.inr ⟨rfl, Or.inr ⟨_, rfl⟩⟩)) (by decide +kernel)) ?_
  refine z_k (S_aload_n cx (k := 0) (by decide +kernel) rfl) ?_
  refine z_k (S_sipush cx (n := 720) (by decide +kernel) (by decide)) ?_
  refine z_k (S_newa cx (kd := 0) (at0 := .int) (ty := .int) rfl rfl w_57 (by decide) rfl (fun _ _ h => h) (by decide +kernel)) ?_
  refine z_k (S_putF cx (T := F_Te) (N := 11) (k := 4) (ty := t_Te) rfl in_Te t_Te_ok n_Te (by decide) rfl w_27 rfl hn rfl (Or.inr (Or.inr ⟨rfl, Or.inr ⟨_, rfl⟩⟩)) (by decide +kernel)) ?_
  refine z_k (S_aload_n cx (k := 0) (by decide +kernel) rfl) ?_
  refine z_k (S_sipush cx (n := 720) (by decide +kernel) (by decide)) ?_
  exact z_k0
set_option maxRecDepth 100000 in
set_option maxHeartbeats 4000000 in
theorem s_Te_init_1 (cx : z_cx zTab g d p l e R s m args below meth c prog_6_method_1_code "SealedTalks$Terms" 1) (hn : meth.name = "<init>") (hf : z_fin g p l e R s m args below meth c Q prog_6_method_1_code P none) : ∀ x ∈ k_Te_init_1, z_sn zTab g d p l e R s m args below meth c Q 1 P x := by
  unfold k_Te_init_1
  refine z_k (S_newa cx (kd := 1) (at0 := .boolean) (ty := .boolean) rfl rfl w_58 (by decide) rfl (fun _ _ h => h) (by decide +kernel)) ?_
  refine z_k (S_putF cx (T := F_Te) (N := 11) (k := 5) (ty := t_Te) rfl in_Te t_Te_ok n_Te (by decide) rfl w_28 rfl hn rfl (Or.inr (Or.inr ⟨rfl, Or.inr ⟨_, rfl⟩⟩)) (by decide +kernel)) ?_
  refine z_k (S_aload_n cx (k := 0) (by decide +kernel) rfl) ?_
  refine z_k (S_sipush cx (n := 720) (by decide +kernel) (by decide)) ?_
  refine z_k (S_newa cx (kd := 0) (at0 := .int) (ty := .int) rfl rfl w_57 (by decide) rfl (fun _ _ h => h) (by decide +kernel)) ?_
  refine z_k (S_putF cx (T := F_Te) (N := 11) (k := 6) (ty := t_Te) rfl in_Te t_Te_ok n_Te (by decide) rfl w_29 rfl hn rfl (Or.inr (Or.inr ⟨rfl, Or.inr ⟨_, rfl⟩⟩)) (by decide +kernel)) ?_
  refine z_k (S_aload_n cx (k := 0) (by decide +kernel) rfl) ?_
  refine z_k (S_sipush cx (n := 128) (by decide +kernel) (by decide)) ?_
  refine z_k (S_newa cx (kd := 0) (at0 := .int) (ty := .int) rfl rfl w_57 (by decide) rfl (fun _ _ h => h) (by decide +kernel)) ?_
  refine z_k (S_putF cx (T := F_Te) (N := 11) (k := 7) (ty := t_Te) rfl in_Te t_Te_ok n_Te (by decide) rfl w_30 rfl hn rfl (Or.inr (Or.inr ⟨rfl, Or.inr ⟨_, rfl⟩⟩)) (by decide +kernel)) ?_
  refine z_k (S_aload_n cx (k := 0) (by decide +kernel) rfl) ?_
  refine z_k (S_bipush cx (n := 21) (by decide +kernel) (by decide)) ?_
  refine z_k (S_newa cx (kd := 1) (at0 := .boolean) (ty := .boolean) rfl rfl w_58 (by decide) rfl (fun _ _ h => h) (by decide +kernel)) ?_
  refine z_k (S_putF cx (T := F_Te) (N := 11) (k := 8) (ty := t_Te) rfl in_Te t_Te_ok n_Te (by decide) rfl w_31 rfl hn rfl (Or.inr (Or.inr ⟨rfl, Or.inr ⟨_, rfl⟩⟩)) (by decide +kernel)) ?_
  refine z_k (S_aload_n cx (k := 0) (by decide +kernel) rfl) ?_
  refine z_k (S_push cx (n := 0) (by decide +kernel) (by decide)) ?_
  refine z_k (S_putf cx (T := F_Te) (N := 11) (k := 9) (ty := t_Te) rfl in_Te t_Te_ok n_Te (by decide) rfl w_32 rfl (Or.inl ⟨rfl, rfl⟩) (by decide +kernel)) ?_
  refine z_k (S_aload_n cx (k := 0) (by decide +kernel) rfl) ?_
  refine z_k (S_bipush cx (n := 8) (by decide +kernel) (by decide)) ?_
  refine z_k (S_putf cx (T := F_Te) (N := 11) (k := 10) (ty := t_Te) rfl in_Te t_Te_ok n_Te (by decide) rfl w_33 rfl (Or.inl ⟨rfl, rfl⟩) (by decide +kernel)) ?_
  refine z_k (S_vret (hf.1 rfl) (by decide +kernel)) ?_
  exact z_k0
theorem s_Te_init : z_snd zTab r_Te_init := ⟨by decide +kernel, w_21, fun g d p l e R s m args below meth c Q P cx hn hf => z_k (s_Te_init_0 cx hn hf) (z_k (s_Te_init_1 cx hn hf) (z_k0))⟩
set_option maxRecDepth 100000 in
set_option maxHeartbeats 4000000 in
theorem s_Te_num_0 (cx : z_cx zTab g d p l e R s m args below meth c prog_6_method_2_code "SealedTalks$Terms" 2) (hn : meth.name = "num") (hf : z_fin g p l e R s m args below meth c Q prog_6_method_2_code P (some .int)) : ∀ x ∈ k_Te_num_0, z_sn zTab g d p l e R s m args below meth c Q 2 P x := by
  unfold k_Te_num_0
  refine z_k (S_aload_n cx (k := 0) (by decide +kernel) rfl) ?_
  refine z_k (S_push cx (n := 1) (by decide +kernel) (by decide)) ?_
  refine z_k (S_iload_n cx (k := 1) (by decide +kernel) rfl) ?_
  refine z_k (S_push cx (n := 0) (by decide +kernel) (by decide)) ?_
  refine z_k (S_push cx (n := 0) (by decide +kernel) (by decide)) ?_
  refine z_k (S_push cx (n := 0) (by decide +kernel) (by decide)) ?_
  refine z_k (S_callV cx (T := F_Te) (N := 11) (r := r_Te_make) rfl ⟨w_217, w_2, by decide, by decide +kernel⟩ w_214 w_216 wp_0 rfl (by decide +kernel)) ?_
  refine z_k (S_iret (hf.2.1 rfl) (by decide +kernel)) ?_
  exact z_k0
theorem s_Te_num : z_snd zTab r_Te_num := ⟨by decide +kernel, w_213, fun g d p l e R s m args below meth c Q P cx hn hf => z_k (s_Te_num_0 cx hn hf) (z_k0)⟩
set_option maxRecDepth 100000 in
set_option maxHeartbeats 4000000 in
theorem s_Te_pub_0 (cx : z_cx zTab g d p l e R s m args below meth c prog_6_method_3_code "SealedTalks$Terms" 2) (hn : meth.name = "pub") (hf : z_fin g p l e R s m args below meth c Q prog_6_method_3_code P (some .int)) : ∀ x ∈ k_Te_pub_0, z_sn zTab g d p l e R s m args below meth c Q 2 P x := by
  unfold k_Te_pub_0
  refine z_k (S_aload_n cx (k := 0) (by decide +kernel) rfl) ?_
  refine z_k (S_push cx (n := 2) (by decide +kernel) (by decide)) ?_
  refine z_k (S_iload_n cx (k := 1) (by decide +kernel) rfl) ?_
  refine z_k (S_push cx (n := 0) (by decide +kernel) (by decide)) ?_
  refine z_k (S_push cx (n := 0) (by decide +kernel) (by decide)) ?_
  refine z_k (S_push cx (n := 0) (by decide +kernel) (by decide)) ?_
  refine z_k (S_callV cx (T := F_Te) (N := 11) (r := r_Te_make) rfl ⟨w_217, w_2, by decide, by decide +kernel⟩ w_214 w_216 wp_0 rfl (by decide +kernel)) ?_
  refine z_k (S_iret (hf.2.1 rfl) (by decide +kernel)) ?_
  exact z_k0
theorem s_Te_pub : z_snd zTab r_Te_pub := ⟨by decide +kernel, w_232, fun g d p l e R s m args below meth c Q P cx hn hf => z_k (s_Te_pub_0 cx hn hf) (z_k0)⟩
set_option maxRecDepth 100000 in
set_option maxHeartbeats 4000000 in
theorem s_Te_dh_0 (cx : z_cx zTab g d p l e R s m args below meth c prog_6_method_4_code "SealedTalks$Terms" 3) (hn : meth.name = "dh") (hf : z_fin g p l e R s m args below meth c Q prog_6_method_4_code P (some .int)) : ∀ x ∈ k_Te_dh_0, z_sn zTab g d p l e R s m args below meth c Q 3 P x := by
  unfold k_Te_dh_0
  refine z_k (S_aload_n cx (k := 0) (by decide +kernel) rfl) ?_
  refine z_k (S_push cx (n := 3) (by decide +kernel) (by decide)) ?_
  refine z_k (S_iload_n cx (k := 1) (by decide +kernel) rfl) ?_
  refine z_k (S_iload_n cx (k := 2) (by decide +kernel) rfl) ?_
  refine z_k (S_mmin cx w_296 w_297 w_8 w_298 (by decide +kernel)) ?_
  refine z_k (S_iload_n cx (k := 1) (by decide +kernel) rfl) ?_
  refine z_k (S_iload_n cx (k := 2) (by decide +kernel) rfl) ?_
  refine z_k (S_mmax cx w_299 w_300 w_8 w_301 (by decide +kernel)) ?_
  refine z_k (S_push cx (n := 0) (by decide +kernel) (by decide)) ?_
  refine z_k (S_push cx (n := 0) (by decide +kernel) (by decide)) ?_
  refine z_k (S_callV cx (T := F_Te) (N := 11) (r := r_Te_make) rfl ⟨w_217, w_2, by decide, by decide +kernel⟩ w_214 w_216 wp_0 rfl (by decide +kernel)) ?_
  refine z_k (S_iret (hf.2.1 rfl) (by decide +kernel)) ?_
  exact z_k0
theorem s_Te_dh : z_snd zTab r_Te_dh := ⟨by decide +kernel, w_295, fun g d p l e R s m args below meth c Q P cx hn hf => z_k (s_Te_dh_0 cx hn hf) (z_k0)⟩
set_option maxRecDepth 100000 in
set_option maxHeartbeats 4000000 in
theorem s_Te_hash_0 (cx : z_cx zTab g d p l e R s m args below meth c prog_6_method_5_code "SealedTalks$Terms" 3) (hn : meth.name = "hash") (hf : z_fin g p l e R s m args below meth c Q prog_6_method_5_code P (some .int)) : ∀ x ∈ k_Te_hash_0, z_sn zTab g d p l e R s m args below meth c Q 3 P x := by
  unfold k_Te_hash_0
  refine z_k (S_aload_n cx (k := 0) (by decide +kernel) rfl) ?_
  refine z_k (S_push cx (n := 4) (by decide +kernel) (by decide)) ?_
  refine z_k (S_iload_n cx (k := 1) (by decide +kernel) rfl) ?_
  refine z_k (S_iload_n cx (k := 2) (by decide +kernel) rfl) ?_
  refine z_k (S_push cx (n := 0) (by decide +kernel) (by decide)) ?_
  refine z_k (S_push cx (n := 0) (by decide +kernel) (by decide)) ?_
  refine z_k (S_callV cx (T := F_Te) (N := 11) (r := r_Te_make) rfl ⟨w_217, w_2, by decide, by decide +kernel⟩ w_214 w_216 wp_0 rfl (by decide +kernel)) ?_
  refine z_k (S_iret (hf.2.1 rfl) (by decide +kernel)) ?_
  exact z_k0
theorem s_Te_hash : z_snd zTab r_Te_hash := ⟨by decide +kernel, w_228, fun g d p l e R s m args below meth c Q P cx hn hf => z_k (s_Te_hash_0 cx hn hf) (z_k0)⟩
set_option maxRecDepth 100000 in
set_option maxHeartbeats 4000000 in
theorem s_Te_chain_0 (cx : z_cx zTab g d p l e R s m args below meth c prog_6_method_6_code "SealedTalks$Terms" 3) (hn : meth.name = "chain") (hf : z_fin g p l e R s m args below meth c Q prog_6_method_6_code P (some .int)) : ∀ x ∈ k_Te_chain_0, z_sn zTab g d p l e R s m args below meth c Q 3 P x := by
  unfold k_Te_chain_0
  refine z_k (S_aload_n cx (k := 0) (by decide +kernel) rfl) ?_
  refine z_k (S_push cx (n := 5) (by decide +kernel) (by decide)) ?_
  refine z_k (S_iload_n cx (k := 1) (by decide +kernel) rfl) ?_
  refine z_k (S_iload_n cx (k := 2) (by decide +kernel) rfl) ?_
  refine z_k (S_push cx (n := 0) (by decide +kernel) (by decide)) ?_
  refine z_k (S_push cx (n := 0) (by decide +kernel) (by decide)) ?_
  refine z_k (S_callV cx (T := F_Te) (N := 11) (r := r_Te_make) rfl ⟨w_217, w_2, by decide, by decide +kernel⟩ w_214 w_216 wp_0 rfl (by decide +kernel)) ?_
  refine z_k (S_iret (hf.2.1 rfl) (by decide +kernel)) ?_
  exact z_k0
theorem s_Te_chain : z_snd zTab r_Te_chain := ⟨by decide +kernel, w_309, fun g d p l e R s m args below meth c Q P cx hn hf => z_k (s_Te_chain_0 cx hn hf) (z_k0)⟩
set_option maxRecDepth 100000 in
set_option maxHeartbeats 4000000 in
theorem s_Te_key_0 (cx : z_cx zTab g d p l e R s m args below meth c prog_6_method_7_code "SealedTalks$Terms" 3) (hn : meth.name = "key") (hf : z_fin g p l e R s m args below meth c Q prog_6_method_7_code P (some .int)) : ∀ x ∈ k_Te_key_0, z_sn zTab g d p l e R s m args below meth c Q 3 P x := by
  unfold k_Te_key_0
  refine z_k (S_aload_n cx (k := 0) (by decide +kernel) rfl) ?_
  refine z_k (S_bipush cx (n := 6) (by decide +kernel) (by decide)) ?_
  refine z_k (S_iload_n cx (k := 1) (by decide +kernel) rfl) ?_
  refine z_k (S_iload_n cx (k := 2) (by decide +kernel) rfl) ?_
  refine z_k (S_push cx (n := 0) (by decide +kernel) (by decide)) ?_
  refine z_k (S_push cx (n := 0) (by decide +kernel) (by decide)) ?_
  refine z_k (S_callV cx (T := F_Te) (N := 11) (r := r_Te_make) rfl ⟨w_217, w_2, by decide, by decide +kernel⟩ w_214 w_216 wp_0 rfl (by decide +kernel)) ?_
  refine z_k (S_iret (hf.2.1 rfl) (by decide +kernel)) ?_
  exact z_k0
theorem s_Te_key : z_snd zTab r_Te_key := ⟨by decide +kernel, w_305, fun g d p l e R s m args below meth c Q P cx hn hf => z_k (s_Te_key_0 cx hn hf) (z_k0)⟩
set_option maxRecDepth 100000 in
set_option maxHeartbeats 4000000 in
theorem s_Te_half_0 (cx : z_cx zTab g d p l e R s m args below meth c prog_6_method_8_code "SealedTalks$Terms" 3) (hn : meth.name = "half") (hf : z_fin g p l e R s m args below meth c Q prog_6_method_8_code P (some .int)) : ∀ x ∈ k_Te_half_0, z_sn zTab g d p l e R s m args below meth c Q 3 P x := by
  unfold k_Te_half_0
  refine z_k (S_aload_n cx (k := 0) (by decide +kernel) rfl) ?_
  refine z_k (S_bipush cx (n := 7) (by decide +kernel) (by decide)) ?_
  refine z_k (S_iload_n cx (k := 1) (by decide +kernel) rfl) ?_
  refine z_k (S_iload_n cx (k := 2) (by decide +kernel) rfl) ?_
  refine z_k (S_push cx (n := 0) (by decide +kernel) (by decide)) ?_
  refine z_k (S_push cx (n := 0) (by decide +kernel) (by decide)) ?_
  refine z_k (S_callV cx (T := F_Te) (N := 11) (r := r_Te_make) rfl ⟨w_217, w_2, by decide, by decide +kernel⟩ w_214 w_216 wp_0 rfl (by decide +kernel)) ?_
  refine z_k (S_iret (hf.2.1 rfl) (by decide +kernel)) ?_
  exact z_k0
theorem s_Te_half : z_snd zTab r_Te_half := ⟨by decide +kernel, w_322, fun g d p l e R s m args below meth c Q P cx hn hf => z_k (s_Te_half_0 cx hn hf) (z_k0)⟩
set_option maxRecDepth 100000 in
set_option maxHeartbeats 4000000 in
theorem s_Te_seal_0 (cx : z_cx zTab g d p l e R s m args below meth c prog_6_method_9_code "SealedTalks$Terms" 5) (hn : meth.name = "seal") (hf : z_fin g p l e R s m args below meth c Q prog_6_method_9_code P (some .int)) : ∀ x ∈ k_Te_seal_0, z_sn zTab g d p l e R s m args below meth c Q 5 P x := by
  unfold k_Te_seal_0
  refine z_k (S_aload_n cx (k := 0) (by decide +kernel) rfl) ?_
  refine z_k (S_bipush cx (n := 8) (by decide +kernel) (by decide)) ?_
  refine z_k (S_iload_n cx (k := 1) (by decide +kernel) rfl) ?_
  refine z_k (S_iload_n cx (k := 2) (by decide +kernel) rfl) ?_
  refine z_k (S_iload_n cx (k := 3) (by decide +kernel) rfl) ?_
  refine z_k (S_iload cx (by decide +kernel)) ?_
  refine z_k (S_callV cx (T := F_Te) (N := 11) (r := r_Te_make) rfl ⟨w_217, w_2, by decide, by decide +kernel⟩ w_214 w_216 wp_0 rfl (by decide +kernel)) ?_
  refine z_k (S_iret (hf.2.1 rfl) (by decide +kernel)) ?_
  exact z_k0
theorem s_Te_seal : z_snd zTab r_Te_seal := ⟨by decide +kernel, w_287, fun g d p l e R s m args below meth c Q P cx hn hf => z_k (s_Te_seal_0 cx hn hf) (z_k0)⟩
set_option maxRecDepth 100000 in
set_option maxHeartbeats 4000000 in
theorem s_Te_isNum_0 (cx : z_cx zTab g d p l e R s m args below meth c prog_6_method_10_code "SealedTalks$Terms" 2) (hn : meth.name = "isNum") (hf : z_fin g p l e R s m args below meth c Q prog_6_method_10_code P (some .boolean)) : ∀ x ∈ k_Te_isNum_0, z_sn zTab g d p l e R s m args below meth c Q 2 P x := by
  unfold k_Te_isNum_0
  refine z_k (S_aload_n cx (k := 0) (by decide +kernel) rfl) ?_
  refine z_k (S_getf cx (T := F_Te) (N := 11) (k := 0) rfl in_Te (by decide) rfl w_23 (by decide +kernel)) ?_
  refine z_k (S_iload_n cx (k := 1) (by decide +kernel) rfl) ?_
  refine z_k (S_iald cx (by decide +kernel)) ?_
  refine z_k (S_push cx (n := 1) (by decide +kernel) (by decide)) ?_
  refine z_k (S_icmp_ne cx (off := 7) (by decide +kernel) (by decide)) ?_
  refine z_k (S_push cx (n := 1) (by decide +kernel) (by decide)) ?_
  refine z_k (S_goto cx (off := 4) (by decide +kernel) (by decide)) ?_
  refine z_k (S_push cx (n := 0) (by decide +kernel) (by decide)) ?_
  refine z_k (S_zret (hf.2.2.1 rfl) (by decide +kernel)) ?_
  exact z_k0
theorem s_Te_isNum : z_snd zTab r_Te_isNum := ⟨by decide +kernel, w_364, fun g d p l e R s m args below meth c Q P cx hn hf => z_k (s_Te_isNum_0 cx hn hf) (z_k0)⟩
set_option maxRecDepth 100000 in
set_option maxHeartbeats 4000000 in
theorem s_Te_isPub_0 (cx : z_cx zTab g d p l e R s m args below meth c prog_6_method_11_code "SealedTalks$Terms" 2) (hn : meth.name = "isPub") (hf : z_fin g p l e R s m args below meth c Q prog_6_method_11_code P (some .boolean)) : ∀ x ∈ k_Te_isPub_0, z_sn zTab g d p l e R s m args below meth c Q 2 P x := by
  unfold k_Te_isPub_0
  refine z_k (S_aload_n cx (k := 0) (by decide +kernel) rfl) ?_
  refine z_k (S_getf cx (T := F_Te) (N := 11) (k := 0) rfl in_Te (by decide) rfl w_23 (by decide +kernel)) ?_
  refine z_k (S_iload_n cx (k := 1) (by decide +kernel) rfl) ?_
  refine z_k (S_iald cx (by decide +kernel)) ?_
  refine z_k (S_push cx (n := 2) (by decide +kernel) (by decide)) ?_
  refine z_k (S_icmp_ne cx (off := 7) (by decide +kernel) (by decide)) ?_
  refine z_k (S_push cx (n := 1) (by decide +kernel) (by decide)) ?_
  refine z_k (S_goto cx (off := 4) (by decide +kernel) (by decide)) ?_
  refine z_k (S_push cx (n := 0) (by decide +kernel) (by decide)) ?_
  refine z_k (S_zret (hf.2.2.1 rfl) (by decide +kernel)) ?_
  exact z_k0
theorem s_Te_isPub : z_snd zTab r_Te_isPub := ⟨by decide +kernel, w_422, fun g d p l e R s m args below meth c Q P cx hn hf => z_k (s_Te_isPub_0 cx hn hf) (z_k0)⟩
set_option maxRecDepth 100000 in
set_option maxHeartbeats 4000000 in
theorem s_Te_isSeal_0 (cx : z_cx zTab g d p l e R s m args below meth c prog_6_method_12_code "SealedTalks$Terms" 2) (hn : meth.name = "isSeal") (hf : z_fin g p l e R s m args below meth c Q prog_6_method_12_code P (some .boolean)) : ∀ x ∈ k_Te_isSeal_0, z_sn zTab g d p l e R s m args below meth c Q 2 P x := by
  unfold k_Te_isSeal_0
  refine z_k (S_aload_n cx (k := 0) (by decide +kernel) rfl) ?_
  refine z_k (S_getf cx (T := F_Te) (N := 11) (k := 0) rfl in_Te (by decide) rfl w_23 (by decide +kernel)) ?_
  refine z_k (S_iload_n cx (k := 1) (by decide +kernel) rfl) ?_
  refine z_k (S_iald cx (by decide +kernel)) ?_
  refine z_k (S_bipush cx (n := 8) (by decide +kernel) (by decide)) ?_
  refine z_k (S_icmp_ne cx (off := 7) (by decide +kernel) (by decide)) ?_
  refine z_k (S_push cx (n := 1) (by decide +kernel) (by decide)) ?_
  refine z_k (S_goto cx (off := 4) (by decide +kernel) (by decide)) ?_
  refine z_k (S_push cx (n := 0) (by decide +kernel) (by decide)) ?_
  refine z_k (S_zret (hf.2.2.1 rfl) (by decide +kernel)) ?_
  exact z_k0
theorem s_Te_isSeal : z_snd zTab r_Te_isSeal := ⟨by decide +kernel, w_380, fun g d p l e R s m args below meth c Q P cx hn hf => z_k (s_Te_isSeal_0 cx hn hf) (z_k0)⟩
set_option maxRecDepth 100000 in
set_option maxHeartbeats 4000000 in
theorem s_Te_isSealOf_0 (cx : z_cx zTab g d p l e R s m args below meth c prog_6_method_13_code "SealedTalks$Terms" 5) (hn : meth.name = "isSealOf") (hf : z_fin g p l e R s m args below meth c Q prog_6_method_13_code P (some .boolean)) : ∀ x ∈ k_Te_isSealOf_0, z_sn zTab g d p l e R s m args below meth c Q 5 P x := by
  unfold k_Te_isSealOf_0
  refine z_k (S_aload_n cx (k := 0) (by decide +kernel) rfl) ?_
  refine z_k (S_iload_n cx (k := 1) (by decide +kernel) rfl) ?_
  refine z_k (S_callV cx (T := F_Te) (N := 11) (r := r_Te_isSeal) rfl ⟨w_380, w_2, by decide, by decide +kernel⟩ w_377 w_378 w_379 rfl (by decide +kernel)) ?_
  refine z_k (S_if_eq cx (off := 38) (by decide +kernel) (by decide)) ?_
  refine z_k (S_aload_n cx (k := 0) (by decide +kernel) rfl) ?_
  refine z_k (S_getf cx (T := F_Te) (N := 11) (k := 1) rfl in_Te (by decide) rfl w_24 (by decide +kernel)) ?_
  refine z_k (S_iload_n cx (k := 1) (by decide +kernel) rfl) ?_
  refine z_k (S_iald cx (by decide +kernel)) ?_
  refine z_k (S_iload_n cx (k := 2) (by decide +kernel) rfl) ?_
  refine z_k (S_icmp_ne cx (off := 28) (by decide +kernel) (by decide)) ?_
  refine z_k (S_aload_n cx (k := 0) (by decide +kernel) rfl) ?_
  refine z_k (S_getf cx (T := F_Te) (N := 11) (k := 2) rfl in_Te (by decide) rfl w_25 (by decide +kernel)) ?_
  refine z_k (S_iload_n cx (k := 1) (by decide +kernel) rfl) ?_
  refine z_k (S_iald cx (by decide +kernel)) ?_
  refine z_k (S_iload_n cx (k := 3) (by decide +kernel) rfl) ?_
  refine z_k (S_icmp_ne cx (off := 18) (by decide +kernel) (by decide)) ?_
  refine z_k (S_aload_n cx (k := 0) (by decide +kernel) rfl) ?_
  refine z_k (S_getf cx (T := F_Te) (N := 11) (k := 3) rfl in_Te (by decide) rfl w_26 (by decide +kernel)) ?_
  refine z_k (S_iload_n cx (k := 1) (by decide +kernel) rfl) ?_
  refine z_k (S_iald cx (by decide +kernel)) ?_
  refine z_k (S_iload cx (by decide +kernel)) ?_
  refine z_k (S_icmp_ne cx (off := 7) (by decide +kernel) (by decide)) ?_
  refine z_k (S_push cx (n := 1) (by decide +kernel) (by decide)) ?_
  refine z_k (S_goto cx (off := 4) (by decide +kernel) (by decide)) ?_
  exact z_k0
set_option maxRecDepth 100000 in
set_option maxHeartbeats 4000000 in
theorem s_Te_isSealOf_1 (cx : z_cx zTab g d p l e R s m args below meth c prog_6_method_13_code "SealedTalks$Terms" 5) (hn : meth.name = "isSealOf") (hf : z_fin g p l e R s m args below meth c Q prog_6_method_13_code P (some .boolean)) : ∀ x ∈ k_Te_isSealOf_1, z_sn zTab g d p l e R s m args below meth c Q 5 P x := by
  unfold k_Te_isSealOf_1
  refine z_k (S_push cx (n := 0) (by decide +kernel) (by decide)) ?_
  refine z_k (S_zret (hf.2.2.1 rfl) (by decide +kernel)) ?_
  exact z_k0
theorem s_Te_isSealOf : z_snd zTab r_Te_isSealOf := ⟨by decide +kernel, w_376, fun g d p l e R s m args below meth c Q P cx hn hf => z_k (s_Te_isSealOf_0 cx hn hf) (z_k (s_Te_isSealOf_1 cx hn hf) (z_k0))⟩
set_option maxRecDepth 100000 in
set_option maxHeartbeats 4000000 in
theorem s_Te_valueOf_0 (cx : z_cx zTab g d p l e R s m args below meth c prog_6_method_14_code "SealedTalks$Terms" 2) (hn : meth.name = "valueOf") (hf : z_fin g p l e R s m args below meth c Q prog_6_method_14_code P (some .int)) : ∀ x ∈ k_Te_valueOf_0, z_sn zTab g d p l e R s m args below meth c Q 2 P x := by
  unfold k_Te_valueOf_0
  refine z_k (S_aload_n cx (k := 0) (by decide +kernel) rfl) ?_
  refine z_k (S_getf cx (T := F_Te) (N := 11) (k := 1) rfl in_Te (by decide) rfl w_24 (by decide +kernel)) ?_
  refine z_k (S_iload_n cx (k := 1) (by decide +kernel) rfl) ?_
  refine z_k (S_iald cx (by decide +kernel)) ?_
  refine z_k (S_iret (hf.2.1 rfl) (by decide +kernel)) ?_
  exact z_k0
theorem s_Te_valueOf : z_snd zTab r_Te_valueOf := ⟨by decide +kernel, w_368, fun g d p l e R s m args below meth c Q P cx hn hf => z_k (s_Te_valueOf_0 cx hn hf) (z_k0)⟩
set_option maxRecDepth 100000 in
set_option maxHeartbeats 4000000 in
theorem s_Te_insideOf_0 (cx : z_cx zTab g d p l e R s m args below meth c prog_6_method_15_code "SealedTalks$Terms" 2) (hn : meth.name = "insideOf") (hf : z_fin g p l e R s m args below meth c Q prog_6_method_15_code P (some .int)) : ∀ x ∈ k_Te_insideOf_0, z_sn zTab g d p l e R s m args below meth c Q 2 P x := by
  unfold k_Te_insideOf_0
  refine z_k (S_aload_n cx (k := 0) (by decide +kernel) rfl) ?_
  refine z_k (S_getf cx (T := F_Te) (N := 11) (k := 4) rfl in_Te (by decide) rfl w_27 (by decide +kernel)) ?_
  refine z_k (S_iload_n cx (k := 1) (by decide +kernel) rfl) ?_
  refine z_k (S_iald cx (by decide +kernel)) ?_
  refine z_k (S_iret (hf.2.1 rfl) (by decide +kernel)) ?_
  exact z_k0
theorem s_Te_insideOf : z_snd zTab r_Te_insideOf := ⟨by decide +kernel, w_384, fun g d p l e R s m args below meth c Q P cx hn hf => z_k (s_Te_insideOf_0 cx hn hf) (z_k0)⟩
set_option maxRecDepth 100000 in
set_option maxHeartbeats 4000000 in
theorem s_Te_canWorkOut_0 (cx : z_cx zTab g d p l e R s m args below meth c prog_6_method_16_code "SealedTalks$Terms" 2) (hn : meth.name = "canWorkOut") (hf : z_fin g p l e R s m args below meth c Q prog_6_method_16_code P (some .boolean)) : ∀ x ∈ k_Te_canWorkOut_0, z_sn zTab g d p l e R s m args below meth c Q 2 P x := by
  unfold k_Te_canWorkOut_0
  refine z_k (S_aload_n cx (k := 0) (by decide +kernel) rfl) ?_
  refine z_k (S_getf cx (T := F_Te) (N := 11) (k := 5) rfl in_Te (by decide) rfl w_28 (by decide +kernel)) ?_
  refine z_k (S_iload_n cx (k := 1) (by decide +kernel) rfl) ?_
  refine z_k (S_zald cx (by decide +kernel)) ?_
  refine z_k (S_zret (hf.2.2.1 rfl) (by decide +kernel)) ?_
  exact z_k0
theorem s_Te_canWorkOut : z_snd zTab r_Te_canWorkOut := ⟨by decide +kernel, w_497, fun g d p l e R s m args below meth c Q P cx hn hf => z_k (s_Te_canWorkOut_0 cx hn hf) (z_k0)⟩
set_option maxRecDepth 100000 in
set_option maxHeartbeats 4000000 in
theorem s_Te_canOpen_0 (cx : z_cx zTab g d p l e R s m args below meth c prog_6_method_17_code "SealedTalks$Terms" 2) (hn : meth.name = "canOpen") (hf : z_fin g p l e R s m args below meth c Q prog_6_method_17_code P (some .boolean)) : ∀ x ∈ k_Te_canOpen_0, z_sn zTab g d p l e R s m args below meth c Q 2 P x := by
  unfold k_Te_canOpen_0
  refine z_k (S_aload_n cx (k := 0) (by decide +kernel) rfl) ?_
  refine z_k (S_getf cx (T := F_Te) (N := 11) (k := 5) rfl in_Te (by decide) rfl w_28 (by decide +kernel)) ?_
  refine z_k (S_aload_n cx (k := 0) (by decide +kernel) rfl) ?_
  refine z_k (S_getf cx (T := F_Te) (N := 11) (k := 1) rfl in_Te (by decide) rfl w_24 (by decide +kernel)) ?_
  refine z_k (S_iload_n cx (k := 1) (by decide +kernel) rfl) ?_
  refine z_k (S_iald cx (by decide +kernel)) ?_
  refine z_k (S_zald cx (by decide +kernel)) ?_
  refine z_k (S_zret (hf.2.2.1 rfl) (by decide +kernel)) ?_
  exact z_k0
theorem s_Te_canOpen : z_snd zTab r_Te_canOpen := ⟨by decide +kernel, w_512, fun g d p l e R s m args below meth c Q P cx hn hf => z_k (s_Te_canOpen_0 cx hn hf) (z_k0)⟩
set_option maxRecDepth 100000 in
set_option maxHeartbeats 4000000 in
theorem s_Te_makeKey_0 (cx : z_cx zTab g d p l e R s m args below meth c prog_6_method_18_code "SealedTalks$Terms" 1) (hn : meth.name = "makeKey") (hf : z_fin g p l e R s m args below meth c Q prog_6_method_18_code P (some .int)) : ∀ x ∈ k_Te_makeKey_0, z_sn zTab g d p l e R s m args below meth c Q 1 P x := by
  unfold k_Te_makeKey_0
  refine z_k (S_aload_n cx (k := 0) (by decide +kernel) rfl) ?_
  refine z_k (S_getf cx (T := F_Te) (N := 11) (k := 10) rfl in_Te (by decide) rfl w_33 (by decide +kernel)) ?_
  refine z_k (S_bipush cx (n := 20) (by decide +kernel) (by decide)) ?_
  refine z_k (S_icmp_ge cx (off := 13) (by decide +kernel) (by decide)) ?_
  refine z_k (S_aload_n cx (k := 0) (by decide +kernel) rfl) ?_
  refine z_k (S_dup cx (by decide +kernel)) ?_
  refine z_k (S_getf cx (T := F_Te) (N := 11) (k := 10) rfl in_Te (by decide) rfl w_33 (by decide +kernel)) ?_
  refine z_k (S_push cx (n := 1) (by decide +kernel) (by decide)) ?_
  refine z_k (S_iadd cx (by decide +kernel)) ?_
  refine z_k (S_putf cx (T := F_Te) (N := 11) (k := 10) (ty := t_Te) rfl in_Te t_Te_ok n_Te (by decide) rfl w_33 rfl (Or.inl ⟨rfl, rfl⟩) (by decide +kernel)) ?_
  refine z_k (S_aload_n cx (k := 0) (by decide +kernel) rfl) ?_
  refine z_k (S_getf cx (T := F_Te) (N := 11) (k := 10) rfl in_Te (by decide) rfl w_33 (by decide +kernel)) ?_
  refine z_k (S_iret (hf.2.1 rfl) (by decide +kernel)) ?_
  exact z_k0
theorem s_Te_makeKey : z_snd zTab r_Te_makeKey := ⟨by decide +kernel, w_270, fun g d p l e R s m args below meth c Q P cx hn hf => z_k (s_Te_makeKey_0 cx hn hf) (z_k0)⟩
set_option maxRecDepth 100000 in
set_option maxHeartbeats 4000000 in
theorem s_Te_giveAway_0 (cx : z_cx zTab g d p l e R s m args below meth c prog_6_method_19_code "SealedTalks$Terms" 3) (hn : meth.name = "giveAway") (hf : z_fin g p l e R s m args below meth c Q prog_6_method_19_code P (some .boolean)) : ∀ x ∈ k_Te_giveAway_0, z_sn zTab g d p l e R s m args below meth c Q 3 P x := by
  unfold k_Te_giveAway_0
  refine z_k (S_iload_n cx (k := 1) (by decide +kernel) rfl) ?_
  refine z_k (S_push cx (n := 1) (by decide +kernel) (by decide)) ?_
  refine z_k (S_icmp_lt cx (off := 20) (by decide +kernel) (by decide)) ?_
  refine z_k (S_iload_n cx (k := 1) (by decide +kernel) rfl) ?_
  refine z_k (S_aload_n cx (k := 0) (by decide +kernel) rfl) ?_
  refine z_k (S_getf cx (T := F_Te) (N := 11) (k := 10) rfl in_Te (by decide) rfl w_33 (by decide +kernel)) ?_
  refine z_k (S_icmp_gt cx (off := 12) (by decide +kernel) (by decide)) ?_
  refine z_k (S_aload_n cx (k := 0) (by decide +kernel) rfl) ?_
  refine z_k (S_getf cx (T := F_Te) (N := 11) (k := 8) rfl in_Te (by decide) rfl w_31 (by decide +kernel)) ?_
  refine z_k (S_iload_n cx (k := 1) (by decide +kernel) rfl) ?_
  refine z_k (S_zald cx (by decide +kernel)) ?_
  refine z_k (S_if_eq cx (off := 5) (by decide +kernel) (by decide)) ?_
  refine z_k (S_push cx (n := 0) (by decide +kernel) (by decide)) ?_
  refine z_k (S_zret (hf.2.2.1 rfl) (by decide +kernel)) ?_
  refine z_k (S_aload_n cx (k := 0) (by decide +kernel) rfl) ?_
  refine z_k (S_getf cx (T := F_Te) (N := 11) (k := 8) rfl in_Te (by decide) rfl w_31 (by decide +kernel)) ?_
  refine z_k (S_iload_n cx (k := 1) (by decide +kernel) rfl) ?_
  refine z_k (S_push cx (n := 1) (by decide +kernel) (by decide)) ?_
  refine z_k (S_zast cx (by decide +kernel)) ?_
  refine z_k (S_push cx (n := 1) (by decide +kernel) (by decide)) ?_
  refine z_k (S_istore_n cx (by decide) (k := 2) (by decide +kernel) rfl) ?_
  refine z_k (S_iload_n cx (k := 2) (by decide +kernel) rfl) ?_
  refine z_k (S_aload_n cx (k := 0) (by decide +kernel) rfl) ?_
  refine z_k (S_getf cx (T := F_Te) (N := 11) (k := 9) rfl in_Te (by decide) rfl w_32 (by decide +kernel)) ?_
  exact z_k0
set_option maxRecDepth 100000 in
set_option maxHeartbeats 4000000 in
theorem s_Te_giveAway_1 (cx : z_cx zTab g d p l e R s m args below meth c prog_6_method_19_code "SealedTalks$Terms" 3) (hn : meth.name = "giveAway") (hf : z_fin g p l e R s m args below meth c Q prog_6_method_19_code P (some .boolean)) : ∀ x ∈ k_Te_giveAway_1, z_sn zTab g d p l e R s m args below meth c Q 3 P x := by
  unfold k_Te_giveAway_1
  refine z_k (S_icmp_gt cx (off := 20) (by decide +kernel) (by decide)) ?_
  refine z_k (S_aload_n cx (k := 0) (by decide +kernel) rfl) ?_
  refine z_k (S_getf cx (T := F_Te) (N := 11) (k := 5) rfl in_Te (by decide) rfl w_28 (by decide +kernel)) ?_
  refine z_k (S_iload_n cx (k := 2) (by decide +kernel) rfl) ?_
  refine z_k (S_aload_n cx (k := 0) (by decide +kernel) rfl) ?_
  refine z_k (S_iload_n cx (k := 2) (by decide +kernel) rfl) ?_
  refine z_k (S_callV cx (T := F_Te) (N := 11) (r := r_Te_judged) rfl ⟨w_224, w_2, by decide, by decide +kernel⟩ w_221 w_223 wp_1 rfl (by decide +kernel)) ?_
  refine z_k (S_zast cx (by decide +kernel)) ?_
  refine z_k (S_iinc cx (n := 1) (by decide) (by decide +kernel) (by decide)) ?_
  refine z_k (S_goto cx (off := -22) (by decide +kernel) (by decide)) ?_
  refine z_k (S_push cx (n := 1) (by decide +kernel) (by decide)) ?_
  refine z_k (S_zret (hf.2.2.1 rfl) (by decide +kernel)) ?_
  exact z_k0
theorem s_Te_giveAway : z_snd zTab r_Te_giveAway := ⟨by decide +kernel, w_457, fun g d p l e R s m args below meth c Q P cx hn hf => z_k (s_Te_giveAway_0 cx hn hf) (z_k (s_Te_giveAway_1 cx hn hf) (z_k0))⟩
set_option maxRecDepth 100000 in
set_option maxHeartbeats 4000000 in
theorem s_Te_newest_0 (cx : z_cx zTab g d p l e R s m args below meth c prog_6_method_20_code "SealedTalks$Terms" 1) (hn : meth.name = "newest") (hf : z_fin g p l e R s m args below meth c Q prog_6_method_20_code P (some .int)) : ∀ x ∈ k_Te_newest_0, z_sn zTab g d p l e R s m args below meth c Q 1 P x := by
  unfold k_Te_newest_0
  refine z_k (S_aload_n cx (k := 0) (by decide +kernel) rfl) ?_
  refine z_k (S_getf cx (T := F_Te) (N := 11) (k := 9) rfl in_Te (by decide) rfl w_32 (by decide +kernel)) ?_
  refine z_k (S_iret (hf.2.1 rfl) (by decide +kernel)) ?_
  exact z_k0
theorem s_Te_newest : z_snd zTab r_Te_newest := ⟨by decide +kernel, w_394, fun g d p l e R s m args below meth c Q P cx hn hf => z_k (s_Te_newest_0 cx hn hf) (z_k0)⟩
set_option maxRecDepth 100000 in
set_option maxHeartbeats 4000000 in
theorem s_Te_dropBehind_0 (cx : z_cx zTab g d p l e R s m args below meth c prog_6_method_21_code "SealedTalks$Terms" 4) (hn : meth.name = "dropBehind") (hf : z_fin g p l e R s m args below meth c Q prog_6_method_21_code P none) : ∀ x ∈ k_Te_dropBehind_0, z_sn zTab g d p l e R s m args below meth c Q 4 P x := by
  unfold k_Te_dropBehind_0
  refine z_k (S_aload_n cx (k := 0) (by decide +kernel) rfl) ?_
  refine z_k (S_getf cx (T := F_Te) (N := 11) (k := 9) rfl in_Te (by decide) rfl w_32 (by decide +kernel)) ?_
  refine z_k (S_istore_n cx (by decide) (k := 2) (by decide +kernel) rfl) ?_
  refine z_k (S_iload_n cx (k := 2) (by decide +kernel) rfl) ?_
  refine z_k (S_iload_n cx (k := 1) (by decide +kernel) rfl) ?_
  refine z_k (S_icmp_le cx (off := 62) (by decide +kernel) (by decide)) ?_
  refine z_k (S_aload_n cx (k := 0) (by decide +kernel) rfl) ?_
  refine z_k (S_getf cx (T := F_Te) (N := 11) (k := 0) rfl in_Te (by decide) rfl w_23 (by decide +kernel)) ?_
  refine z_k (S_iload_n cx (k := 2) (by decide +kernel) rfl) ?_
  refine z_k (S_iald cx (by decide +kernel)) ?_
  refine z_k (S_aload_n cx (k := 0) (by decide +kernel) rfl) ?_
  refine z_k (S_getf cx (T := F_Te) (N := 11) (k := 1) rfl in_Te (by decide) rfl w_24 (by decide +kernel)) ?_
  refine z_k (S_iload_n cx (k := 2) (by decide +kernel) rfl) ?_
  refine z_k (S_iald cx (by decide +kernel)) ?_
  refine z_k (S_aload_n cx (k := 0) (by decide +kernel) rfl) ?_
  refine z_k (S_getf cx (T := F_Te) (N := 11) (k := 2) rfl in_Te (by decide) rfl w_25 (by decide +kernel)) ?_
  refine z_k (S_iload_n cx (k := 2) (by decide +kernel) rfl) ?_
  refine z_k (S_iald cx (by decide +kernel)) ?_
  refine z_k (S_aload_n cx (k := 0) (by decide +kernel) rfl) ?_
  refine z_k (S_getf cx (T := F_Te) (N := 11) (k := 3) rfl in_Te (by decide) rfl w_26 (by decide +kernel)) ?_
  refine z_k (S_iload_n cx (k := 2) (by decide +kernel) rfl) ?_
  refine z_k (S_iald cx (by decide +kernel)) ?_
  refine z_k (S_aload_n cx (k := 0) (by decide +kernel) rfl) ?_
  refine z_k (S_getf cx (T := F_Te) (N := 11) (k := 4) rfl in_Te (by decide) rfl w_27 (by decide +kernel)) ?_
  exact z_k0
set_option maxRecDepth 100000 in
set_option maxHeartbeats 4000000 in
theorem s_Te_dropBehind_1 (cx : z_cx zTab g d p l e R s m args below meth c prog_6_method_21_code "SealedTalks$Terms" 4) (hn : meth.name = "dropBehind") (hf : z_fin g p l e R s m args below meth c Q prog_6_method_21_code P none) : ∀ x ∈ k_Te_dropBehind_1, z_sn zTab g d p l e R s m args below meth c Q 4 P x := by
  unfold k_Te_dropBehind_1
  refine z_k (S_iload_n cx (k := 2) (by decide +kernel) rfl) ?_
  refine z_k (S_iald cx (by decide +kernel)) ?_
  refine z_k (S_callS cx (r := r_Te_bucketOf) rfl ⟨w_220, w_2, by decide, by decide +kernel⟩ w_218 w_219 (by decide +kernel)) ?_
  refine z_k (S_istore_n cx (by decide) (k := 3) (by decide +kernel) rfl) ?_
  refine z_k (S_aload_n cx (k := 0) (by decide +kernel) rfl) ?_
  refine z_k (S_getf cx (T := F_Te) (N := 11) (k := 7) rfl in_Te (by decide) rfl w_30 (by decide +kernel)) ?_
  refine z_k (S_iload_n cx (k := 3) (by decide +kernel) rfl) ?_
  refine z_k (S_aload_n cx (k := 0) (by decide +kernel) rfl) ?_
  refine z_k (S_getf cx (T := F_Te) (N := 11) (k := 6) rfl in_Te (by decide) rfl w_29 (by decide +kernel)) ?_
  refine z_k (S_iload_n cx (k := 2) (by decide +kernel) rfl) ?_
  refine z_k (S_iald cx (by decide +kernel)) ?_
  refine z_k (S_iast cx (by decide +kernel)) ?_
  refine z_k (S_aload_n cx (k := 0) (by decide +kernel) rfl) ?_
  refine z_k (S_iload_n cx (k := 2) (by decide +kernel) rfl) ?_
  refine z_k (S_push cx (n := 1) (by decide +kernel) (by decide)) ?_
  refine z_k (S_isub cx (by decide +kernel)) ?_
  refine z_k (S_putf cx (T := F_Te) (N := 11) (k := 9) (ty := t_Te) rfl in_Te t_Te_ok n_Te (by decide) rfl w_32 rfl (Or.inl ⟨rfl, rfl⟩) (by decide +kernel)) ?_
  refine z_k (S_iinc cx (n := -1) (by decide) (by decide +kernel) (by decide)) ?_
  refine z_k (S_goto cx (off := -61) (by decide +kernel) (by decide)) ?_
  refine z_k (S_vret (hf.1 rfl) (by decide +kernel)) ?_
  exact z_k0
theorem s_Te_dropBehind : z_snd zTab r_Te_dropBehind := ⟨by decide +kernel, w_428, fun g d p l e R s m args below meth c Q P cx hn hf => z_k (s_Te_dropBehind_0 cx hn hf) (z_k (s_Te_dropBehind_1 cx hn hf) (z_k0))⟩
set_option maxRecDepth 100000 in
set_option maxHeartbeats 4000000 in
theorem s_Te_make_0 (cx : z_cx zTab g d p l e R s m args below meth c prog_6_method_22_code "SealedTalks$Terms" 9) (hn : meth.name = "make") (hf : z_fin g p l e R s m args below meth c Q prog_6_method_22_code P (some .int)) : ∀ x ∈ k_Te_make_0, z_sn zTab g d p l e R s m args below meth c Q 9 P x := by
  unfold k_Te_make_0
  refine z_k (S_iload_n cx (k := 1) (by decide +kernel) rfl) ?_
  refine z_k (S_iload_n cx (k := 2) (by decide +kernel) rfl) ?_
  refine z_k (S_iload_n cx (k := 3) (by decide +kernel) rfl) ?_
  refine z_k (S_iload cx (by decide +kernel)) ?_
  refine z_k (S_iload cx (by decide +kernel)) ?_
  refine z_k (S_callS cx (r := r_Te_bucketOf) rfl ⟨w_220, w_2, by decide, by decide +kernel⟩ w_218 w_219 (by decide +kernel)) ?_
  refine z_k (S_istore cx (by decide) (by decide +kernel)) ?_
  refine z_k (S_aload_n cx (k := 0) (by decide +kernel) rfl) ?_
  refine z_k (S_getf cx (T := F_Te) (N := 11) (k := 7) rfl in_Te (by decide) rfl w_30 (by decide +kernel)) ?_
  refine z_k (S_iload cx (by decide +kernel)) ?_
  refine z_k (S_iald cx (by decide +kernel)) ?_
  refine z_k (S_istore cx (by decide) (by decide +kernel)) ?_
  refine z_k (S_push cx (n := 0) (by decide +kernel) (by decide)) ?_
  refine z_k (S_istore cx (by decide) (by decide +kernel)) ?_
  refine z_k (S_iload cx (by decide +kernel)) ?_
  refine z_k (S_sipush cx (n := 720) (by decide +kernel) (by decide)) ?_
  refine z_k (S_icmp_ge cx (off := 83) (by decide +kernel) (by decide)) ?_
  refine z_k (S_iload cx (by decide +kernel)) ?_
  refine z_k (S_if_eq cx (off := 78) (by decide +kernel) (by decide)) ?_
  refine z_k (S_aload_n cx (k := 0) (by decide +kernel) rfl) ?_
  refine z_k (S_getf cx (T := F_Te) (N := 11) (k := 0) rfl in_Te (by decide) rfl w_23 (by decide +kernel)) ?_
  refine z_k (S_iload cx (by decide +kernel)) ?_
  refine z_k (S_iald cx (by decide +kernel)) ?_
  refine z_k (S_iload_n cx (k := 1) (by decide +kernel) rfl) ?_
  exact z_k0
set_option maxRecDepth 100000 in
set_option maxHeartbeats 4000000 in
theorem s_Te_make_1 (cx : z_cx zTab g d p l e R s m args below meth c prog_6_method_22_code "SealedTalks$Terms" 9) (hn : meth.name = "make") (hf : z_fin g p l e R s m args below meth c Q prog_6_method_22_code P (some .int)) : ∀ x ∈ k_Te_make_1, z_sn zTab g d p l e R s m args below meth c Q 9 P x := by
  unfold k_Te_make_1
  refine z_k (S_icmp_ne cx (off := 52) (by decide +kernel) (by decide)) ?_
  refine z_k (S_aload_n cx (k := 0) (by decide +kernel) rfl) ?_
  refine z_k (S_getf cx (T := F_Te) (N := 11) (k := 1) rfl in_Te (by decide) rfl w_24 (by decide +kernel)) ?_
  refine z_k (S_iload cx (by decide +kernel)) ?_
  refine z_k (S_iald cx (by decide +kernel)) ?_
  refine z_k (S_iload_n cx (k := 2) (by decide +kernel) rfl) ?_
  refine z_k (S_icmp_ne cx (off := 41) (by decide +kernel) (by decide)) ?_
  refine z_k (S_aload_n cx (k := 0) (by decide +kernel) rfl) ?_
  refine z_k (S_getf cx (T := F_Te) (N := 11) (k := 2) rfl in_Te (by decide) rfl w_25 (by decide +kernel)) ?_
  refine z_k (S_iload cx (by decide +kernel)) ?_
  refine z_k (S_iald cx (by decide +kernel)) ?_
  refine z_k (S_iload_n cx (k := 3) (by decide +kernel) rfl) ?_
  refine z_k (S_icmp_ne cx (off := 30) (by decide +kernel) (by decide)) ?_
  refine z_k (S_aload_n cx (k := 0) (by decide +kernel) rfl) ?_
  refine z_k (S_getf cx (T := F_Te) (N := 11) (k := 3) rfl in_Te (by decide) rfl w_26 (by decide +kernel)) ?_
  refine z_k (S_iload cx (by decide +kernel)) ?_
  refine z_k (S_iald cx (by decide +kernel)) ?_
  refine z_k (S_iload cx (by decide +kernel)) ?_
  refine z_k (S_icmp_ne cx (off := 18) (by decide +kernel) (by decide)) ?_
  refine z_k (S_aload_n cx (k := 0) (by decide +kernel) rfl) ?_
  refine z_k (S_getf cx (T := F_Te) (N := 11) (k := 4) rfl in_Te (by decide) rfl w_27 (by decide +kernel)) ?_
  refine z_k (S_iload cx (by decide +kernel)) ?_
  refine z_k (S_iald cx (by decide +kernel)) ?_
  refine z_k (S_iload cx (by decide +kernel)) ?_
  exact z_k0
set_option maxRecDepth 100000 in
set_option maxHeartbeats 4000000 in
theorem s_Te_make_2 (cx : z_cx zTab g d p l e R s m args below meth c prog_6_method_22_code "SealedTalks$Terms" 9) (hn : meth.name = "make") (hf : z_fin g p l e R s m args below meth c Q prog_6_method_22_code P (some .int)) : ∀ x ∈ k_Te_make_2, z_sn zTab g d p l e R s m args below meth c Q 9 P x := by
  unfold k_Te_make_2
  refine z_k (S_icmp_ne cx (off := 6) (by decide +kernel) (by decide)) ?_
  refine z_k (S_iload cx (by decide +kernel)) ?_
  refine z_k (S_iret (hf.2.1 rfl) (by decide +kernel)) ?_
  refine z_k (S_aload_n cx (k := 0) (by decide +kernel) rfl) ?_
  refine z_k (S_getf cx (T := F_Te) (N := 11) (k := 6) rfl in_Te (by decide) rfl w_29 (by decide +kernel)) ?_
  refine z_k (S_iload cx (by decide +kernel)) ?_
  refine z_k (S_iald cx (by decide +kernel)) ?_
  refine z_k (S_istore cx (by decide) (by decide +kernel)) ?_
  refine z_k (S_iinc cx (n := 1) (by decide) (by decide +kernel) (by decide)) ?_
  refine z_k (S_goto cx (off := -85) (by decide +kernel) (by decide)) ?_
  refine z_k (S_aload_n cx (k := 0) (by decide +kernel) rfl) ?_
  refine z_k (S_getf cx (T := F_Te) (N := 11) (k := 9) rfl in_Te (by decide) rfl w_32 (by decide +kernel)) ?_
  refine z_k (S_push cx (n := 1) (by decide +kernel) (by decide)) ?_
  refine z_k (S_iadd cx (by decide +kernel)) ?_
  refine z_k (S_sipush cx (n := 720) (by decide +kernel) (by decide)) ?_
  refine z_k (S_icmp_lt cx (off := 5) (by decide +kernel) (by decide)) ?_
  refine z_k (S_push cx (n := 0) (by decide +kernel) (by decide)) ?_
  refine z_k (S_iret (hf.2.1 rfl) (by decide +kernel)) ?_
  refine z_k (S_aload_n cx (k := 0) (by decide +kernel) rfl) ?_
  refine z_k (S_dup cx (by decide +kernel)) ?_
  refine z_k (S_getf cx (T := F_Te) (N := 11) (k := 9) rfl in_Te (by decide) rfl w_32 (by decide +kernel)) ?_
  refine z_k (S_push cx (n := 1) (by decide +kernel) (by decide)) ?_
  refine z_k (S_iadd cx (by decide +kernel)) ?_
  refine z_k (S_putf cx (T := F_Te) (N := 11) (k := 9) (ty := t_Te) rfl in_Te t_Te_ok n_Te (by decide) rfl w_32 rfl (Or.inl ⟨rfl, rfl⟩) (by decide +kernel)) ?_
  exact z_k0
set_option maxRecDepth 100000 in
set_option maxHeartbeats 4000000 in
theorem s_Te_make_3 (cx : z_cx zTab g d p l e R s m args below meth c prog_6_method_22_code "SealedTalks$Terms" 9) (hn : meth.name = "make") (hf : z_fin g p l e R s m args below meth c Q prog_6_method_22_code P (some .int)) : ∀ x ∈ k_Te_make_3, z_sn zTab g d p l e R s m args below meth c Q 9 P x := by
  unfold k_Te_make_3
  refine z_k (S_aload_n cx (k := 0) (by decide +kernel) rfl) ?_
  refine z_k (S_getf cx (T := F_Te) (N := 11) (k := 0) rfl in_Te (by decide) rfl w_23 (by decide +kernel)) ?_
  refine z_k (S_aload_n cx (k := 0) (by decide +kernel) rfl) ?_
  refine z_k (S_getf cx (T := F_Te) (N := 11) (k := 9) rfl in_Te (by decide) rfl w_32 (by decide +kernel)) ?_
  refine z_k (S_iload_n cx (k := 1) (by decide +kernel) rfl) ?_
  refine z_k (S_iast cx (by decide +kernel)) ?_
  refine z_k (S_aload_n cx (k := 0) (by decide +kernel) rfl) ?_
  refine z_k (S_getf cx (T := F_Te) (N := 11) (k := 1) rfl in_Te (by decide) rfl w_24 (by decide +kernel)) ?_
  refine z_k (S_aload_n cx (k := 0) (by decide +kernel) rfl) ?_
  refine z_k (S_getf cx (T := F_Te) (N := 11) (k := 9) rfl in_Te (by decide) rfl w_32 (by decide +kernel)) ?_
  refine z_k (S_iload_n cx (k := 2) (by decide +kernel) rfl) ?_
  refine z_k (S_iast cx (by decide +kernel)) ?_
  refine z_k (S_aload_n cx (k := 0) (by decide +kernel) rfl) ?_
  refine z_k (S_getf cx (T := F_Te) (N := 11) (k := 2) rfl in_Te (by decide) rfl w_25 (by decide +kernel)) ?_
  refine z_k (S_aload_n cx (k := 0) (by decide +kernel) rfl) ?_
  refine z_k (S_getf cx (T := F_Te) (N := 11) (k := 9) rfl in_Te (by decide) rfl w_32 (by decide +kernel)) ?_
  refine z_k (S_iload_n cx (k := 3) (by decide +kernel) rfl) ?_
  refine z_k (S_iast cx (by decide +kernel)) ?_
  refine z_k (S_aload_n cx (k := 0) (by decide +kernel) rfl) ?_
  refine z_k (S_getf cx (T := F_Te) (N := 11) (k := 3) rfl in_Te (by decide) rfl w_26 (by decide +kernel)) ?_
  refine z_k (S_aload_n cx (k := 0) (by decide +kernel) rfl) ?_
  refine z_k (S_getf cx (T := F_Te) (N := 11) (k := 9) rfl in_Te (by decide) rfl w_32 (by decide +kernel)) ?_
  refine z_k (S_iload cx (by decide +kernel)) ?_
  refine z_k (S_iast cx (by decide +kernel)) ?_
  exact z_k0
set_option maxRecDepth 100000 in
set_option maxHeartbeats 4000000 in
theorem s_Te_make_4 (cx : z_cx zTab g d p l e R s m args below meth c prog_6_method_22_code "SealedTalks$Terms" 9) (hn : meth.name = "make") (hf : z_fin g p l e R s m args below meth c Q prog_6_method_22_code P (some .int)) : ∀ x ∈ k_Te_make_4, z_sn zTab g d p l e R s m args below meth c Q 9 P x := by
  unfold k_Te_make_4
  refine z_k (S_aload_n cx (k := 0) (by decide +kernel) rfl) ?_
  refine z_k (S_getf cx (T := F_Te) (N := 11) (k := 4) rfl in_Te (by decide) rfl w_27 (by decide +kernel)) ?_
  refine z_k (S_aload_n cx (k := 0) (by decide +kernel) rfl) ?_
  refine z_k (S_getf cx (T := F_Te) (N := 11) (k := 9) rfl in_Te (by decide) rfl w_32 (by decide +kernel)) ?_
  refine z_k (S_iload cx (by decide +kernel)) ?_
  refine z_k (S_iast cx (by decide +kernel)) ?_
  refine z_k (S_aload_n cx (k := 0) (by decide +kernel) rfl) ?_
  refine z_k (S_getf cx (T := F_Te) (N := 11) (k := 5) rfl in_Te (by decide) rfl w_28 (by decide +kernel)) ?_
  refine z_k (S_aload_n cx (k := 0) (by decide +kernel) rfl) ?_
  refine z_k (S_getf cx (T := F_Te) (N := 11) (k := 9) rfl in_Te (by decide) rfl w_32 (by decide +kernel)) ?_
  refine z_k (S_aload_n cx (k := 0) (by decide +kernel) rfl) ?_
  refine z_k (S_aload_n cx (k := 0) (by decide +kernel) rfl) ?_
  refine z_k (S_getf cx (T := F_Te) (N := 11) (k := 9) rfl in_Te (by decide) rfl w_32 (by decide +kernel)) ?_
  refine z_k (S_callV cx (T := F_Te) (N := 11) (r := r_Te_judged) rfl ⟨w_224, w_2, by decide, by decide +kernel⟩ w_221 w_223 wp_1 rfl (by decide +kernel)) ?_
  refine z_k (S_zast cx (by decide +kernel)) ?_
  refine z_k (S_aload_n cx (k := 0) (by decide +kernel) rfl) ?_
  refine z_k (S_getf cx (T := F_Te) (N := 11) (k := 6) rfl in_Te (by decide) rfl w_29 (by decide +kernel)) ?_
  refine z_k (S_aload_n cx (k := 0) (by decide +kernel) rfl) ?_
  refine z_k (S_getf cx (T := F_Te) (N := 11) (k := 9) rfl in_Te (by decide) rfl w_32 (by decide +kernel)) ?_
  refine z_k (S_aload_n cx (k := 0) (by decide +kernel) rfl) ?_
  refine z_k (S_getf cx (T := F_Te) (N := 11) (k := 7) rfl in_Te (by decide) rfl w_30 (by decide +kernel)) ?_
  refine z_k (S_iload cx (by decide +kernel)) ?_
  refine z_k (S_iald cx (by decide +kernel)) ?_
  refine z_k (S_iast cx (by decide +kernel)) ?_
  exact z_k0
set_option maxRecDepth 100000 in
set_option maxHeartbeats 4000000 in
theorem s_Te_make_5 (cx : z_cx zTab g d p l e R s m args below meth c prog_6_method_22_code "SealedTalks$Terms" 9) (hn : meth.name = "make") (hf : z_fin g p l e R s m args below meth c Q prog_6_method_22_code P (some .int)) : ∀ x ∈ k_Te_make_5, z_sn zTab g d p l e R s m args below meth c Q 9 P x := by
  unfold k_Te_make_5
  refine z_k (S_aload_n cx (k := 0) (by decide +kernel) rfl) ?_
  refine z_k (S_getf cx (T := F_Te) (N := 11) (k := 7) rfl in_Te (by decide) rfl w_30 (by decide +kernel)) ?_
  refine z_k (S_iload cx (by decide +kernel)) ?_
  refine z_k (S_aload_n cx (k := 0) (by decide +kernel) rfl) ?_
  refine z_k (S_getf cx (T := F_Te) (N := 11) (k := 9) rfl in_Te (by decide) rfl w_32 (by decide +kernel)) ?_
  refine z_k (S_iast cx (by decide +kernel)) ?_
  refine z_k (S_aload_n cx (k := 0) (by decide +kernel) rfl) ?_
  refine z_k (S_getf cx (T := F_Te) (N := 11) (k := 9) rfl in_Te (by decide) rfl w_32 (by decide +kernel)) ?_
  refine z_k (S_iret (hf.2.1 rfl) (by decide +kernel)) ?_
  exact z_k0
theorem s_Te_make : z_snd zTab r_Te_make := ⟨by decide +kernel, w_217, fun g d p l e R s m args below meth c Q P cx hn hf => z_k (s_Te_make_0 cx hn hf) (z_k (s_Te_make_1 cx hn hf) (z_k (s_Te_make_2 cx hn hf) (z_k (s_Te_make_3 cx hn hf) (z_k (s_Te_make_4 cx hn hf) (z_k (s_Te_make_5 cx hn hf) (z_k0))))))⟩
set_option maxRecDepth 100000 in
set_option maxHeartbeats 4000000 in
theorem s_Te_judged_0 (cx : z_cx zTab g d p l e R s m args below meth c prog_6_method_23_code "SealedTalks$Terms" 2) (hn : meth.name = "judged") (hf : z_fin g p l e R s m args below meth c Q prog_6_method_23_code P (some .boolean)) : ∀ x ∈ k_Te_judged_0, z_sn zTab g d p l e R s m args below meth c Q 2 P x := by
  unfold k_Te_judged_0
  refine z_k (S_aload_n cx (k := 0) (by decide +kernel) rfl) ?_
  refine z_k (S_getf cx (T := F_Te) (N := 11) (k := 0) rfl in_Te (by decide) rfl w_23 (by decide +kernel)) ?_
  refine z_k (S_iload_n cx (k := 1) (by decide +kernel) rfl) ?_
  refine z_k (S_iald cx (by decide +kernel)) ?_
  refine z_k (S_tsw cx (df := 114) (lo := 3) (hi0 := 7) (offs := #[34, 68, 68, 68, 102]) (len := 34) (by decide +kernel) (by decide) (by decide) (by decide)) ?_
  refine z_k (S_aload_n cx (k := 0) (by decide +kernel) rfl) ?_
  refine z_k (S_getf cx (T := F_Te) (N := 11) (k := 8) rfl in_Te (by decide) rfl w_31 (by decide +kernel)) ?_
  refine z_k (S_aload_n cx (k := 0) (by decide +kernel) rfl) ?_
  refine z_k (S_getf cx (T := F_Te) (N := 11) (k := 1) rfl in_Te (by decide) rfl w_24 (by decide +kernel)) ?_
  refine z_k (S_iload_n cx (k := 1) (by decide +kernel) rfl) ?_
  refine z_k (S_iald cx (by decide +kernel)) ?_
  refine z_k (S_zald cx (by decide +kernel)) ?_
  refine z_k (S_if_ne cx (off := 17) (by decide +kernel) (by decide)) ?_
  refine z_k (S_aload_n cx (k := 0) (by decide +kernel) rfl) ?_
  refine z_k (S_getf cx (T := F_Te) (N := 11) (k := 8) rfl in_Te (by decide) rfl w_31 (by decide +kernel)) ?_
  refine z_k (S_aload_n cx (k := 0) (by decide +kernel) rfl) ?_
  refine z_k (S_getf cx (T := F_Te) (N := 11) (k := 2) rfl in_Te (by decide) rfl w_25 (by decide +kernel)) ?_
  refine z_k (S_iload_n cx (k := 1) (by decide +kernel) rfl) ?_
  refine z_k (S_iald cx (by decide +kernel)) ?_
  refine z_k (S_zald cx (by decide +kernel)) ?_
  refine z_k (S_if_eq cx (off := 7) (by decide +kernel) (by decide)) ?_
  refine z_k (S_push cx (n := 1) (by decide +kernel) (by decide)) ?_
  refine z_k (S_goto cx (off := 4) (by decide +kernel) (by decide)) ?_
  refine z_k (S_push cx (n := 0) (by decide +kernel) (by decide)) ?_
  exact z_k0
set_option maxRecDepth 100000 in
set_option maxHeartbeats 4000000 in
theorem s_Te_judged_1 (cx : z_cx zTab g d p l e R s m args below meth c prog_6_method_23_code "SealedTalks$Terms" 2) (hn : meth.name = "judged") (hf : z_fin g p l e R s m args below meth c Q prog_6_method_23_code P (some .boolean)) : ∀ x ∈ k_Te_judged_1, z_sn zTab g d p l e R s m args below meth c Q 2 P x := by
  unfold k_Te_judged_1
  refine z_k (S_zret (hf.2.2.1 rfl) (by decide +kernel)) ?_
  refine z_k (S_aload_n cx (k := 0) (by decide +kernel) rfl) ?_
  refine z_k (S_getf cx (T := F_Te) (N := 11) (k := 5) rfl in_Te (by decide) rfl w_28 (by decide +kernel)) ?_
  refine z_k (S_aload_n cx (k := 0) (by decide +kernel) rfl) ?_
  refine z_k (S_getf cx (T := F_Te) (N := 11) (k := 1) rfl in_Te (by decide) rfl w_24 (by decide +kernel)) ?_
  refine z_k (S_iload_n cx (k := 1) (by decide +kernel) rfl) ?_
  refine z_k (S_iald cx (by decide +kernel)) ?_
  refine z_k (S_zald cx (by decide +kernel)) ?_
  refine z_k (S_if_eq cx (off := 21) (by decide +kernel) (by decide)) ?_
  refine z_k (S_aload_n cx (k := 0) (by decide +kernel) rfl) ?_
  refine z_k (S_getf cx (T := F_Te) (N := 11) (k := 5) rfl in_Te (by decide) rfl w_28 (by decide +kernel)) ?_
  refine z_k (S_aload_n cx (k := 0) (by decide +kernel) rfl) ?_
  refine z_k (S_getf cx (T := F_Te) (N := 11) (k := 2) rfl in_Te (by decide) rfl w_25 (by decide +kernel)) ?_
  refine z_k (S_iload_n cx (k := 1) (by decide +kernel) rfl) ?_
  refine z_k (S_iald cx (by decide +kernel)) ?_
  refine z_k (S_zald cx (by decide +kernel)) ?_
  refine z_k (S_if_eq cx (off := 7) (by decide +kernel) (by decide)) ?_
  refine z_k (S_push cx (n := 1) (by decide +kernel) (by decide)) ?_
  refine z_k (S_goto cx (off := 4) (by decide +kernel) (by decide)) ?_
  refine z_k (S_push cx (n := 0) (by decide +kernel) (by decide)) ?_
  refine z_k (S_zret (hf.2.2.1 rfl) (by decide +kernel)) ?_
  refine z_k (S_aload_n cx (k := 0) (by decide +kernel) rfl) ?_
  refine z_k (S_getf cx (T := F_Te) (N := 11) (k := 5) rfl in_Te (by decide) rfl w_28 (by decide +kernel)) ?_
  refine z_k (S_aload_n cx (k := 0) (by decide +kernel) rfl) ?_
  exact z_k0
set_option maxRecDepth 100000 in
set_option maxHeartbeats 4000000 in
theorem s_Te_judged_2 (cx : z_cx zTab g d p l e R s m args below meth c prog_6_method_23_code "SealedTalks$Terms" 2) (hn : meth.name = "judged") (hf : z_fin g p l e R s m args below meth c Q prog_6_method_23_code P (some .boolean)) : ∀ x ∈ k_Te_judged_2, z_sn zTab g d p l e R s m args below meth c Q 2 P x := by
  unfold k_Te_judged_2
  refine z_k (S_getf cx (T := F_Te) (N := 11) (k := 1) rfl in_Te (by decide) rfl w_24 (by decide +kernel)) ?_
  refine z_k (S_iload_n cx (k := 1) (by decide +kernel) rfl) ?_
  refine z_k (S_iald cx (by decide +kernel)) ?_
  refine z_k (S_zald cx (by decide +kernel)) ?_
  refine z_k (S_zret (hf.2.2.1 rfl) (by decide +kernel)) ?_
  refine z_k (S_push cx (n := 1) (by decide +kernel) (by decide)) ?_
  refine z_k (S_zret (hf.2.2.1 rfl) (by decide +kernel)) ?_
  exact z_k0
theorem s_Te_judged : z_snd zTab r_Te_judged := ⟨by decide +kernel, w_224, fun g d p l e R s m args below meth c Q P cx hn hf => z_k (s_Te_judged_0 cx hn hf) (z_k (s_Te_judged_1 cx hn hf) (z_k (s_Te_judged_2 cx hn hf) (z_k0)))⟩
set_option maxRecDepth 100000 in
set_option maxHeartbeats 4000000 in
theorem s_Te_bucketOf_0 (cx : z_cx zTab g d p l e R s m args below meth c prog_6_method_24_code "SealedTalks$Terms" 6) (hn : meth.name = "bucketOf") (hf : z_fin g p l e R s m args below meth c Q prog_6_method_24_code P (some .int)) : ∀ x ∈ k_Te_bucketOf_0, z_sn zTab g d p l e R s m args below meth c Q 6 P x := by
  unfold k_Te_bucketOf_0
  refine z_k (S_iload_n cx (k := 0) (by decide +kernel) rfl) ?_
  refine z_k (S_bipush cx (n := 31) (by decide +kernel) (by decide)) ?_
  refine z_k (S_imul cx (by decide +kernel)) ?_
  refine z_k (S_iload_n cx (k := 1) (by decide +kernel) rfl) ?_
  refine z_k (S_iadd cx (by decide +kernel)) ?_
  refine z_k (S_bipush cx (n := 31) (by decide +kernel) (by decide)) ?_
  refine z_k (S_imul cx (by decide +kernel)) ?_
  refine z_k (S_iload_n cx (k := 2) (by decide +kernel) rfl) ?_
  refine z_k (S_iadd cx (by decide +kernel)) ?_
  refine z_k (S_bipush cx (n := 31) (by decide +kernel) (by decide)) ?_
  refine z_k (S_imul cx (by decide +kernel)) ?_
  refine z_k (S_iload_n cx (k := 3) (by decide +kernel) rfl) ?_
  refine z_k (S_iadd cx (by decide +kernel)) ?_
  refine z_k (S_bipush cx (n := 31) (by decide +kernel) (by decide)) ?_
  refine z_k (S_imul cx (by decide +kernel)) ?_
  refine z_k (S_iload cx (by decide +kernel)) ?_
  refine z_k (S_iadd cx (by decide +kernel)) ?_
  refine z_k (S_istore cx (by decide) (by decide +kernel)) ?_
  refine z_k (S_iload cx (by decide +kernel)) ?_
  refine z_k (S_iload cx (by decide +kernel)) ?_
  refine z_k (S_bipush cx (n := 7) (by decide +kernel) (by decide)) ?_
  refine z_k (S_iushr cx (by decide +kernel)) ?_
  refine z_k (S_ixor cx (by decide +kernel)) ?_
  refine z_k (S_iload cx (by decide +kernel)) ?_
  exact z_k0
set_option maxRecDepth 100000 in
set_option maxHeartbeats 4000000 in
theorem s_Te_bucketOf_1 (cx : z_cx zTab g d p l e R s m args below meth c prog_6_method_24_code "SealedTalks$Terms" 6) (hn : meth.name = "bucketOf") (hf : z_fin g p l e R s m args below meth c Q prog_6_method_24_code P (some .int)) : ∀ x ∈ k_Te_bucketOf_1, z_sn zTab g d p l e R s m args below meth c Q 6 P x := by
  unfold k_Te_bucketOf_1
  refine z_k (S_bipush cx (n := 14) (by decide +kernel) (by decide)) ?_
  refine z_k (S_iushr cx (by decide +kernel)) ?_
  refine z_k (S_ixor cx (by decide +kernel)) ?_
  refine z_k (S_bipush cx (n := 127) (by decide +kernel) (by decide)) ?_
  refine z_k (S_iand cx (by decide +kernel)) ?_
  refine z_k (S_iret (hf.2.1 rfl) (by decide +kernel)) ?_
  exact z_k0
theorem s_Te_bucketOf : z_snd zTab r_Te_bucketOf := ⟨by decide +kernel, w_220, fun g d p l e R s m args below meth c Q P cx hn hf => z_k (s_Te_bucketOf_0 cx hn hf) (z_k (s_Te_bucketOf_1 cx hn hf) (z_k0))⟩
end ZR20
