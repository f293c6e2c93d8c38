/-! Each method of SealedTalks$Agreement is sound (0). By program. -/
section ZR00
variable {g : zG} {d : Nat} {p : Program} {l : Launch} {e : Env} {R : Room} {s : State} {m : MethodId} {args : Array Value} {below : List Frame} {meth : Method} {c : Code} {Q : State → Prop} {P : zP}
set_option maxRecDepth 100000 in
set_option maxHeartbeats 4000000 in
theorem s_Ag_init_0 (cx : z_cx zTab g d p l e R s m args below meth c prog_2_method_1_code "SealedTalks$Agreement" 2) (hn : meth.name = "<init>") (hf : z_fin g p l e R s m args below meth c Q prog_2_method_1_code P none) : ∀ x ∈ k_Ag_init_0, z_sn zTab g d p l e R s m args below meth c Q 2 P x := by
  unfold k_Ag_init_0
  refine z_k (S_aload_n cx (k := 0) (by decide +kernel) rfl) ?_
  refine z_k (S_oini cx w_134 w_15 w_16 (by decide +kernel)) ?_
  refine z_k (S_aload_n cx (k := 0) (by decide +kernel) rfl) ?_
  refine z_k (S_push cx (n := 0) (by decide +kernel) (by decide)) ?_
  refine z_k (S_putf cx (T := F_Ag) (N := 12) (k := 1) (ty := t_Ag) rfl in_Ag t_Ag_ok n_Ag (by decide) rfl w_136 rfl (Or.inl ⟨rfl, rfl⟩) (by decide +kernel)) ?_
  refine z_k (S_aload_n cx (k := 0) (by decide +kernel) rfl) ?_
  refine z_k (S_push cx (n := 0) (by decide +kernel) (by decide)) ?_
  refine z_k (S_putf cx (T := F_Ag) (N := 12) (k := 2) (ty := t_Ag) rfl in_Ag t_Ag_ok n_Ag (by decide) rfl w_137 rfl (Or.inr (Or.inl ⟨rfl, rfl⟩)) (by decide +kernel)) ?_
  refine z_k (S_aload_n cx (k := 0) (by decide +kernel) rfl) ?_
  refine z_k (S_push cx (n := 0) (by decide +kernel) (by decide)) ?_
  refine z_k (S_putf cx (T := F_Ag) (N := 12) (k := 3) (ty := t_Ag) rfl in_Ag t_Ag_ok n_Ag (by decide) rfl w_139 rfl (Or.inl ⟨rfl, rfl⟩) (by decide +kernel)) ?_
  refine z_k (S_aload_n cx (k := 0) (by decide +kernel) rfl) ?_
  refine z_k (S_push cx (n := 0) (by decide +kernel) (by decide)) ?_
  refine z_k (S_putf cx (T := F_Ag) (N := 12) (k := 4) (ty := t_Ag) rfl in_Ag t_Ag_ok n_Ag (by decide) rfl w_140 rfl (Or.inl ⟨rfl, rfl⟩) (by decide +kernel)) ?_
  refine z_k (S_aload_n cx (k := 0) (by decide +kernel) rfl) ?_
  refine z_k (S_push cx (n := 0) (by decide +kernel) (by decide)) ?_
  refine z_k (S_putf cx (T := F_Ag) (N := 12) (k := 5) (ty := t_Ag) rfl in_Ag t_Ag_ok n_Ag (by decide) rfl w_141 rfl (Or.inl ⟨rfl, rfl⟩) (by decide +kernel)) ?_
  refine z_k (S_aload_n cx (k := 0) (by decide +kernel) rfl) ?_
  refine z_k (S_push cx (n := 0) (by decide +kernel) (by decide)) ?_
  refine z_k (S_putf cx (T := F_Ag) (N := 12) (k := 6) (ty := t_Ag) rfl in_Ag t_Ag_ok n_Ag (by decide) rfl w_143 rfl (Or.inl ⟨rfl, rfl⟩) (by decide +kernel)) ?_
  refine z_k (S_aload_n cx (k := 0) (by decide +kernel) rfl) ?_
  refine z_k (S_push cx (n := 0) (by decide +kernel) (by decide)) ?_
  refine z_k (S_putf cx (T := F_Ag) (N := 12) (k := 7) (ty := t_Ag) rfl in_Ag t_Ag_ok n_Ag (by decide) rfl w_144 rfl (Or.inl ⟨rfl, rfl⟩) (by decide +kernel)) ?_
  refine z_k (S_aload_n cx (k := 0) (by decide +kernel) rfl) ?_
  exact z_k0
set_option maxRecDepth 100000 in
set_option maxHeartbeats 4000000 in
theorem s_Ag_init_1 (cx : z_cx zTab g d p l e R s m args below meth c prog_2_method_1_code "SealedTalks$Agreement" 2) (hn : meth.name = "<init>") (hf : z_fin g p l e R s m args below meth c Q prog_2_method_1_code P none) : ∀ x ∈ k_Ag_init_1, z_sn zTab g d p l e R s m args below meth c Q 2 P x := by
  unfold k_Ag_init_1
  refine z_k (S_push cx (n := 0) (by decide +kernel) (by decide)) ?_
  refine z_k (S_putf cx (T := F_Ag) (N := 12) (k := 8) (ty := t_Ag) rfl in_Ag t_Ag_ok n_Ag (by decide) rfl w_145 rfl (Or.inl ⟨rfl, rfl⟩) (by decide +kernel)) ?_
  refine z_k (S_aload_n cx (k := 0) (by decide +kernel) rfl) ?_
  refine z_k (S_push cx (n := 0) (by decide +kernel) (by decide)) ?_
  refine z_k (S_putf cx (T := F_Ag) (N := 12) (k := 9) (ty := t_Ag) rfl in_Ag t_Ag_ok n_Ag (by decide) rfl w_147 rfl (Or.inl ⟨rfl, rfl⟩) (by decide +kernel)) ?_
  refine z_k (S_aload_n cx (k := 0) (by decide +kernel) rfl) ?_
  refine z_k (S_push cx (n := 0) (by decide +kernel) (by decide)) ?_
  refine z_k (S_putf cx (T := F_Ag) (N := 12) (k := 10) (ty := t_Ag) rfl in_Ag t_Ag_ok n_Ag (by decide) rfl w_148 rfl (Or.inl ⟨rfl, rfl⟩) (by decide +kernel)) ?_
  refine z_k (S_aload_n cx (k := 0) (by decide +kernel) rfl) ?_
  refine z_k (S_push cx (n := 0) (by decide +kernel) (by decide)) ?_
  refine z_k (S_putf cx (T := F_Ag) (N := 12) (k := 11) (ty := t_Ag) rfl in_Ag t_Ag_ok n_Ag (by decide) rfl w_149 rfl (Or.inl ⟨rfl, rfl⟩) (by decide +kernel)) ?_
  refine z_k (S_aload_n cx (k := 0) (by decide +kernel) rfl) ?_
  refine z_k (S_aload_n cx (k := 1) (by decide +kernel) rfl) ?_
  refine z_k (S_putF cx (T := F_Ag) (N := 12) (k := 0) (ty := t_Ag) rfl in_Ag t_Ag_ok n_Ag (by decide) rfl w_135 rfl hn rfl (Or.inr (Or.inr ⟨rfl, Or.inl ⟨_, rfl⟩⟩)) (by decide +kernel)) ?_
  refine z_k (S_vret (hf.1 rfl) (by decide +kernel)) ?_
  exact z_k0
theorem s_Ag_init : z_snd zTab r_Ag_init := ⟨by decide +kernel, w_133, fun g d p l e R s m args below meth c Q P cx hn hf => z_k (s_Ag_init_0 cx hn hf) (z_k (s_Ag_init_1 cx hn hf) (z_k0))⟩
set_option maxRecDepth 100000 in
set_option maxHeartbeats 4000000 in
theorem s_Ag_begin_0 (cx : z_cx zTab g d p l e R s m args below meth c prog_2_method_2_code "SealedTalks$Agreement" 6) (hn : meth.name = "begin") (hf : z_fin g p l e R s m args below meth c Q prog_2_method_2_code P none) : ∀ x ∈ k_Ag_begin_0, z_sn zTab g d p l e R s m args below meth c Q 6 P x := by
  unfold k_Ag_begin_0
  refine z_k (S_aload_n cx (k := 0) (by decide +kernel) rfl) ?_
  refine z_k (S_iload_n cx (k := 1) (by decide +kernel) rfl) ?_
  refine z_k (S_putf cx (T := F_Ag) (N := 12) (k := 1) (ty := t_Ag) rfl in_Ag t_Ag_ok n_Ag (by decide) rfl w_136 rfl (Or.inl ⟨rfl, rfl⟩) (by decide +kernel)) ?_
  refine z_k (S_aload_n cx (k := 0) (by decide +kernel) rfl) ?_
  refine z_k (S_iload_n cx (k := 2) (by decide +kernel) rfl) ?_
  refine z_k (S_putf cx (T := F_Ag) (N := 12) (k := 2) (ty := t_Ag) rfl in_Ag t_Ag_ok n_Ag (by decide) rfl w_137 rfl (Or.inr (Or.inl ⟨rfl, rfl⟩)) (by decide +kernel)) ?_
  refine z_k (S_aload_n cx (k := 0) (by decide +kernel) rfl) ?_
  refine z_k (S_iload_n cx (k := 3) (by decide +kernel) rfl) ?_
  refine z_k (S_putf cx (T := F_Ag) (N := 12) (k := 3) (ty := t_Ag) rfl in_Ag t_Ag_ok n_Ag (by decide) rfl w_139 rfl (Or.inl ⟨rfl, rfl⟩) (by decide +kernel)) ?_
  refine z_k (S_aload_n cx (k := 0) (by decide +kernel) rfl) ?_
  refine z_k (S_iload cx (by decide +kernel)) ?_
  refine z_k (S_putf cx (T := F_Ag) (N := 12) (k := 5) (ty := t_Ag) rfl in_Ag t_Ag_ok n_Ag (by decide) rfl w_141 rfl (Or.inl ⟨rfl, rfl⟩) (by decide +kernel)) ?_
  refine z_k (S_aload_n cx (k := 0) (by decide +kernel) rfl) ?_
  refine z_k (S_aload_n cx (k := 0) (by decide +kernel) rfl) ?_
  refine z_k (S_getf cx (T := F_Ag) (N := 12) (k := 0) rfl in_Ag (by decide) rfl w_135 (by decide +kernel)) ?_
  refine z_k (S_aload_n cx (k := 0) (by decide +kernel) rfl) ?_
  refine z_k (S_getf cx (T := F_Ag) (N := 12) (k := 1) rfl in_Ag (by decide) rfl w_136 (by decide +kernel)) ?_
  refine z_k (S_callV cx (T := F_Te) (N := 11) (r := r_Te_num) rfl ⟨w_213, w_2, by decide, by decide +kernel⟩ w_210 w_211 w_212 rfl (by decide +kernel)) ?_
  refine z_k (S_putf cx (T := F_Ag) (N := 12) (k := 8) (ty := t_Ag) rfl in_Ag t_Ag_ok n_Ag (by decide) rfl w_145 rfl (Or.inl ⟨rfl, rfl⟩) (by decide +kernel)) ?_
  refine z_k (S_aload_n cx (k := 0) (by decide +kernel) rfl) ?_
  refine z_k (S_aload_n cx (k := 0) (by decide +kernel) rfl) ?_
  refine z_k (S_getf cx (T := F_Ag) (N := 12) (k := 0) rfl in_Ag (by decide) rfl w_135 (by decide +kernel)) ?_
  refine z_k (S_aload_n cx (k := 0) (by decide +kernel) rfl) ?_
  refine z_k (S_getf cx (T := F_Ag) (N := 12) (k := 8) rfl in_Ag (by decide) rfl w_145 (by decide +kernel)) ?_
  exact z_k0
set_option maxRecDepth 100000 in
set_option maxHeartbeats 4000000 in
theorem s_Ag_begin_1 (cx : z_cx zTab g d p l e R s m args below meth c prog_2_method_2_code "SealedTalks$Agreement" 6) (hn : meth.name = "begin") (hf : z_fin g p l e R s m args below meth c Q prog_2_method_2_code P none) : ∀ x ∈ k_Ag_begin_1, z_sn zTab g d p l e R s m args below meth c Q 6 P x := by
  unfold k_Ag_begin_1
  refine z_k (S_aload_n cx (k := 0) (by decide +kernel) rfl) ?_
  refine z_k (S_getf cx (T := F_Ag) (N := 12) (k := 0) rfl in_Ag (by decide) rfl w_135 (by decide +kernel)) ?_
  refine z_k (S_iload cx (by decide +kernel)) ?_
  refine z_k (S_callV cx (T := F_Te) (N := 11) (r := r_Te_num) rfl ⟨w_213, w_2, by decide, by decide +kernel⟩ w_210 w_211 w_212 rfl (by decide +kernel)) ?_
  refine z_k (S_callV cx (T := F_Te) (N := 11) (r := r_Te_hash) rfl ⟨w_228, w_2, by decide, by decide +kernel⟩ w_225 w_226 w_227 rfl (by decide +kernel)) ?_
  refine z_k (S_putf cx (T := F_Ag) (N := 12) (k := 7) (ty := t_Ag) rfl in_Ag t_Ag_ok n_Ag (by decide) rfl w_144 rfl (Or.inl ⟨rfl, rfl⟩) (by decide +kernel)) ?_
  refine z_k (S_aload_n cx (k := 0) (by decide +kernel) rfl) ?_
  refine z_k (S_getf cx (T := F_Ag) (N := 12) (k := 1) rfl in_Ag (by decide) rfl w_136 (by decide +kernel)) ?_
  refine z_k (S_push cx (n := 1) (by decide +kernel) (by decide)) ?_
  refine z_k (S_icmp_ne cx (off := 43) (by decide +kernel) (by decide)) ?_
  refine z_k (S_aload_n cx (k := 0) (by decide +kernel) rfl) ?_
  refine z_k (S_aload_n cx (k := 0) (by decide +kernel) rfl) ?_
  refine z_k (S_getf cx (T := F_Ag) (N := 12) (k := 0) rfl in_Ag (by decide) rfl w_135 (by decide +kernel)) ?_
  refine z_k (S_aload_n cx (k := 0) (by decide +kernel) rfl) ?_
  refine z_k (S_getf cx (T := F_Ag) (N := 12) (k := 7) rfl in_Ag (by decide) rfl w_144 (by decide +kernel)) ?_
  refine z_k (S_aload_n cx (k := 0) (by decide +kernel) rfl) ?_
  refine z_k (S_getf cx (T := F_Ag) (N := 12) (k := 0) rfl in_Ag (by decide) rfl w_135 (by decide +kernel)) ?_
  refine z_k (S_aload_n cx (k := 0) (by decide +kernel) rfl) ?_
  refine z_k (S_getf cx (T := F_Ag) (N := 12) (k := 2) rfl in_Ag (by decide) rfl w_137 (by decide +kernel)) ?_
  refine z_k (S_if_eq cx (off := 10) (by decide +kernel) (by decide)) ?_
  refine z_k (S_aload_n cx (k := 0) (by decide +kernel) rfl) ?_
  refine z_k (S_getf cx (T := F_Ag) (N := 12) (k := 5) rfl in_Ag (by decide) rfl w_141 (by decide +kernel)) ?_
  refine z_k (S_goto cx (off := 7) (by decide +kernel) (by decide)) ?_
  refine z_k (S_aload_n cx (k := 0) (by decide +kernel) rfl) ?_
  exact z_k0
set_option maxRecDepth 100000 in
set_option maxHeartbeats 4000000 in
theorem s_Ag_begin_2 (cx : z_cx zTab g d p l e R s m args below meth c prog_2_method_2_code "SealedTalks$Agreement" 6) (hn : meth.name = "begin") (hf : z_fin g p l e R s m args below meth c Q prog_2_method_2_code P none) : ∀ x ∈ k_Ag_begin_2, z_sn zTab g d p l e R s m args below meth c Q 6 P x := by
  unfold k_Ag_begin_2
  refine z_k (S_getf cx (T := F_Ag) (N := 12) (k := 3) rfl in_Ag (by decide) rfl w_139 (by decide +kernel)) ?_
  refine z_k (S_callV cx (T := F_Te) (N := 11) (r := r_Te_pub) rfl ⟨w_232, w_2, by decide, by decide +kernel⟩ w_229 w_230 w_231 rfl (by decide +kernel)) ?_
  refine z_k (S_callV cx (T := F_Te) (N := 11) (r := r_Te_hash) rfl ⟨w_228, w_2, by decide, by decide +kernel⟩ w_225 w_226 w_227 rfl (by decide +kernel)) ?_
  refine z_k (S_putf cx (T := F_Ag) (N := 12) (k := 7) (ty := t_Ag) rfl in_Ag t_Ag_ok n_Ag (by decide) rfl w_144 rfl (Or.inl ⟨rfl, rfl⟩) (by decide +kernel)) ?_
  refine z_k (S_vret (hf.1 rfl) (by decide +kernel)) ?_
  exact z_k0
theorem s_Ag_begin : z_snd zTab r_Ag_begin := ⟨by decide +kernel, w_209, fun g d p l e R s m args below meth c Q P cx hn hf => z_k (s_Ag_begin_0 cx hn hf) (z_k (s_Ag_begin_1 cx hn hf) (z_k (s_Ag_begin_2 cx hn hf) (z_k0)))⟩
set_option maxRecDepth 100000 in
set_option maxHeartbeats 4000000 in
theorem s_Ag_copyFrom_0 (cx : z_cx zTab g d p l e R s m args below meth c prog_2_method_3_code "SealedTalks$Agreement" 2) (hn : meth.name = "copyFrom") (hf : z_fin g p l e R s m args below meth c Q prog_2_method_3_code P none) : ∀ x ∈ k_Ag_copyFrom_0, z_sn zTab g d p l e R s m args below meth c Q 2 P x := by
  unfold k_Ag_copyFrom_0
  refine z_k (S_aload_n cx (k := 0) (by decide +kernel) rfl) ?_
  refine z_k (S_aload_n cx (k := 1) (by decide +kernel) rfl) ?_
  refine z_k (S_getf cx (T := F_Ag) (N := 12) (k := 1) rfl in_Ag (by decide) rfl w_136 (by decide +kernel)) ?_
  refine z_k (S_putf cx (T := F_Ag) (N := 12) (k := 1) (ty := t_Ag) rfl in_Ag t_Ag_ok n_Ag (by decide) rfl w_136 rfl (Or.inl ⟨rfl, rfl⟩) (by decide +kernel)) ?_
  refine z_k (S_aload_n cx (k := 0) (by decide +kernel) rfl) ?_
  refine z_k (S_aload_n cx (k := 1) (by decide +kernel) rfl) ?_
  refine z_k (S_getf cx (T := F_Ag) (N := 12) (k := 2) rfl in_Ag (by decide) rfl w_137 (by decide +kernel)) ?_
  refine z_k (S_putf cx (T := F_Ag) (N := 12) (k := 2) (ty := t_Ag) rfl in_Ag t_Ag_ok n_Ag (by decide) rfl w_137 rfl (Or.inr (Or.inl ⟨rfl, rfl⟩)) (by decide +kernel)) ?_
  refine z_k (S_aload_n cx (k := 0) (by decide +kernel) rfl) ?_
  refine z_k (S_aload_n cx (k := 1) (by decide +kernel) rfl) ?_
  refine z_k (S_getf cx (T := F_Ag) (N := 12) (k := 3) rfl in_Ag (by decide) rfl w_139 (by decide +kernel)) ?_
  refine z_k (S_putf cx (T := F_Ag) (N := 12) (k := 3) (ty := t_Ag) rfl in_Ag t_Ag_ok n_Ag (by decide) rfl w_139 rfl (Or.inl ⟨rfl, rfl⟩) (by decide +kernel)) ?_
  refine z_k (S_aload_n cx (k := 0) (by decide +kernel) rfl) ?_
  refine z_k (S_aload_n cx (k := 1) (by decide +kernel) rfl) ?_
  refine z_k (S_getf cx (T := F_Ag) (N := 12) (k := 4) rfl in_Ag (by decide) rfl w_140 (by decide +kernel)) ?_
  refine z_k (S_putf cx (T := F_Ag) (N := 12) (k := 4) (ty := t_Ag) rfl in_Ag t_Ag_ok n_Ag (by decide) rfl w_140 rfl (Or.inl ⟨rfl, rfl⟩) (by decide +kernel)) ?_
  refine z_k (S_aload_n cx (k := 0) (by decide +kernel) rfl) ?_
  refine z_k (S_aload_n cx (k := 1) (by decide +kernel) rfl) ?_
  refine z_k (S_getf cx (T := F_Ag) (N := 12) (k := 5) rfl in_Ag (by decide) rfl w_141 (by decide +kernel)) ?_
  refine z_k (S_putf cx (T := F_Ag) (N := 12) (k := 5) (ty := t_Ag) rfl in_Ag t_Ag_ok n_Ag (by decide) rfl w_141 rfl (Or.inl ⟨rfl, rfl⟩) (by decide +kernel)) ?_
  refine z_k (S_aload_n cx (k := 0) (by decide +kernel) rfl) ?_
  refine z_k (S_aload_n cx (k := 1) (by decide +kernel) rfl) ?_
  refine z_k (S_getf cx (T := F_Ag) (N := 12) (k := 6) rfl in_Ag (by decide) rfl w_143 (by decide +kernel)) ?_
  refine z_k (S_putf cx (T := F_Ag) (N := 12) (k := 6) (ty := t_Ag) rfl in_Ag t_Ag_ok n_Ag (by decide) rfl w_143 rfl (Or.inl ⟨rfl, rfl⟩) (by decide +kernel)) ?_
  exact z_k0
set_option maxRecDepth 100000 in
set_option maxHeartbeats 4000000 in
theorem s_Ag_copyFrom_1 (cx : z_cx zTab g d p l e R s m args below meth c prog_2_method_3_code "SealedTalks$Agreement" 2) (hn : meth.name = "copyFrom") (hf : z_fin g p l e R s m args below meth c Q prog_2_method_3_code P none) : ∀ x ∈ k_Ag_copyFrom_1, z_sn zTab g d p l e R s m args below meth c Q 2 P x := by
  unfold k_Ag_copyFrom_1
  refine z_k (S_aload_n cx (k := 0) (by decide +kernel) rfl) ?_
  refine z_k (S_aload_n cx (k := 1) (by decide +kernel) rfl) ?_
  refine z_k (S_getf cx (T := F_Ag) (N := 12) (k := 7) rfl in_Ag (by decide) rfl w_144 (by decide +kernel)) ?_
  refine z_k (S_putf cx (T := F_Ag) (N := 12) (k := 7) (ty := t_Ag) rfl in_Ag t_Ag_ok n_Ag (by decide) rfl w_144 rfl (Or.inl ⟨rfl, rfl⟩) (by decide +kernel)) ?_
  refine z_k (S_aload_n cx (k := 0) (by decide +kernel) rfl) ?_
  refine z_k (S_aload_n cx (k := 1) (by decide +kernel) rfl) ?_
  refine z_k (S_getf cx (T := F_Ag) (N := 12) (k := 8) rfl in_Ag (by decide) rfl w_145 (by decide +kernel)) ?_
  refine z_k (S_putf cx (T := F_Ag) (N := 12) (k := 8) (ty := t_Ag) rfl in_Ag t_Ag_ok n_Ag (by decide) rfl w_145 rfl (Or.inl ⟨rfl, rfl⟩) (by decide +kernel)) ?_
  refine z_k (S_aload_n cx (k := 0) (by decide +kernel) rfl) ?_
  refine z_k (S_aload_n cx (k := 1) (by decide +kernel) rfl) ?_
  refine z_k (S_getf cx (T := F_Ag) (N := 12) (k := 9) rfl in_Ag (by decide) rfl w_147 (by decide +kernel)) ?_
  refine z_k (S_putf cx (T := F_Ag) (N := 12) (k := 9) (ty := t_Ag) rfl in_Ag t_Ag_ok n_Ag (by decide) rfl w_147 rfl (Or.inl ⟨rfl, rfl⟩) (by decide +kernel)) ?_
  refine z_k (S_aload_n cx (k := 0) (by decide +kernel) rfl) ?_
  refine z_k (S_aload_n cx (k := 1) (by decide +kernel) rfl) ?_
  refine z_k (S_getf cx (T := F_Ag) (N := 12) (k := 10) rfl in_Ag (by decide) rfl w_148 (by decide +kernel)) ?_
  refine z_k (S_putf cx (T := F_Ag) (N := 12) (k := 10) (ty := t_Ag) rfl in_Ag t_Ag_ok n_Ag (by decide) rfl w_148 rfl (Or.inl ⟨rfl, rfl⟩) (by decide +kernel)) ?_
  refine z_k (S_aload_n cx (k := 0) (by decide +kernel) rfl) ?_
  refine z_k (S_aload_n cx (k := 1) (by decide +kernel) rfl) ?_
  refine z_k (S_getf cx (T := F_Ag) (N := 12) (k := 11) rfl in_Ag (by decide) rfl w_149 (by decide +kernel)) ?_
  refine z_k (S_putf cx (T := F_Ag) (N := 12) (k := 11) (ty := t_Ag) rfl in_Ag t_Ag_ok n_Ag (by decide) rfl w_149 rfl (Or.inl ⟨rfl, rfl⟩) (by decide +kernel)) ?_
  refine z_k (S_vret (hf.1 rfl) (by decide +kernel)) ?_
  exact z_k0
theorem s_Ag_copyFrom : z_snd zTab r_Ag_copyFrom := ⟨by decide +kernel, w_398, fun g d p l e R s m args below meth c Q P cx hn hf => z_k (s_Ag_copyFrom_0 cx hn hf) (z_k (s_Ag_copyFrom_1 cx hn hf) (z_k0))⟩
set_option maxRecDepth 100000 in
set_option maxHeartbeats 4000000 in
theorem s_Ag_isDone_0 (cx : z_cx zTab g d p l e R s m args below meth c prog_2_method_4_code "SealedTalks$Agreement" 1) (hn : meth.name = "isDone") (hf : z_fin g p l e R s m args below meth c Q prog_2_method_4_code P (some .boolean)) : ∀ x ∈ k_Ag_isDone_0, z_sn zTab g d p l e R s m args below meth c Q 1 P x := by
  unfold k_Ag_isDone_0
  refine z_k (S_aload_n cx (k := 0) (by decide +kernel) rfl) ?_
  refine z_k (S_getf cx (T := F_Ag) (N := 12) (k := 11) rfl in_Ag (by decide) rfl w_149 (by decide +kernel)) ?_
  refine z_k (S_aload_n cx (k := 0) (by decide +kernel) rfl) ?_
  refine z_k (S_getf cx (T := F_Ag) (N := 12) (k := 1) rfl in_Ag (by decide) rfl w_136 (by decide +kernel)) ?_
  refine z_k (S_if_ne cx (off := 7) (by decide +kernel) (by decide)) ?_
  refine z_k (S_push cx (n := 3) (by decide +kernel) (by decide)) ?_
  refine z_k (S_goto cx (off := 4) (by decide +kernel) (by decide)) ?_
  refine z_k (S_push cx (n := 2) (by decide +kernel) (by decide)) ?_
  refine z_k (S_icmp_lt cx (off := 7) (by decide +kernel) (by decide)) ?_
  refine z_k (S_push cx (n := 1) (by decide +kernel) (by decide)) ?_
  refine z_k (S_goto cx (off := 4) (by decide +kernel) (by decide)) ?_
  refine z_k (S_push cx (n := 0) (by decide +kernel) (by decide)) ?_
  refine z_k (S_zret (hf.2.2.1 rfl) (by decide +kernel)) ?_
  exact z_k0
theorem s_Ag_isDone : z_snd zTab r_Ag_isDone := ⟨by decide +kernel, w_248, fun g d p l e R s m args below meth c Q P cx hn hf => z_k (s_Ag_isDone_0 cx hn hf) (z_k0)⟩
set_option maxRecDepth 100000 in
set_option maxHeartbeats 4000000 in
theorem s_Ag_isOwnTurn_0 (cx : z_cx zTab g d p l e R s m args below meth c prog_2_method_5_code "SealedTalks$Agreement" 1) (hn : meth.name = "isOwnTurn") (hf : z_fin g p l e R s m args below meth c Q prog_2_method_5_code P (some .boolean)) : ∀ x ∈ k_Ag_isOwnTurn_0, z_sn zTab g d p l e R s m args below meth c Q 1 P x := by
  unfold k_Ag_isOwnTurn_0
  refine z_k (S_aload_n cx (k := 0) (by decide +kernel) rfl) ?_
  refine z_k (S_callV cx (T := F_Ag) (N := 12) (r := r_Ag_isDone) rfl ⟨w_248, w_7, by decide, by decide +kernel⟩ w_245 w_246 w_247 rfl (by decide +kernel)) ?_
  refine z_k (S_if_ne cx (off := 28) (by decide +kernel) (by decide)) ?_
  refine z_k (S_aload_n cx (k := 0) (by decide +kernel) rfl) ?_
  refine z_k (S_getf cx (T := F_Ag) (N := 12) (k := 2) rfl in_Ag (by decide) rfl w_137 (by decide +kernel)) ?_
  refine z_k (S_aload_n cx (k := 0) (by decide +kernel) rfl) ?_
  refine z_k (S_getf cx (T := F_Ag) (N := 12) (k := 11) rfl in_Ag (by decide) rfl w_149 (by decide +kernel)) ?_
  refine z_k (S_push cx (n := 2) (by decide +kernel) (by decide)) ?_
  refine z_k (S_irem cx (by decide +kernel)) ?_
  refine z_k (S_if_ne cx (off := 7) (by decide +kernel) (by decide)) ?_
  refine z_k (S_push cx (n := 1) (by decide +kernel) (by decide)) ?_
  refine z_k (S_goto cx (off := 4) (by decide +kernel) (by decide)) ?_
  refine z_k (S_push cx (n := 0) (by decide +kernel) (by decide)) ?_
  refine z_k (S_icmp_ne cx (off := 7) (by decide +kernel) (by decide)) ?_
  refine z_k (S_push cx (n := 1) (by decide +kernel) (by decide)) ?_
  refine z_k (S_goto cx (off := 4) (by decide +kernel) (by decide)) ?_
  refine z_k (S_push cx (n := 0) (by decide +kernel) (by decide)) ?_
  refine z_k (S_zret (hf.2.2.1 rfl) (by decide +kernel)) ?_
  exact z_k0
theorem s_Ag_isOwnTurn : z_snd zTab r_Ag_isOwnTurn := ⟨by decide +kernel, w_244, fun g d p l e R s m args below meth c Q P cx hn hf => z_k (s_Ag_isOwnTurn_0 cx hn hf) (z_k0)⟩
set_option maxRecDepth 100000 in
set_option maxHeartbeats 4000000 in
theorem s_Ag_writeNext_0 (cx : z_cx zTab g d p l e R s m args below meth c prog_2_method_6_code "SealedTalks$Agreement" 5) (hn : meth.name = "writeNext") (hf : z_fin g p l e R s m args below meth c Q prog_2_method_6_code P none) : ∀ x ∈ k_Ag_writeNext_0, z_sn zTab g d p l e R s m args below meth c Q 5 P x := by
  unfold k_Ag_writeNext_0
  refine z_k (S_push cx (n := 0) (by decide +kernel) (by decide)) ?_
  refine z_k (S_istore_n cx (by decide) (k := 3) (by decide +kernel) rfl) ?_
  refine z_k (S_iload_n cx (k := 3) (by decide +kernel) rfl) ?_
  refine z_k (S_push cx (n := 4) (by decide +kernel) (by decide)) ?_
  refine z_k (S_icmp_ge cx (off := 92) (by decide +kernel) (by decide)) ?_
  refine z_k (S_aload_n cx (k := 0) (by decide +kernel) rfl) ?_
  refine z_k (S_iload_n cx (k := 3) (by decide +kernel) rfl) ?_
  refine z_k (S_callV cx (T := F_Ag) (N := 12) (r := r_Ag_tokenAt) rfl ⟨w_264, w_7, by decide, by decide +kernel⟩ w_261 w_263 wp_3 rfl (by decide +kernel)) ?_
  refine z_k (S_istore cx (by decide) (by decide +kernel)) ?_
  refine z_k (S_iload cx (by decide +kernel)) ?_
  refine z_k (S_push cx (n := 1) (by decide +kernel) (by decide)) ?_
  refine z_k (S_icmp_ne cx (off := 33) (by decide +kernel) (by decide)) ?_
  refine z_k (S_aload_n cx (k := 0) (by decide +kernel) rfl) ?_
  refine z_k (S_aload_n cx (k := 0) (by decide +kernel) rfl) ?_
  refine z_k (S_getf cx (T := F_Ag) (N := 12) (k := 0) rfl in_Ag (by decide) rfl w_135 (by decide +kernel)) ?_
  refine z_k (S_callV cx (T := F_Te) (N := 11) (r := r_Te_makeKey) rfl ⟨w_270, w_2, by decide, by decide +kernel⟩ w_267 w_268 w_269 rfl (by decide +kernel)) ?_
  refine z_k (S_putf cx (T := F_Ag) (N := 12) (k := 4) (ty := t_Ag) rfl in_Ag t_Ag_ok n_Ag (by decide) rfl w_140 rfl (Or.inl ⟨rfl, rfl⟩) (by decide +kernel)) ?_
  refine z_k (S_aload_n cx (k := 0) (by decide +kernel) rfl) ?_
  refine z_k (S_aload_n cx (k := 1) (by decide +kernel) rfl) ?_
  refine z_k (S_aload_n cx (k := 0) (by decide +kernel) rfl) ?_
  refine z_k (S_getf cx (T := F_Ag) (N := 12) (k := 0) rfl in_Ag (by decide) rfl w_135 (by decide +kernel)) ?_
  refine z_k (S_aload_n cx (k := 0) (by decide +kernel) rfl) ?_
  refine z_k (S_getf cx (T := F_Ag) (N := 12) (k := 4) rfl in_Ag (by decide) rfl w_140 (by decide +kernel)) ?_
  refine z_k (S_callV cx (T := F_Te) (N := 11) (r := r_Te_pub) rfl ⟨w_232, w_2, by decide, by decide +kernel⟩ w_229 w_230 w_231 rfl (by decide +kernel)) ?_
  exact z_k0
set_option maxRecDepth 100000 in
set_option maxHeartbeats 4000000 in
theorem s_Ag_writeNext_1 (cx : z_cx zTab g d p l e R s m args below meth c prog_2_method_6_code "SealedTalks$Agreement" 5) (hn : meth.name = "writeNext") (hf : z_fin g p l e R s m args below meth c Q prog_2_method_6_code P none) : ∀ x ∈ k_Ag_writeNext_1, z_sn zTab g d p l e R s m args below meth c Q 5 P x := by
  unfold k_Ag_writeNext_1
  refine z_k (S_callV cx (T := F_Ag) (N := 12) (r := r_Ag_addPart) rfl ⟨w_274, w_7, by decide, by decide +kernel⟩ w_271 w_273 wp_4 rfl (by decide +kernel)) ?_
  refine z_k (S_goto cx (off := 43) (by decide +kernel) (by decide)) ?_
  refine z_k (S_iload cx (by decide +kernel)) ?_
  refine z_k (S_push cx (n := 2) (by decide +kernel) (by decide)) ?_
  refine z_k (S_icmp_ne cx (off := 26) (by decide +kernel) (by decide)) ?_
  refine z_k (S_aload_n cx (k := 0) (by decide +kernel) rfl) ?_
  refine z_k (S_aload_n cx (k := 1) (by decide +kernel) rfl) ?_
  refine z_k (S_aload_n cx (k := 0) (by decide +kernel) rfl) ?_
  refine z_k (S_aload_n cx (k := 0) (by decide +kernel) rfl) ?_
  refine z_k (S_getf cx (T := F_Ag) (N := 12) (k := 0) rfl in_Ag (by decide) rfl w_135 (by decide +kernel)) ?_
  refine z_k (S_aload_n cx (k := 0) (by decide +kernel) rfl) ?_
  refine z_k (S_getf cx (T := F_Ag) (N := 12) (k := 3) rfl in_Ag (by decide) rfl w_139 (by decide +kernel)) ?_
  refine z_k (S_callV cx (T := F_Te) (N := 11) (r := r_Te_pub) rfl ⟨w_232, w_2, by decide, by decide +kernel⟩ w_229 w_230 w_231 rfl (by decide +kernel)) ?_
  refine z_k (S_callV cx (T := F_Ag) (N := 12) (r := r_Ag_closedUp) rfl ⟨w_283, w_7, by decide, by decide +kernel⟩ w_280 w_282 wp_5 rfl (by decide +kernel)) ?_
  refine z_k (S_callV cx (T := F_Ag) (N := 12) (r := r_Ag_addPart) rfl ⟨w_274, w_7, by decide, by decide +kernel⟩ w_271 w_273 wp_4 rfl (by decide +kernel)) ?_
  refine z_k (S_goto cx (off := 14) (by decide +kernel) (by decide)) ?_
  refine z_k (S_iload cx (by decide +kernel)) ?_
  refine z_k (S_if_eq cx (off := 9) (by decide +kernel) (by decide)) ?_
  refine z_k (S_aload_n cx (k := 0) (by decide +kernel) rfl) ?_
  refine z_k (S_iload cx (by decide +kernel)) ?_
  refine z_k (S_callV cx (T := F_Ag) (N := 12) (r := r_Ag_mixKeys) rfl ⟨w_291, w_7, by decide, by decide +kernel⟩ w_288 w_290 wp_6 rfl (by decide +kernel)) ?_
  refine z_k (S_iinc cx (n := 1) (by decide) (by decide +kernel) (by decide)) ?_
  refine z_k (S_goto cx (off := -91) (by decide +kernel) (by decide)) ?_
  refine z_k (S_aload_n cx (k := 0) (by decide +kernel) rfl) ?_
  exact z_k0
set_option maxRecDepth 100000 in
set_option maxHeartbeats 4000000 in
theorem s_Ag_writeNext_2 (cx : z_cx zTab g d p l e R s m args below meth c prog_2_method_6_code "SealedTalks$Agreement" 5) (hn : meth.name = "writeNext") (hf : z_fin g p l e R s m args below meth c Q prog_2_method_6_code P none) : ∀ x ∈ k_Ag_writeNext_2, z_sn zTab g d p l e R s m args below meth c Q 5 P x := by
  unfold k_Ag_writeNext_2
  refine z_k (S_aload_n cx (k := 1) (by decide +kernel) rfl) ?_
  refine z_k (S_aload_n cx (k := 0) (by decide +kernel) rfl) ?_
  refine z_k (S_aload_n cx (k := 0) (by decide +kernel) rfl) ?_
  refine z_k (S_getf cx (T := F_Ag) (N := 12) (k := 0) rfl in_Ag (by decide) rfl w_135 (by decide +kernel)) ?_
  refine z_k (S_iload_n cx (k := 2) (by decide +kernel) rfl) ?_
  refine z_k (S_callV cx (T := F_Te) (N := 11) (r := r_Te_num) rfl ⟨w_213, w_2, by decide, by decide +kernel⟩ w_210 w_211 w_212 rfl (by decide +kernel)) ?_
  refine z_k (S_callV cx (T := F_Ag) (N := 12) (r := r_Ag_closedUp) rfl ⟨w_283, w_7, by decide, by decide +kernel⟩ w_280 w_282 wp_5 rfl (by decide +kernel)) ?_
  refine z_k (S_callV cx (T := F_Ag) (N := 12) (r := r_Ag_addPart) rfl ⟨w_274, w_7, by decide, by decide +kernel⟩ w_271 w_273 wp_4 rfl (by decide +kernel)) ?_
  refine z_k (S_aload_n cx (k := 0) (by decide +kernel) rfl) ?_
  refine z_k (S_dup cx (by decide +kernel)) ?_
  refine z_k (S_getf cx (T := F_Ag) (N := 12) (k := 11) rfl in_Ag (by decide) rfl w_149 (by decide +kernel)) ?_
  refine z_k (S_push cx (n := 1) (by decide +kernel) (by decide)) ?_
  refine z_k (S_iadd cx (by decide +kernel)) ?_
  refine z_k (S_putf cx (T := F_Ag) (N := 12) (k := 11) (ty := t_Ag) rfl in_Ag t_Ag_ok n_Ag (by decide) rfl w_149 rfl (Or.inl ⟨rfl, rfl⟩) (by decide +kernel)) ?_
  refine z_k (S_vret (hf.1 rfl) (by decide +kernel)) ?_
  exact z_k0
theorem s_Ag_writeNext : z_snd zTab r_Ag_writeNext := ⟨by decide +kernel, w_260, fun g d p l e R s m args below meth c Q P cx hn hf => z_k (s_Ag_writeNext_0 cx hn hf) (z_k (s_Ag_writeNext_1 cx hn hf) (z_k (s_Ag_writeNext_2 cx hn hf) (z_k0)))⟩
set_option maxRecDepth 100000 in
set_option maxHeartbeats 4000000 in
theorem s_Ag_readNext_0 (cx : z_cx zTab g d p l e R s m args below meth c prog_2_method_7_code "SealedTalks$Agreement" 6) (hn : meth.name = "readNext") (hf : z_fin g p l e R s m args below meth c Q prog_2_method_7_code P (some .int)) : ∀ x ∈ k_Ag_readNext_0, z_sn zTab g d p l e R s m args below meth c Q 6 P x := by
  unfold k_Ag_readNext_0
  refine z_k (S_aload_n cx (k := 1) (by decide +kernel) rfl) ?_
  refine z_k (S_iload_n cx (k := 2) (by decide +kernel) rfl) ?_
  refine z_k (S_callV cx (T := F_Me) (N := 3) (r := r_Me_sizeOf) rfl ⟨w_358, w_3, by decide, by decide +kernel⟩ w_403 w_356 w_357 rfl (by decide +kernel)) ?_
  refine z_k (S_aload_n cx (k := 0) (by decide +kernel) rfl) ?_
  refine z_k (S_callV cx (T := F_Ag) (N := 12) (r := r_Ag_partsOfNext) rfl ⟨w_407, w_7, by decide, by decide +kernel⟩ w_404 w_406 wp_9 rfl (by decide +kernel)) ?_
  refine z_k (S_icmp_eq cx (off := 5) (by decide +kernel) (by decide)) ?_
  refine z_k (S_push cx (n := 0) (by decide +kernel) (by decide)) ?_
  refine z_k (S_iret (hf.2.1 rfl) (by decide +kernel)) ?_
  refine z_k (S_push cx (n := 0) (by decide +kernel) (by decide)) ?_
  refine z_k (S_istore_n cx (by decide) (k := 3) (by decide +kernel) rfl) ?_
  refine z_k (S_push cx (n := 0) (by decide +kernel) (by decide)) ?_
  refine z_k (S_istore cx (by decide) (by decide +kernel)) ?_
  refine z_k (S_iload cx (by decide +kernel)) ?_
  refine z_k (S_push cx (n := 4) (by decide +kernel) (by decide)) ?_
  refine z_k (S_icmp_ge cx (off := 63) (by decide +kernel) (by decide)) ?_
  refine z_k (S_aload_n cx (k := 0) (by decide +kernel) rfl) ?_
  refine z_k (S_iload cx (by decide +kernel)) ?_
  refine z_k (S_callV cx (T := F_Ag) (N := 12) (r := r_Ag_tokenAt) rfl ⟨w_264, w_7, by decide, by decide +kernel⟩ w_261 w_263 wp_3 rfl (by decide +kernel)) ?_
  refine z_k (S_istore cx (by decide) (by decide +kernel)) ?_
  refine z_k (S_iload cx (by decide +kernel)) ?_
  refine z_k (S_push cx (n := 1) (by decide +kernel) (by decide)) ?_
  refine z_k (S_icmp_eq cx (off := 9) (by decide +kernel) (by decide)) ?_
  refine z_k (S_iload cx (by decide +kernel)) ?_
  refine z_k (S_push cx (n := 2) (by decide +kernel) (by decide)) ?_
  exact z_k0
set_option maxRecDepth 100000 in
set_option maxHeartbeats 4000000 in
theorem s_Ag_readNext_1 (cx : z_cx zTab g d p l e R s m args below meth c prog_2_method_7_code "SealedTalks$Agreement" 6) (hn : meth.name = "readNext") (hf : z_fin g p l e R s m args below meth c Q prog_2_method_7_code P (some .int)) : ∀ x ∈ k_Ag_readNext_1, z_sn zTab g d p l e R s m args below meth c Q 6 P x := by
  unfold k_Ag_readNext_1
  refine z_k (S_icmp_ne cx (off := 26) (by decide +kernel) (by decide)) ?_
  refine z_k (S_aload_n cx (k := 0) (by decide +kernel) rfl) ?_
  refine z_k (S_iload cx (by decide +kernel)) ?_
  refine z_k (S_aload_n cx (k := 1) (by decide +kernel) rfl) ?_
  refine z_k (S_iload_n cx (k := 2) (by decide +kernel) rfl) ?_
  refine z_k (S_iload_n cx (k := 3) (by decide +kernel) rfl) ?_
  refine z_k (S_callV cx (T := F_Me) (N := 3) (r := r_Me_partAt) rfl ⟨w_354, w_3, by decide, by decide +kernel⟩ w_408 w_352 w_353 rfl (by decide +kernel)) ?_
  refine z_k (S_callV cx (T := F_Ag) (N := 12) (r := r_Ag_readKey) rfl ⟨w_412, w_7, by decide, by decide +kernel⟩ w_409 w_411 wp_10 rfl (by decide +kernel)) ?_
  refine z_k (S_if_ne cx (off := 5) (by decide +kernel) (by decide)) ?_
  refine z_k (S_push cx (n := 0) (by decide +kernel) (by decide)) ?_
  refine z_k (S_iret (hf.2.1 rfl) (by decide +kernel)) ?_
  refine z_k (S_iinc cx (n := 1) (by decide) (by decide +kernel) (by decide)) ?_
  refine z_k (S_goto cx (off := 14) (by decide +kernel) (by decide)) ?_
  refine z_k (S_iload cx (by decide +kernel)) ?_
  refine z_k (S_if_eq cx (off := 9) (by decide +kernel) (by decide)) ?_
  refine z_k (S_aload_n cx (k := 0) (by decide +kernel) rfl) ?_
  refine z_k (S_iload cx (by decide +kernel)) ?_
  refine z_k (S_callV cx (T := F_Ag) (N := 12) (r := r_Ag_mixKeys) rfl ⟨w_291, w_7, by decide, by decide +kernel⟩ w_288 w_290 wp_6 rfl (by decide +kernel)) ?_
  refine z_k (S_iinc cx (n := 1) (by decide) (by decide +kernel) (by decide)) ?_
  refine z_k (S_goto cx (off := -63) (by decide +kernel) (by decide)) ?_
  refine z_k (S_aload_n cx (k := 1) (by decide +kernel) rfl) ?_
  refine z_k (S_iload_n cx (k := 2) (by decide +kernel) rfl) ?_
  refine z_k (S_iload_n cx (k := 3) (by decide +kernel) rfl) ?_
  refine z_k (S_callV cx (T := F_Me) (N := 3) (r := r_Me_partAt) rfl ⟨w_354, w_3, by decide, by decide +kernel⟩ w_408 w_352 w_353 rfl (by decide +kernel)) ?_
  exact z_k0
set_option maxRecDepth 100000 in
set_option maxHeartbeats 4000000 in
theorem s_Ag_readNext_2 (cx : z_cx zTab g d p l e R s m args below meth c prog_2_method_7_code "SealedTalks$Agreement" 6) (hn : meth.name = "readNext") (hf : z_fin g p l e R s m args below meth c Q prog_2_method_7_code P (some .int)) : ∀ x ∈ k_Ag_readNext_2, z_sn zTab g d p l e R s m args below meth c Q 6 P x := by
  unfold k_Ag_readNext_2
  refine z_k (S_istore cx (by decide) (by decide +kernel)) ?_
  refine z_k (S_aload_n cx (k := 0) (by decide +kernel) rfl) ?_
  refine z_k (S_iload cx (by decide +kernel)) ?_
  refine z_k (S_callV cx (T := F_Ag) (N := 12) (r := r_Ag_openedUp) rfl ⟨w_416, w_7, by decide, by decide +kernel⟩ w_413 w_415 wp_11 rfl (by decide +kernel)) ?_
  refine z_k (S_istore cx (by decide) (by decide +kernel)) ?_
  refine z_k (S_aload_n cx (k := 0) (by decide +kernel) rfl) ?_
  refine z_k (S_getf cx (T := F_Ag) (N := 12) (k := 0) rfl in_Ag (by decide) rfl w_135 (by decide +kernel)) ?_
  refine z_k (S_iload cx (by decide +kernel)) ?_
  refine z_k (S_callV cx (T := F_Te) (N := 11) (r := r_Te_isNum) rfl ⟨w_364, w_2, by decide, by decide +kernel⟩ w_424 w_362 w_363 rfl (by decide +kernel)) ?_
  refine z_k (S_if_ne cx (off := 5) (by decide +kernel) (by decide)) ?_
  refine z_k (S_push cx (n := 0) (by decide +kernel) (by decide)) ?_
  refine z_k (S_iret (hf.2.1 rfl) (by decide +kernel)) ?_
  refine z_k (S_aload_n cx (k := 0) (by decide +kernel) rfl) ?_
  refine z_k (S_aload_n cx (k := 0) (by decide +kernel) rfl) ?_
  refine z_k (S_getf cx (T := F_Ag) (N := 12) (k := 0) rfl in_Ag (by decide) rfl w_135 (by decide +kernel)) ?_
  refine z_k (S_aload_n cx (k := 0) (by decide +kernel) rfl) ?_
  refine z_k (S_getf cx (T := F_Ag) (N := 12) (k := 7) rfl in_Ag (by decide) rfl w_144 (by decide +kernel)) ?_
  refine z_k (S_iload cx (by decide +kernel)) ?_
  refine z_k (S_callV cx (T := F_Te) (N := 11) (r := r_Te_hash) rfl ⟨w_228, w_2, by decide, by decide +kernel⟩ w_225 w_226 w_227 rfl (by decide +kernel)) ?_
  refine z_k (S_putf cx (T := F_Ag) (N := 12) (k := 7) (ty := t_Ag) rfl in_Ag t_Ag_ok n_Ag (by decide) rfl w_144 rfl (Or.inl ⟨rfl, rfl⟩) (by decide +kernel)) ?_
  refine z_k (S_aload_n cx (k := 0) (by decide +kernel) rfl) ?_
  refine z_k (S_dup cx (by decide +kernel)) ?_
  refine z_k (S_getf cx (T := F_Ag) (N := 12) (k := 11) rfl in_Ag (by decide) rfl w_149 (by decide +kernel)) ?_
  refine z_k (S_push cx (n := 1) (by decide +kernel) (by decide)) ?_
  exact z_k0
set_option maxRecDepth 100000 in
set_option maxHeartbeats 4000000 in
theorem s_Ag_readNext_3 (cx : z_cx zTab g d p l e R s m args below meth c prog_2_method_7_code "SealedTalks$Agreement" 6) (hn : meth.name = "readNext") (hf : z_fin g p l e R s m args below meth c Q prog_2_method_7_code P (some .int)) : ∀ x ∈ k_Ag_readNext_3, z_sn zTab g d p l e R s m args below meth c Q 6 P x := by
  unfold k_Ag_readNext_3
  refine z_k (S_iadd cx (by decide +kernel)) ?_
  refine z_k (S_putf cx (T := F_Ag) (N := 12) (k := 11) (ty := t_Ag) rfl in_Ag t_Ag_ok n_Ag (by decide) rfl w_149 rfl (Or.inl ⟨rfl, rfl⟩) (by decide +kernel)) ?_
  refine z_k (S_iload cx (by decide +kernel)) ?_
  refine z_k (S_iret (hf.2.1 rfl) (by decide +kernel)) ?_
  exact z_k0
theorem s_Ag_readNext : z_snd zTab r_Ag_readNext := ⟨by decide +kernel, w_402, fun g d p l e R s m args below meth c Q P cx hn hf => z_k (s_Ag_readNext_0 cx hn hf) (z_k (s_Ag_readNext_1 cx hn hf) (z_k (s_Ag_readNext_2 cx hn hf) (z_k (s_Ag_readNext_3 cx hn hf) (z_k0))))⟩
set_option maxRecDepth 100000 in
set_option maxHeartbeats 4000000 in
theorem s_Ag_tokenAt_0 (cx : z_cx zTab g d p l e R s m args below meth c prog_2_method_8_code "SealedTalks$Agreement" 4) (hn : meth.name = "tokenAt") (hf : z_fin g p l e R s m args below meth c Q prog_2_method_8_code P (some .int)) : ∀ x ∈ k_Ag_tokenAt_0, z_sn zTab g d p l e R s m args below meth c Q 4 P x := by
  unfold k_Ag_tokenAt_0
  refine z_k (S_aload_n cx (k := 0) (by decide +kernel) rfl) ?_
  refine z_k (S_getf cx (T := F_Ag) (N := 12) (k := 1) rfl in_Ag (by decide) rfl w_136 (by decide +kernel)) ?_
  refine z_k (S_push cx (n := 3) (by decide +kernel) (by decide)) ?_
  refine z_k (S_imul cx (by decide +kernel)) ?_
  refine z_k (S_aload_n cx (k := 0) (by decide +kernel) rfl) ?_
  refine z_k (S_getf cx (T := F_Ag) (N := 12) (k := 11) rfl in_Ag (by decide) rfl w_149 (by decide +kernel)) ?_
  refine z_k (S_iadd cx (by decide +kernel)) ?_
  refine z_k (S_istore_n cx (by decide) (k := 2) (by decide +kernel) rfl) ?_
  refine z_k (S_iload_n cx (k := 2) (by decide +kernel) rfl) ?_
  refine z_k (S_push cx (n := 4) (by decide +kernel) (by decide)) ?_
  refine z_k (S_imul cx (by decide +kernel)) ?_
  refine z_k (S_iload_n cx (k := 1) (by decide +kernel) rfl) ?_
  refine z_k (S_iadd cx (by decide +kernel)) ?_
  refine z_k (S_istore_n cx (by decide) (k := 3) (by decide +kernel) rfl) ?_
  refine z_k (S_iload_n cx (k := 3) (by decide +kernel) rfl) ?_
  refine z_k (S_if_lt cx (off := 19) (by decide +kernel) (by decide)) ?_
  refine z_k (S_iload_n cx (k := 3) (by decide +kernel) rfl) ?_
  refine z_k (S_gets cx w_265 (by decide +kernel)) ?_
  refine z_k (S_alen cx (by decide +kernel)) ?_
  refine z_k (S_icmp_ge cx (off := 11) (by decide +kernel) (by decide)) ?_
  refine z_k (S_gets cx w_265 (by decide +kernel)) ?_
  refine z_k (S_iload_n cx (k := 3) (by decide +kernel) rfl) ?_
  refine z_k (S_iald cx (by decide +kernel)) ?_
  refine z_k (S_goto cx (off := 4) (by decide +kernel) (by decide)) ?_
  exact z_k0
set_option maxRecDepth 100000 in
set_option maxHeartbeats 4000000 in
theorem s_Ag_tokenAt_1 (cx : z_cx zTab g d p l e R s m args below meth c prog_2_method_8_code "SealedTalks$Agreement" 4) (hn : meth.name = "tokenAt") (hf : z_fin g p l e R s m args below meth c Q prog_2_method_8_code P (some .int)) : ∀ x ∈ k_Ag_tokenAt_1, z_sn zTab g d p l e R s m args below meth c Q 4 P x := by
  unfold k_Ag_tokenAt_1
  refine z_k (S_push cx (n := 0) (by decide +kernel) (by decide)) ?_
  refine z_k (S_iret (hf.2.1 rfl) (by decide +kernel)) ?_
  exact z_k0
theorem s_Ag_tokenAt : z_snd zTab r_Ag_tokenAt := ⟨by decide +kernel, w_264, fun g d p l e R s m args below meth c Q P cx hn hf => z_k (s_Ag_tokenAt_0 cx hn hf) (z_k (s_Ag_tokenAt_1 cx hn hf) (z_k0))⟩
set_option maxRecDepth 100000 in
set_option maxHeartbeats 4000000 in
theorem s_Ag_partsOfNext_0 (cx : z_cx zTab g d p l e R s m args below meth c prog_2_method_9_code "SealedTalks$Agreement" 3) (hn : meth.name = "partsOfNext") (hf : z_fin g p l e R s m args below meth c Q prog_2_method_9_code P (some .int)) : ∀ x ∈ k_Ag_partsOfNext_0, z_sn zTab g d p l e R s m args below meth c Q 3 P x := by
  unfold k_Ag_partsOfNext_0
  refine z_k (S_push cx (n := 1) (by decide +kernel) (by decide)) ?_
  refine z_k (S_istore_n cx (by decide) (k := 1) (by decide +kernel) rfl) ?_
  refine z_k (S_push cx (n := 0) (by decide +kernel) (by decide)) ?_
  refine z_k (S_istore_n cx (by decide) (k := 2) (by decide +kernel) rfl) ?_
  refine z_k (S_iload_n cx (k := 2) (by decide +kernel) rfl) ?_
  refine z_k (S_push cx (n := 4) (by decide +kernel) (by decide)) ?_
  refine z_k (S_icmp_ge cx (off := 30) (by decide +kernel) (by decide)) ?_
  refine z_k (S_aload_n cx (k := 0) (by decide +kernel) rfl) ?_
  refine z_k (S_iload_n cx (k := 2) (by decide +kernel) rfl) ?_
  refine z_k (S_callV cx (T := F_Ag) (N := 12) (r := r_Ag_tokenAt) rfl ⟨w_264, w_7, by decide, by decide +kernel⟩ w_261 w_263 wp_3 rfl (by decide +kernel)) ?_
  refine z_k (S_push cx (n := 1) (by decide +kernel) (by decide)) ?_
  refine z_k (S_icmp_eq cx (off := 12) (by decide +kernel) (by decide)) ?_
  refine z_k (S_aload_n cx (k := 0) (by decide +kernel) rfl) ?_
  refine z_k (S_iload_n cx (k := 2) (by decide +kernel) rfl) ?_
  refine z_k (S_callV cx (T := F_Ag) (N := 12) (r := r_Ag_tokenAt) rfl ⟨w_264, w_7, by decide, by decide +kernel⟩ w_261 w_263 wp_3 rfl (by decide +kernel)) ?_
  refine z_k (S_push cx (n := 2) (by decide +kernel) (by decide)) ?_
  refine z_k (S_icmp_ne cx (off := 6) (by decide +kernel) (by decide)) ?_
  refine z_k (S_iinc cx (n := 1) (by decide) (by decide +kernel) (by decide)) ?_
  refine z_k (S_iinc cx (n := 1) (by decide) (by decide +kernel) (by decide)) ?_
  refine z_k (S_goto cx (off := -29) (by decide +kernel) (by decide)) ?_
  refine z_k (S_iload_n cx (k := 1) (by decide +kernel) rfl) ?_
  refine z_k (S_iret (hf.2.1 rfl) (by decide +kernel)) ?_
  exact z_k0
theorem s_Ag_partsOfNext : z_snd zTab r_Ag_partsOfNext := ⟨by decide +kernel, w_407, fun g d p l e R s m args below meth c Q P cx hn hf => z_k (s_Ag_partsOfNext_0 cx hn hf) (z_k0)⟩
set_option maxRecDepth 100000 in
set_option maxHeartbeats 4000000 in
theorem s_Ag_addPart_0 (cx : z_cx zTab g d p l e R s m args below meth c prog_2_method_10_code "SealedTalks$Agreement" 3) (hn : meth.name = "addPart") (hf : z_fin g p l e R s m args below meth c Q prog_2_method_10_code P none) : ∀ x ∈ k_Ag_addPart_0, z_sn zTab g d p l e R s m args below meth c Q 3 P x := by
  unfold k_Ag_addPart_0
  refine z_k (S_aload_n cx (k := 1) (by decide +kernel) rfl) ?_
  refine z_k (S_iload_n cx (k := 2) (by decide +kernel) rfl) ?_
  refine z_k (S_callV cx (T := F_Me) (N := 3) (r := r_Me_addPart) rfl ⟨w_278, w_3, by decide, by decide +kernel⟩ w_275 w_276 w_277 rfl (by decide +kernel)) ?_
  refine z_k (S_aload_n cx (k := 0) (by decide +kernel) rfl) ?_
  refine z_k (S_aload_n cx (k := 0) (by decide +kernel) rfl) ?_
  refine z_k (S_getf cx (T := F_Ag) (N := 12) (k := 0) rfl in_Ag (by decide) rfl w_135 (by decide +kernel)) ?_
  refine z_k (S_aload_n cx (k := 0) (by decide +kernel) rfl) ?_
  refine z_k (S_getf cx (T := F_Ag) (N := 12) (k := 7) rfl in_Ag (by decide) rfl w_144 (by decide +kernel)) ?_
  refine z_k (S_iload_n cx (k := 2) (by decide +kernel) rfl) ?_
  refine z_k (S_callV cx (T := F_Te) (N := 11) (r := r_Te_hash) rfl ⟨w_228, w_2, by decide, by decide +kernel⟩ w_225 w_226 w_227 rfl (by decide +kernel)) ?_
  refine z_k (S_putf cx (T := F_Ag) (N := 12) (k := 7) (ty := t_Ag) rfl in_Ag t_Ag_ok n_Ag (by decide) rfl w_144 rfl (Or.inl ⟨rfl, rfl⟩) (by decide +kernel)) ?_
  refine z_k (S_vret (hf.1 rfl) (by decide +kernel)) ?_
  exact z_k0
theorem s_Ag_addPart : z_snd zTab r_Ag_addPart := ⟨by decide +kernel, w_274, fun g d p l e R s m args below meth c Q P cx hn hf => z_k (s_Ag_addPart_0 cx hn hf) (z_k0)⟩
set_option maxRecDepth 100000 in
set_option maxHeartbeats 4000000 in
theorem s_Ag_readKey_0 (cx : z_cx zTab g d p l e R s m args below meth c prog_2_method_11_code "SealedTalks$Agreement" 4) (hn : meth.name = "readKey") (hf : z_fin g p l e R s m args below meth c Q prog_2_method_11_code P (some .boolean)) : ∀ x ∈ k_Ag_readKey_0, z_sn zTab g d p l e R s m args below meth c Q 4 P x := by
  unfold k_Ag_readKey_0
  refine z_k (S_iload_n cx (k := 1) (by decide +kernel) rfl) ?_
  refine z_k (S_push cx (n := 1) (by decide +kernel) (by decide)) ?_
  refine z_k (S_icmp_ne cx (off := 7) (by decide +kernel) (by decide)) ?_
  refine z_k (S_iload_n cx (k := 2) (by decide +kernel) rfl) ?_
  refine z_k (S_goto cx (off := 8) (by decide +kernel) (by decide)) ?_
  refine z_k (S_aload_n cx (k := 0) (by decide +kernel) rfl) ?_
  refine z_k (S_iload_n cx (k := 2) (by decide +kernel) rfl) ?_
  refine z_k (S_callV cx (T := F_Ag) (N := 12) (r := r_Ag_openedUp) rfl ⟨w_416, w_7, by decide, by decide +kernel⟩ w_413 w_415 wp_11 rfl (by decide +kernel)) ?_
  refine z_k (S_istore_n cx (by decide) (k := 3) (by decide +kernel) rfl) ?_
  refine z_k (S_aload_n cx (k := 0) (by decide +kernel) rfl) ?_
  refine z_k (S_getf cx (T := F_Ag) (N := 12) (k := 0) rfl in_Ag (by decide) rfl w_135 (by decide +kernel)) ?_
  refine z_k (S_iload_n cx (k := 3) (by decide +kernel) rfl) ?_
  refine z_k (S_callV cx (T := F_Te) (N := 11) (r := r_Te_isPub) rfl ⟨w_422, w_2, by decide, by decide +kernel⟩ w_419 w_420 w_421 rfl (by decide +kernel)) ?_
  refine z_k (S_if_ne cx (off := 5) (by decide +kernel) (by decide)) ?_
  refine z_k (S_push cx (n := 0) (by decide +kernel) (by decide)) ?_
  refine z_k (S_zret (hf.2.2.1 rfl) (by decide +kernel)) ?_
  refine z_k (S_iload_n cx (k := 1) (by decide +kernel) rfl) ?_
  refine z_k (S_push cx (n := 1) (by decide +kernel) (by decide)) ?_
  refine z_k (S_icmp_ne cx (off := 18) (by decide +kernel) (by decide)) ?_
  refine z_k (S_aload_n cx (k := 0) (by decide +kernel) rfl) ?_
  refine z_k (S_aload_n cx (k := 0) (by decide +kernel) rfl) ?_
  refine z_k (S_getf cx (T := F_Ag) (N := 12) (k := 0) rfl in_Ag (by decide) rfl w_135 (by decide +kernel)) ?_
  refine z_k (S_iload_n cx (k := 3) (by decide +kernel) rfl) ?_
  refine z_k (S_callV cx (T := F_Te) (N := 11) (r := r_Te_valueOf) rfl ⟨w_368, w_2, by decide, by decide +kernel⟩ w_423 w_366 w_367 rfl (by decide +kernel)) ?_
  exact z_k0
set_option maxRecDepth 100000 in
set_option maxHeartbeats 4000000 in
theorem s_Ag_readKey_1 (cx : z_cx zTab g d p l e R s m args below meth c prog_2_method_11_code "SealedTalks$Agreement" 4) (hn : meth.name = "readKey") (hf : z_fin g p l e R s m args below meth c Q prog_2_method_11_code P (some .boolean)) : ∀ x ∈ k_Ag_readKey_1, z_sn zTab g d p l e R s m args below meth c Q 4 P x := by
  unfold k_Ag_readKey_1
  refine z_k (S_putf cx (T := F_Ag) (N := 12) (k := 6) (ty := t_Ag) rfl in_Ag t_Ag_ok n_Ag (by decide) rfl w_143 rfl (Or.inl ⟨rfl, rfl⟩) (by decide +kernel)) ?_
  refine z_k (S_goto cx (off := 15) (by decide +kernel) (by decide)) ?_
  refine z_k (S_aload_n cx (k := 0) (by decide +kernel) rfl) ?_
  refine z_k (S_aload_n cx (k := 0) (by decide +kernel) rfl) ?_
  refine z_k (S_getf cx (T := F_Ag) (N := 12) (k := 0) rfl in_Ag (by decide) rfl w_135 (by decide +kernel)) ?_
  refine z_k (S_iload_n cx (k := 3) (by decide +kernel) rfl) ?_
  refine z_k (S_callV cx (T := F_Te) (N := 11) (r := r_Te_valueOf) rfl ⟨w_368, w_2, by decide, by decide +kernel⟩ w_423 w_366 w_367 rfl (by decide +kernel)) ?_
  refine z_k (S_putf cx (T := F_Ag) (N := 12) (k := 5) (ty := t_Ag) rfl in_Ag t_Ag_ok n_Ag (by decide) rfl w_141 rfl (Or.inl ⟨rfl, rfl⟩) (by decide +kernel)) ?_
  refine z_k (S_aload_n cx (k := 0) (by decide +kernel) rfl) ?_
  refine z_k (S_aload_n cx (k := 0) (by decide +kernel) rfl) ?_
  refine z_k (S_getf cx (T := F_Ag) (N := 12) (k := 0) rfl in_Ag (by decide) rfl w_135 (by decide +kernel)) ?_
  refine z_k (S_aload_n cx (k := 0) (by decide +kernel) rfl) ?_
  refine z_k (S_getf cx (T := F_Ag) (N := 12) (k := 7) rfl in_Ag (by decide) rfl w_144 (by decide +kernel)) ?_
  refine z_k (S_iload_n cx (k := 2) (by decide +kernel) rfl) ?_
  refine z_k (S_callV cx (T := F_Te) (N := 11) (r := r_Te_hash) rfl ⟨w_228, w_2, by decide, by decide +kernel⟩ w_225 w_226 w_227 rfl (by decide +kernel)) ?_
  refine z_k (S_putf cx (T := F_Ag) (N := 12) (k := 7) (ty := t_Ag) rfl in_Ag t_Ag_ok n_Ag (by decide) rfl w_144 rfl (Or.inl ⟨rfl, rfl⟩) (by decide +kernel)) ?_
  refine z_k (S_push cx (n := 1) (by decide +kernel) (by decide)) ?_
  refine z_k (S_zret (hf.2.2.1 rfl) (by decide +kernel)) ?_
  exact z_k0
theorem s_Ag_readKey : z_snd zTab r_Ag_readKey := ⟨by decide +kernel, w_412, fun g d p l e R s m args below meth c Q P cx hn hf => z_k (s_Ag_readKey_0 cx hn hf) (z_k (s_Ag_readKey_1 cx hn hf) (z_k0))⟩
set_option maxRecDepth 100000 in
set_option maxHeartbeats 4000000 in
theorem s_Ag_closedUp_0 (cx : z_cx zTab g d p l e R s m args below meth c prog_2_method_12_code "SealedTalks$Agreement" 2) (hn : meth.name = "closedUp") (hf : z_fin g p l e R s m args below meth c Q prog_2_method_12_code P (some .int)) : ∀ x ∈ k_Ag_closedUp_0, z_sn zTab g d p l e R s m args below meth c Q 2 P x := by
  unfold k_Ag_closedUp_0
  refine z_k (S_aload_n cx (k := 0) (by decide +kernel) rfl) ?_
  refine z_k (S_getf cx (T := F_Ag) (N := 12) (k := 9) rfl in_Ag (by decide) rfl w_147 (by decide +kernel)) ?_
  refine z_k (S_if_ne cx (off := 5) (by decide +kernel) (by decide)) ?_
  refine z_k (S_iload_n cx (k := 1) (by decide +kernel) rfl) ?_
  refine z_k (S_iret (hf.2.1 rfl) (by decide +kernel)) ?_
  refine z_k (S_aload_n cx (k := 0) (by decide +kernel) rfl) ?_
  refine z_k (S_dup cx (by decide +kernel)) ?_
  refine z_k (S_getf cx (T := F_Ag) (N := 12) (k := 10) rfl in_Ag (by decide) rfl w_148 (by decide +kernel)) ?_
  refine z_k (S_push cx (n := 1) (by decide +kernel) (by decide)) ?_
  refine z_k (S_iadd cx (by decide +kernel)) ?_
  refine z_k (S_putf cx (T := F_Ag) (N := 12) (k := 10) (ty := t_Ag) rfl in_Ag t_Ag_ok n_Ag (by decide) rfl w_148 rfl (Or.inl ⟨rfl, rfl⟩) (by decide +kernel)) ?_
  refine z_k (S_aload_n cx (k := 0) (by decide +kernel) rfl) ?_
  refine z_k (S_getf cx (T := F_Ag) (N := 12) (k := 0) rfl in_Ag (by decide) rfl w_135 (by decide +kernel)) ?_
  refine z_k (S_aload_n cx (k := 0) (by decide +kernel) rfl) ?_
  refine z_k (S_getf cx (T := F_Ag) (N := 12) (k := 9) rfl in_Ag (by decide) rfl w_147 (by decide +kernel)) ?_
  refine z_k (S_aload_n cx (k := 0) (by decide +kernel) rfl) ?_
  refine z_k (S_getf cx (T := F_Ag) (N := 12) (k := 10) rfl in_Ag (by decide) rfl w_148 (by decide +kernel)) ?_
  refine z_k (S_push cx (n := 1) (by decide +kernel) (by decide)) ?_
  refine z_k (S_isub cx (by decide +kernel)) ?_
  refine z_k (S_aload_n cx (k := 0) (by decide +kernel) rfl) ?_
  refine z_k (S_getf cx (T := F_Ag) (N := 12) (k := 7) rfl in_Ag (by decide) rfl w_144 (by decide +kernel)) ?_
  refine z_k (S_iload_n cx (k := 1) (by decide +kernel) rfl) ?_
  refine z_k (S_callV cx (T := F_Te) (N := 11) (r := r_Te_seal) rfl ⟨w_287, w_2, by decide, by decide +kernel⟩ w_284 w_285 w_286 rfl (by decide +kernel)) ?_
  refine z_k (S_iret (hf.2.1 rfl) (by decide +kernel)) ?_
  exact z_k0
theorem s_Ag_closedUp : z_snd zTab r_Ag_closedUp := ⟨by decide +kernel, w_283, fun g d p l e R s m args below meth c Q P cx hn hf => z_k (s_Ag_closedUp_0 cx hn hf) (z_k0)⟩
set_option maxRecDepth 100000 in
set_option maxHeartbeats 4000000 in
theorem s_Ag_openedUp_0 (cx : z_cx zTab g d p l e R s m args below meth c prog_2_method_13_code "SealedTalks$Agreement" 2) (hn : meth.name = "openedUp") (hf : z_fin g p l e R s m args below meth c Q prog_2_method_13_code P (some .int)) : ∀ x ∈ k_Ag_openedUp_0, z_sn zTab g d p l e R s m args below meth c Q 2 P x := by
  unfold k_Ag_openedUp_0
  refine z_k (S_aload_n cx (k := 0) (by decide +kernel) rfl) ?_
  refine z_k (S_getf cx (T := F_Ag) (N := 12) (k := 9) rfl in_Ag (by decide) rfl w_147 (by decide +kernel)) ?_
  refine z_k (S_if_ne cx (off := 5) (by decide +kernel) (by decide)) ?_
  refine z_k (S_iload_n cx (k := 1) (by decide +kernel) rfl) ?_
  refine z_k (S_iret (hf.2.1 rfl) (by decide +kernel)) ?_
  refine z_k (S_aload_n cx (k := 0) (by decide +kernel) rfl) ?_
  refine z_k (S_getf cx (T := F_Ag) (N := 12) (k := 0) rfl in_Ag (by decide) rfl w_135 (by decide +kernel)) ?_
  refine z_k (S_iload_n cx (k := 1) (by decide +kernel) rfl) ?_
  refine z_k (S_aload_n cx (k := 0) (by decide +kernel) rfl) ?_
  refine z_k (S_getf cx (T := F_Ag) (N := 12) (k := 9) rfl in_Ag (by decide) rfl w_147 (by decide +kernel)) ?_
  refine z_k (S_aload_n cx (k := 0) (by decide +kernel) rfl) ?_
  refine z_k (S_getf cx (T := F_Ag) (N := 12) (k := 10) rfl in_Ag (by decide) rfl w_148 (by decide +kernel)) ?_
  refine z_k (S_aload_n cx (k := 0) (by decide +kernel) rfl) ?_
  refine z_k (S_getf cx (T := F_Ag) (N := 12) (k := 7) rfl in_Ag (by decide) rfl w_144 (by decide +kernel)) ?_
  refine z_k (S_callV cx (T := F_Te) (N := 11) (r := r_Te_isSealOf) rfl ⟨w_376, w_2, by decide, by decide +kernel⟩ w_417 w_374 w_375 rfl (by decide +kernel)) ?_
  refine z_k (S_if_ne cx (off := 5) (by decide +kernel) (by decide)) ?_
  refine z_k (S_push cx (n := 0) (by decide +kernel) (by decide)) ?_
  refine z_k (S_iret (hf.2.1 rfl) (by decide +kernel)) ?_
  refine z_k (S_aload_n cx (k := 0) (by decide +kernel) rfl) ?_
  refine z_k (S_dup cx (by decide +kernel)) ?_
  refine z_k (S_getf cx (T := F_Ag) (N := 12) (k := 10) rfl in_Ag (by decide) rfl w_148 (by decide +kernel)) ?_
  refine z_k (S_push cx (n := 1) (by decide +kernel) (by decide)) ?_
  refine z_k (S_iadd cx (by decide +kernel)) ?_
  refine z_k (S_putf cx (T := F_Ag) (N := 12) (k := 10) (ty := t_Ag) rfl in_Ag t_Ag_ok n_Ag (by decide) rfl w_148 rfl (Or.inl ⟨rfl, rfl⟩) (by decide +kernel)) ?_
  exact z_k0
set_option maxRecDepth 100000 in
set_option maxHeartbeats 4000000 in
theorem s_Ag_openedUp_1 (cx : z_cx zTab g d p l e R s m args below meth c prog_2_method_13_code "SealedTalks$Agreement" 2) (hn : meth.name = "openedUp") (hf : z_fin g p l e R s m args below meth c Q prog_2_method_13_code P (some .int)) : ∀ x ∈ k_Ag_openedUp_1, z_sn zTab g d p l e R s m args below meth c Q 2 P x := by
  unfold k_Ag_openedUp_1
  refine z_k (S_aload_n cx (k := 0) (by decide +kernel) rfl) ?_
  refine z_k (S_getf cx (T := F_Ag) (N := 12) (k := 0) rfl in_Ag (by decide) rfl w_135 (by decide +kernel)) ?_
  refine z_k (S_iload_n cx (k := 1) (by decide +kernel) rfl) ?_
  refine z_k (S_callV cx (T := F_Te) (N := 11) (r := r_Te_insideOf) rfl ⟨w_384, w_2, by decide, by decide +kernel⟩ w_418 w_382 w_383 rfl (by decide +kernel)) ?_
  refine z_k (S_iret (hf.2.1 rfl) (by decide +kernel)) ?_
  exact z_k0
theorem s_Ag_openedUp : z_snd zTab r_Ag_openedUp := ⟨by decide +kernel, w_416, fun g d p l e R s m args below meth c Q P cx hn hf => z_k (s_Ag_openedUp_0 cx hn hf) (z_k (s_Ag_openedUp_1 cx hn hf) (z_k0))⟩
set_option maxRecDepth 100000 in
set_option maxHeartbeats 4000000 in
theorem s_Ag_mixKeys_0 (cx : z_cx zTab g d p l e R s m args below meth c prog_2_method_14_code "SealedTalks$Agreement" 5) (hn : meth.name = "mixKeys") (hf : z_fin g p l e R s m args below meth c Q prog_2_method_14_code P none) : ∀ x ∈ k_Ag_mixKeys_0, z_sn zTab g d p l e R s m args below meth c Q 5 P x := by
  unfold k_Ag_mixKeys_0
  refine z_k (S_iload_n cx (k := 1) (by decide +kernel) rfl) ?_
  refine z_k (S_push cx (n := 3) (by decide +kernel) (by decide)) ?_
  refine z_k (S_icmp_eq cx (off := 19) (by decide +kernel) (by decide)) ?_
  refine z_k (S_iload_n cx (k := 1) (by decide +kernel) rfl) ?_
  refine z_k (S_aload_n cx (k := 0) (by decide +kernel) rfl) ?_
  refine z_k (S_getf cx (T := F_Ag) (N := 12) (k := 2) rfl in_Ag (by decide) rfl w_137 (by decide +kernel)) ?_
  refine z_k (S_if_eq cx (off := 7) (by decide +kernel) (by decide)) ?_
  refine z_k (S_push cx (n := 4) (by decide +kernel) (by decide)) ?_
  refine z_k (S_goto cx (off := 4) (by decide +kernel) (by decide)) ?_
  refine z_k (S_push cx (n := 5) (by decide +kernel) (by decide)) ?_
  refine z_k (S_icmp_ne cx (off := 7) (by decide +kernel) (by decide)) ?_
  refine z_k (S_push cx (n := 1) (by decide +kernel) (by decide)) ?_
  refine z_k (S_goto cx (off := 4) (by decide +kernel) (by decide)) ?_
  refine z_k (S_push cx (n := 0) (by decide +kernel) (by decide)) ?_
  refine z_k (S_istore_n cx (by decide) (k := 2) (by decide +kernel) rfl) ?_
  refine z_k (S_iload_n cx (k := 1) (by decide +kernel) rfl) ?_
  refine z_k (S_push cx (n := 3) (by decide +kernel) (by decide)) ?_
  refine z_k (S_icmp_eq cx (off := 19) (by decide +kernel) (by decide)) ?_
  refine z_k (S_iload_n cx (k := 1) (by decide +kernel) rfl) ?_
  refine z_k (S_aload_n cx (k := 0) (by decide +kernel) rfl) ?_
  refine z_k (S_getf cx (T := F_Ag) (N := 12) (k := 2) rfl in_Ag (by decide) rfl w_137 (by decide +kernel)) ?_
  refine z_k (S_if_eq cx (off := 7) (by decide +kernel) (by decide)) ?_
  refine z_k (S_push cx (n := 5) (by decide +kernel) (by decide)) ?_
  refine z_k (S_goto cx (off := 4) (by decide +kernel) (by decide)) ?_
  exact z_k0
set_option maxRecDepth 100000 in
set_option maxHeartbeats 4000000 in
theorem s_Ag_mixKeys_1 (cx : z_cx zTab g d p l e R s m args below meth c prog_2_method_14_code "SealedTalks$Agreement" 5) (hn : meth.name = "mixKeys") (hf : z_fin g p l e R s m args below meth c Q prog_2_method_14_code P none) : ∀ x ∈ k_Ag_mixKeys_1, z_sn zTab g d p l e R s m args below meth c Q 5 P x := by
  unfold k_Ag_mixKeys_1
  refine z_k (S_push cx (n := 4) (by decide +kernel) (by decide)) ?_
  refine z_k (S_icmp_ne cx (off := 7) (by decide +kernel) (by decide)) ?_
  refine z_k (S_push cx (n := 1) (by decide +kernel) (by decide)) ?_
  refine z_k (S_goto cx (off := 4) (by decide +kernel) (by decide)) ?_
  refine z_k (S_push cx (n := 0) (by decide +kernel) (by decide)) ?_
  refine z_k (S_istore_n cx (by decide) (k := 3) (by decide +kernel) rfl) ?_
  refine z_k (S_aload_n cx (k := 0) (by decide +kernel) rfl) ?_
  refine z_k (S_getf cx (T := F_Ag) (N := 12) (k := 0) rfl in_Ag (by decide) rfl w_135 (by decide +kernel)) ?_
  refine z_k (S_iload_n cx (k := 2) (by decide +kernel) rfl) ?_
  refine z_k (S_if_eq cx (off := 10) (by decide +kernel) (by decide)) ?_
  refine z_k (S_aload_n cx (k := 0) (by decide +kernel) rfl) ?_
  refine z_k (S_getf cx (T := F_Ag) (N := 12) (k := 4) rfl in_Ag (by decide) rfl w_140 (by decide +kernel)) ?_
  refine z_k (S_goto cx (off := 7) (by decide +kernel) (by decide)) ?_
  refine z_k (S_aload_n cx (k := 0) (by decide +kernel) rfl) ?_
  refine z_k (S_getf cx (T := F_Ag) (N := 12) (k := 3) rfl in_Ag (by decide) rfl w_139 (by decide +kernel)) ?_
  refine z_k (S_iload_n cx (k := 3) (by decide +kernel) rfl) ?_
  refine z_k (S_if_eq cx (off := 10) (by decide +kernel) (by decide)) ?_
  refine z_k (S_aload_n cx (k := 0) (by decide +kernel) rfl) ?_
  refine z_k (S_getf cx (T := F_Ag) (N := 12) (k := 6) rfl in_Ag (by decide) rfl w_143 (by decide +kernel)) ?_
  refine z_k (S_goto cx (off := 7) (by decide +kernel) (by decide)) ?_
  refine z_k (S_aload_n cx (k := 0) (by decide +kernel) rfl) ?_
  refine z_k (S_getf cx (T := F_Ag) (N := 12) (k := 5) rfl in_Ag (by decide) rfl w_141 (by decide +kernel)) ?_
  refine z_k (S_callV cx (T := F_Te) (N := 11) (r := r_Te_dh) rfl ⟨w_295, w_2, by decide, by decide +kernel⟩ w_292 w_293 w_294 rfl (by decide +kernel)) ?_
  refine z_k (S_istore cx (by decide) (by decide +kernel)) ?_
  exact z_k0
set_option maxRecDepth 100000 in
set_option maxHeartbeats 4000000 in
theorem s_Ag_mixKeys_2 (cx : z_cx zTab g d p l e R s m args below meth c prog_2_method_14_code "SealedTalks$Agreement" 5) (hn : meth.name = "mixKeys") (hf : z_fin g p l e R s m args below meth c Q prog_2_method_14_code P none) : ∀ x ∈ k_Ag_mixKeys_2, z_sn zTab g d p l e R s m args below meth c Q 5 P x := by
  unfold k_Ag_mixKeys_2
  refine z_k (S_aload_n cx (k := 0) (by decide +kernel) rfl) ?_
  refine z_k (S_aload_n cx (k := 0) (by decide +kernel) rfl) ?_
  refine z_k (S_getf cx (T := F_Ag) (N := 12) (k := 0) rfl in_Ag (by decide) rfl w_135 (by decide +kernel)) ?_
  refine z_k (S_aload_n cx (k := 0) (by decide +kernel) rfl) ?_
  refine z_k (S_getf cx (T := F_Ag) (N := 12) (k := 8) rfl in_Ag (by decide) rfl w_145 (by decide +kernel)) ?_
  refine z_k (S_iload cx (by decide +kernel)) ?_
  refine z_k (S_callV cx (T := F_Te) (N := 11) (r := r_Te_key) rfl ⟨w_305, w_2, by decide, by decide +kernel⟩ w_302 w_303 w_304 rfl (by decide +kernel)) ?_
  refine z_k (S_putf cx (T := F_Ag) (N := 12) (k := 9) (ty := t_Ag) rfl in_Ag t_Ag_ok n_Ag (by decide) rfl w_147 rfl (Or.inl ⟨rfl, rfl⟩) (by decide +kernel)) ?_
  refine z_k (S_aload_n cx (k := 0) (by decide +kernel) rfl) ?_
  refine z_k (S_aload_n cx (k := 0) (by decide +kernel) rfl) ?_
  refine z_k (S_getf cx (T := F_Ag) (N := 12) (k := 0) rfl in_Ag (by decide) rfl w_135 (by decide +kernel)) ?_
  refine z_k (S_aload_n cx (k := 0) (by decide +kernel) rfl) ?_
  refine z_k (S_getf cx (T := F_Ag) (N := 12) (k := 8) rfl in_Ag (by decide) rfl w_145 (by decide +kernel)) ?_
  refine z_k (S_iload cx (by decide +kernel)) ?_
  refine z_k (S_callV cx (T := F_Te) (N := 11) (r := r_Te_chain) rfl ⟨w_309, w_2, by decide, by decide +kernel⟩ w_306 w_307 w_308 rfl (by decide +kernel)) ?_
  refine z_k (S_putf cx (T := F_Ag) (N := 12) (k := 8) (ty := t_Ag) rfl in_Ag t_Ag_ok n_Ag (by decide) rfl w_145 rfl (Or.inl ⟨rfl, rfl⟩) (by decide +kernel)) ?_
  refine z_k (S_aload_n cx (k := 0) (by decide +kernel) rfl) ?_
  refine z_k (S_push cx (n := 0) (by decide +kernel) (by decide)) ?_
  refine z_k (S_putf cx (T := F_Ag) (N := 12) (k := 10) (ty := t_Ag) rfl in_Ag t_Ag_ok n_Ag (by decide) rfl w_148 rfl (Or.inl ⟨rfl, rfl⟩) (by decide +kernel)) ?_
  refine z_k (S_vret (hf.1 rfl) (by decide +kernel)) ?_
  exact z_k0
theorem s_Ag_mixKeys : z_snd zTab r_Ag_mixKeys := ⟨by decide +kernel, w_291, fun g d p l e R s m args below meth c Q P cx hn hf => z_k (s_Ag_mixKeys_0 cx hn hf) (z_k (s_Ag_mixKeys_1 cx hn hf) (z_k (s_Ag_mixKeys_2 cx hn hf) (z_k0)))⟩
end ZR00
