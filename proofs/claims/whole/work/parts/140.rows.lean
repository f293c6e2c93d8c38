/-! Each method of SealedTalksModel is sound (0). By program. -/
section ZR40
variable {g : zG} {d : Nat} {p : Program} {l : Launch} {e : Env} {R : Room} {s : State} {m : MethodId} {args : Array Value} {below : List Frame} {meth : Method} {c : Code} {Q : State → Prop} {P : zP}
set_option maxRecDepth 100000 in
set_option maxHeartbeats 4000000 in
theorem s_Mo_init_0 (cx : z_cx zTab g d p l e R s m args below meth c prog_8_method_1_code "SealedTalksModel" 1) (hn : meth.name = "<init>") (hf : z_fin g p l e R s m args below meth c Q prog_8_method_1_code P none) : ∀ x ∈ k_Mo_init_0, z_sn zTab g d p l e R s m args below meth c Q 1 P x := by
  unfold k_Mo_init_0
  refine z_k (S_aload_n cx (k := 0) (by decide +kernel) rfl) ?_
  refine z_k (S_oini cx w_527 w_15 w_16 (by decide +kernel)) ?_
  refine z_k (S_aload_n cx (k := 0) (by decide +kernel) rfl) ?_
  refine z_k (S_sipush cx (n := 1200) (by decide +kernel) (by decide)) ?_
  refine z_k (S_newa cx (kd := 2) (at0 := .byte) (ty := .byte) rfl rfl w_658 (by decide) rfl (fun _ _ h => h) (by decide +kernel)) ?_
  refine z_k (S_putf cx (T := F_Mo) (N := 43) (k := 1) (ty := t_Mo) rfl in_Mo t_Mo_ok n_Mo (by decide) rfl w_529 rfl (Or.inr (Or.inr ⟨rfl, Or.inr ⟨_, rfl⟩⟩)) (by decide +kernel)) ?_
  refine z_k (S_aload_n cx (k := 0) (by decide +kernel) rfl) ?_
  refine z_k (S_sipush cx (n := 1200) (by decide +kernel) (by decide)) ?_
  refine z_k (S_newa cx (kd := 0) (at0 := .int) (ty := .int) rfl rfl w_57 (by decide) rfl (fun _ _ h => h) (by decide +kernel)) ?_
  refine z_k (S_putf cx (T := F_Mo) (N := 43) (k := 2) (ty := t_Mo) rfl in_Mo t_Mo_ok n_Mo (by decide) rfl w_530 rfl (Or.inr (Or.inr ⟨rfl, Or.inr ⟨_, rfl⟩⟩)) (by decide +kernel)) ?_
  refine z_k (S_aload_n cx (k := 0) (by decide +kernel) rfl) ?_
  refine z_k (S_sipush cx (n := 1200) (by decide +kernel) (by decide)) ?_
  refine z_k (S_newa cx (kd := 3) (at0 := .short) (ty := .short) rfl rfl w_659 (by decide) rfl (fun _ _ h => h) (by decide +kernel)) ?_
  refine z_k (S_putf cx (T := F_Mo) (N := 43) (k := 3) (ty := t_Mo) rfl in_Mo t_Mo_ok n_Mo (by decide) rfl w_531 rfl (Or.inr (Or.inr ⟨rfl, Or.inr ⟨_, rfl⟩⟩)) (by decide +kernel)) ?_
  refine z_k (S_aload_n cx (k := 0) (by decide +kernel) rfl) ?_
  refine z_k (S_sipush cx (n := 1200) (by decide +kernel) (by decide)) ?_
  refine z_k (S_newa cx (kd := 3) (at0 := .short) (ty := .short) rfl rfl w_659 (by decide) rfl (fun _ _ h => h) (by decide +kernel)) ?_
  refine z_k (S_putf cx (T := F_Mo) (N := 43) (k := 4) (ty := t_Mo) rfl in_Mo t_Mo_ok n_Mo (by decide) rfl w_532 rfl (Or.inr (Or.inr ⟨rfl, Or.inr ⟨_, rfl⟩⟩)) (by decide +kernel)) ?_
  refine z_k (S_aload_n cx (k := 0) (by decide +kernel) rfl) ?_
  refine z_k (S_sipush cx (n := 1200) (by decide +kernel) (by decide)) ?_
  refine z_k (S_newa cx (kd := 3) (at0 := .short) (ty := .short) rfl rfl w_659 (by decide) rfl (fun _ _ h => h) (by decide +kernel)) ?_
  refine z_k (S_putf cx (T := F_Mo) (N := 43) (k := 5) (ty := t_Mo) rfl in_Mo t_Mo_ok n_Mo (by decide) rfl w_533 rfl (Or.inr (Or.inr ⟨rfl, Or.inr ⟨_, rfl⟩⟩)) (by decide +kernel)) ?_
  refine z_k (S_aload_n cx (k := 0) (by decide +kernel) rfl) ?_
  refine z_k (S_sipush cx (n := 1200) (by decide +kernel) (by decide)) ?_
  exact z_k0
set_option maxRecDepth 100000 in
set_option maxHeartbeats 4000000 in
theorem s_Mo_init_1 (cx : z_cx zTab g d p l e R s m args below meth c prog_8_method_1_code "SealedTalksModel" 1) (hn : meth.name = "<init>") (hf : z_fin g p l e R s m args below meth c Q prog_8_method_1_code P none) : ∀ x ∈ k_Mo_init_1, z_sn zTab g d p l e R s m args below meth c Q 1 P x := by
  unfold k_Mo_init_1
  refine z_k (S_newa cx (kd := 1) (at0 := .boolean) (ty := .boolean) rfl rfl w_58 (by decide) rfl (fun _ _ h => h) (by decide +kernel)) ?_
  refine z_k (S_putf cx (T := F_Mo) (N := 43) (k := 6) (ty := t_Mo) rfl in_Mo t_Mo_ok n_Mo (by decide) rfl w_534 rfl (Or.inr (Or.inr ⟨rfl, Or.inr ⟨_, rfl⟩⟩)) (by decide +kernel)) ?_
  refine z_k (S_aload_n cx (k := 0) (by decide +kernel) rfl) ?_
  refine z_k (S_bipush cx (n := 60) (by decide +kernel) (by decide)) ?_
  refine z_k (S_newa cx (kd := 0) (at0 := .int) (ty := .int) rfl rfl w_57 (by decide) rfl (fun _ _ h => h) (by decide +kernel)) ?_
  refine z_k (S_putf cx (T := F_Mo) (N := 43) (k := 8) (ty := t_Mo) rfl in_Mo t_Mo_ok n_Mo (by decide) rfl w_536 rfl (Or.inr (Or.inr ⟨rfl, Or.inr ⟨_, rfl⟩⟩)) (by decide +kernel)) ?_
  refine z_k (S_aload_n cx (k := 0) (by decide +kernel) rfl) ?_
  refine z_k (S_sipush cx (n := 180) (by decide +kernel) (by decide)) ?_
  refine z_k (S_newa cx (kd := 0) (at0 := .int) (ty := .int) rfl rfl w_57 (by decide) rfl (fun _ _ h => h) (by decide +kernel)) ?_
  refine z_k (S_putf cx (T := F_Mo) (N := 43) (k := 9) (ty := t_Mo) rfl in_Mo t_Mo_ok n_Mo (by decide) rfl w_537 rfl (Or.inr (Or.inr ⟨rfl, Or.inr ⟨_, rfl⟩⟩)) (by decide +kernel)) ?_
  refine z_k (S_aload_n cx (k := 0) (by decide +kernel) rfl) ?_
  refine z_k (S_bipush cx (n := 40) (by decide +kernel) (by decide)) ?_
  refine z_k (S_newa cx (kd := 1) (at0 := .boolean) (ty := .boolean) rfl rfl w_58 (by decide) rfl (fun _ _ h => h) (by decide +kernel)) ?_
  refine z_k (S_putf cx (T := F_Mo) (N := 43) (k := 11) (ty := t_Mo) rfl in_Mo t_Mo_ok n_Mo (by decide) rfl w_539 rfl (Or.inr (Or.inr ⟨rfl, Or.inr ⟨_, rfl⟩⟩)) (by decide +kernel)) ?_
  refine z_k (S_aload_n cx (k := 0) (by decide +kernel) rfl) ?_
  refine z_k (S_bipush cx (n := 12) (by decide +kernel) (by decide)) ?_
  refine z_k (S_newa cx (kd := 0) (at0 := .int) (ty := .int) rfl rfl w_57 (by decide) rfl (fun _ _ h => h) (by decide +kernel)) ?_
  refine z_k (S_putf cx (T := F_Mo) (N := 43) (k := 13) (ty := t_Mo) rfl in_Mo t_Mo_ok n_Mo (by decide) rfl w_541 rfl (Or.inr (Or.inr ⟨rfl, Or.inr ⟨_, rfl⟩⟩)) (by decide +kernel)) ?_
  refine z_k (S_aload_n cx (k := 0) (by decide +kernel) rfl) ?_
  refine z_k (S_bipush cx (n := 12) (by decide +kernel) (by decide)) ?_
  refine z_k (S_newa cx (kd := 1) (at0 := .boolean) (ty := .boolean) rfl rfl w_58 (by decide) rfl (fun _ _ h => h) (by decide +kernel)) ?_
  refine z_k (S_putf cx (T := F_Mo) (N := 43) (k := 14) (ty := t_Mo) rfl in_Mo t_Mo_ok n_Mo (by decide) rfl w_542 rfl (Or.inr (Or.inr ⟨rfl, Or.inr ⟨_, rfl⟩⟩)) (by decide +kernel)) ?_
  refine z_k (S_aload_n cx (k := 0) (by decide +kernel) rfl) ?_
  refine z_k (S_bipush cx (n := 12) (by decide +kernel) (by decide)) ?_
  exact z_k0
set_option maxRecDepth 100000 in
set_option maxHeartbeats 4000000 in
theorem s_Mo_init_2 (cx : z_cx zTab g d p l e R s m args below meth c prog_8_method_1_code "SealedTalksModel" 1) (hn : meth.name = "<init>") (hf : z_fin g p l e R s m args below meth c Q prog_8_method_1_code P none) : ∀ x ∈ k_Mo_init_2, z_sn zTab g d p l e R s m args below meth c Q 1 P x := by
  unfold k_Mo_init_2
  refine z_k (S_newa cx (kd := 0) (at0 := .int) (ty := .int) rfl rfl w_57 (by decide) rfl (fun _ _ h => h) (by decide +kernel)) ?_
  refine z_k (S_putf cx (T := F_Mo) (N := 43) (k := 15) (ty := t_Mo) rfl in_Mo t_Mo_ok n_Mo (by decide) rfl w_543 rfl (Or.inr (Or.inr ⟨rfl, Or.inr ⟨_, rfl⟩⟩)) (by decide +kernel)) ?_
  refine z_k (S_aload_n cx (k := 0) (by decide +kernel) rfl) ?_
  refine z_k (S_bipush cx (n := 12) (by decide +kernel) (by decide)) ?_
  refine z_k (S_newa cx (kd := 0) (at0 := .int) (ty := .int) rfl rfl w_57 (by decide) rfl (fun _ _ h => h) (by decide +kernel)) ?_
  refine z_k (S_putf cx (T := F_Mo) (N := 43) (k := 16) (ty := t_Mo) rfl in_Mo t_Mo_ok n_Mo (by decide) rfl w_544 rfl (Or.inr (Or.inr ⟨rfl, Or.inr ⟨_, rfl⟩⟩)) (by decide +kernel)) ?_
  refine z_k (S_aload_n cx (k := 0) (by decide +kernel) rfl) ?_
  refine z_k (S_bipush cx (n := 12) (by decide +kernel) (by decide)) ?_
  refine z_k (S_newa cx (kd := 0) (at0 := .int) (ty := .int) rfl rfl w_57 (by decide) rfl (fun _ _ h => h) (by decide +kernel)) ?_
  refine z_k (S_putf cx (T := F_Mo) (N := 43) (k := 17) (ty := t_Mo) rfl in_Mo t_Mo_ok n_Mo (by decide) rfl w_545 rfl (Or.inr (Or.inr ⟨rfl, Or.inr ⟨_, rfl⟩⟩)) (by decide +kernel)) ?_
  refine z_k (S_aload_n cx (k := 0) (by decide +kernel) rfl) ?_
  refine z_k (S_bipush cx (n := 12) (by decide +kernel) (by decide)) ?_
  refine z_k (S_newa cx (kd := 0) (at0 := .int) (ty := .int) rfl rfl w_57 (by decide) rfl (fun _ _ h => h) (by decide +kernel)) ?_
  refine z_k (S_putf cx (T := F_Mo) (N := 43) (k := 18) (ty := t_Mo) rfl in_Mo t_Mo_ok n_Mo (by decide) rfl w_546 rfl (Or.inr (Or.inr ⟨rfl, Or.inr ⟨_, rfl⟩⟩)) (by decide +kernel)) ?_
  refine z_k (S_aload_n cx (k := 0) (by decide +kernel) rfl) ?_
  refine z_k (S_bipush cx (n := 12) (by decide +kernel) (by decide)) ?_
  refine z_k (S_newa cx (kd := 0) (at0 := .int) (ty := .int) rfl rfl w_57 (by decide) rfl (fun _ _ h => h) (by decide +kernel)) ?_
  refine z_k (S_putf cx (T := F_Mo) (N := 43) (k := 19) (ty := t_Mo) rfl in_Mo t_Mo_ok n_Mo (by decide) rfl w_547 rfl (Or.inr (Or.inr ⟨rfl, Or.inr ⟨_, rfl⟩⟩)) (by decide +kernel)) ?_
  refine z_k (S_aload_n cx (k := 0) (by decide +kernel) rfl) ?_
  refine z_k (S_bipush cx (n := 12) (by decide +kernel) (by decide)) ?_
  refine z_k (S_newa cx (kd := 0) (at0 := .int) (ty := .int) rfl rfl w_57 (by decide) rfl (fun _ _ h => h) (by decide +kernel)) ?_
  refine z_k (S_putf cx (T := F_Mo) (N := 43) (k := 20) (ty := t_Mo) rfl in_Mo t_Mo_ok n_Mo (by decide) rfl w_548 rfl (Or.inr (Or.inr ⟨rfl, Or.inr ⟨_, rfl⟩⟩)) (by decide +kernel)) ?_
  refine z_k (S_aload_n cx (k := 0) (by decide +kernel) rfl) ?_
  refine z_k (S_bipush cx (n := 12) (by decide +kernel) (by decide)) ?_
  exact z_k0
set_option maxRecDepth 100000 in
set_option maxHeartbeats 4000000 in
theorem s_Mo_init_3 (cx : z_cx zTab g d p l e R s m args below meth c prog_8_method_1_code "SealedTalksModel" 1) (hn : meth.name = "<init>") (hf : z_fin g p l e R s m args below meth c Q prog_8_method_1_code P none) : ∀ x ∈ k_Mo_init_3, z_sn zTab g d p l e R s m args below meth c Q 1 P x := by
  unfold k_Mo_init_3
  refine z_k (S_newa cx (kd := 0) (at0 := .int) (ty := .int) rfl rfl w_57 (by decide) rfl (fun _ _ h => h) (by decide +kernel)) ?_
  refine z_k (S_putf cx (T := F_Mo) (N := 43) (k := 21) (ty := t_Mo) rfl in_Mo t_Mo_ok n_Mo (by decide) rfl w_549 rfl (Or.inr (Or.inr ⟨rfl, Or.inr ⟨_, rfl⟩⟩)) (by decide +kernel)) ?_
  refine z_k (S_aload_n cx (k := 0) (by decide +kernel) rfl) ?_
  refine z_k (S_bipush cx (n := 12) (by decide +kernel) (by decide)) ?_
  refine z_k (S_newa cx (kd := 0) (at0 := .int) (ty := .int) rfl rfl w_57 (by decide) rfl (fun _ _ h => h) (by decide +kernel)) ?_
  refine z_k (S_putf cx (T := F_Mo) (N := 43) (k := 22) (ty := t_Mo) rfl in_Mo t_Mo_ok n_Mo (by decide) rfl w_550 rfl (Or.inr (Or.inr ⟨rfl, Or.inr ⟨_, rfl⟩⟩)) (by decide +kernel)) ?_
  refine z_k (S_aload_n cx (k := 0) (by decide +kernel) rfl) ?_
  refine z_k (S_bipush cx (n := 12) (by decide +kernel) (by decide)) ?_
  refine z_k (S_newa cx (kd := 0) (at0 := .int) (ty := .int) rfl rfl w_57 (by decide) rfl (fun _ _ h => h) (by decide +kernel)) ?_
  refine z_k (S_putf cx (T := F_Mo) (N := 43) (k := 23) (ty := t_Mo) rfl in_Mo t_Mo_ok n_Mo (by decide) rfl w_551 rfl (Or.inr (Or.inr ⟨rfl, Or.inr ⟨_, rfl⟩⟩)) (by decide +kernel)) ?_
  refine z_k (S_aload_n cx (k := 0) (by decide +kernel) rfl) ?_
  refine z_k (S_bipush cx (n := 12) (by decide +kernel) (by decide)) ?_
  refine z_k (S_newa cx (kd := 1) (at0 := .boolean) (ty := .boolean) rfl rfl w_58 (by decide) rfl (fun _ _ h => h) (by decide +kernel)) ?_
  refine z_k (S_putf cx (T := F_Mo) (N := 43) (k := 24) (ty := t_Mo) rfl in_Mo t_Mo_ok n_Mo (by decide) rfl w_552 rfl (Or.inr (Or.inr ⟨rfl, Or.inr ⟨_, rfl⟩⟩)) (by decide +kernel)) ?_
  refine z_k (S_aload_n cx (k := 0) (by decide +kernel) rfl) ?_
  refine z_k (S_bipush cx (n := 12) (by decide +kernel) (by decide)) ?_
  refine z_k (S_newa cx (kd := 0) (at0 := .int) (ty := .int) rfl rfl w_57 (by decide) rfl (fun _ _ h => h) (by decide +kernel)) ?_
  refine z_k (S_putf cx (T := F_Mo) (N := 43) (k := 25) (ty := t_Mo) rfl in_Mo t_Mo_ok n_Mo (by decide) rfl w_553 rfl (Or.inr (Or.inr ⟨rfl, Or.inr ⟨_, rfl⟩⟩)) (by decide +kernel)) ?_
  refine z_k (S_aload_n cx (k := 0) (by decide +kernel) rfl) ?_
  refine z_k (S_bipush cx (n := 12) (by decide +kernel) (by decide)) ?_
  refine z_k (S_newa cx (kd := 0) (at0 := .int) (ty := .int) rfl rfl w_57 (by decide) rfl (fun _ _ h => h) (by decide +kernel)) ?_
  refine z_k (S_putf cx (T := F_Mo) (N := 43) (k := 26) (ty := t_Mo) rfl in_Mo t_Mo_ok n_Mo (by decide) rfl w_554 rfl (Or.inr (Or.inr ⟨rfl, Or.inr ⟨_, rfl⟩⟩)) (by decide +kernel)) ?_
  refine z_k (S_aload_n cx (k := 0) (by decide +kernel) rfl) ?_
  refine z_k (S_bipush cx (n := 12) (by decide +kernel) (by decide)) ?_
  exact z_k0
set_option maxRecDepth 100000 in
set_option maxHeartbeats 4000000 in
theorem s_Mo_init_4 (cx : z_cx zTab g d p l e R s m args below meth c prog_8_method_1_code "SealedTalksModel" 1) (hn : meth.name = "<init>") (hf : z_fin g p l e R s m args below meth c Q prog_8_method_1_code P none) : ∀ x ∈ k_Mo_init_4, z_sn zTab g d p l e R s m args below meth c Q 1 P x := by
  unfold k_Mo_init_4
  refine z_k (S_newa cx (kd := 0) (at0 := .int) (ty := .int) rfl rfl w_57 (by decide) rfl (fun _ _ h => h) (by decide +kernel)) ?_
  refine z_k (S_putf cx (T := F_Mo) (N := 43) (k := 27) (ty := t_Mo) rfl in_Mo t_Mo_ok n_Mo (by decide) rfl w_555 rfl (Or.inr (Or.inr ⟨rfl, Or.inr ⟨_, rfl⟩⟩)) (by decide +kernel)) ?_
  refine z_k (S_aload_n cx (k := 0) (by decide +kernel) rfl) ?_
  refine z_k (S_bipush cx (n := 12) (by decide +kernel) (by decide)) ?_
  refine z_k (S_newa cx (kd := 0) (at0 := .int) (ty := .int) rfl rfl w_57 (by decide) rfl (fun _ _ h => h) (by decide +kernel)) ?_
  refine z_k (S_putf cx (T := F_Mo) (N := 43) (k := 28) (ty := t_Mo) rfl in_Mo t_Mo_ok n_Mo (by decide) rfl w_556 rfl (Or.inr (Or.inr ⟨rfl, Or.inr ⟨_, rfl⟩⟩)) (by decide +kernel)) ?_
  refine z_k (S_aload_n cx (k := 0) (by decide +kernel) rfl) ?_
  refine z_k (S_bipush cx (n := 12) (by decide +kernel) (by decide)) ?_
  refine z_k (S_newa cx (kd := 0) (at0 := .int) (ty := .int) rfl rfl w_57 (by decide) rfl (fun _ _ h => h) (by decide +kernel)) ?_
  refine z_k (S_putf cx (T := F_Mo) (N := 43) (k := 29) (ty := t_Mo) rfl in_Mo t_Mo_ok n_Mo (by decide) rfl w_557 rfl (Or.inr (Or.inr ⟨rfl, Or.inr ⟨_, rfl⟩⟩)) (by decide +kernel)) ?_
  refine z_k (S_aload_n cx (k := 0) (by decide +kernel) rfl) ?_
  refine z_k (S_bipush cx (n := 12) (by decide +kernel) (by decide)) ?_
  refine z_k (S_newa cx (kd := 0) (at0 := .int) (ty := .int) rfl rfl w_57 (by decide) rfl (fun _ _ h => h) (by decide +kernel)) ?_
  refine z_k (S_putf cx (T := F_Mo) (N := 43) (k := 30) (ty := t_Mo) rfl in_Mo t_Mo_ok n_Mo (by decide) rfl w_558 rfl (Or.inr (Or.inr ⟨rfl, Or.inr ⟨_, rfl⟩⟩)) (by decide +kernel)) ?_
  refine z_k (S_aload_n cx (k := 0) (by decide +kernel) rfl) ?_
  refine z_k (S_push cx (n := 3) (by decide +kernel) (by decide)) ?_
  refine z_k (S_newa cx (kd := 0) (at0 := .int) (ty := .int) rfl rfl w_57 (by decide) rfl (fun _ _ h => h) (by decide +kernel)) ?_
  refine z_k (S_putf cx (T := F_Mo) (N := 43) (k := 40) (ty := t_Mo) rfl in_Mo t_Mo_ok n_Mo (by decide) rfl w_568 rfl (Or.inr (Or.inr ⟨rfl, Or.inr ⟨_, rfl⟩⟩)) (by decide +kernel)) ?_
  refine z_k (S_vret (hf.1 rfl) (by decide +kernel)) ?_
  exact z_k0
theorem s_Mo_init : z_snd zTab r_Mo_init := ⟨by decide +kernel, w_526, fun g d p l e R s m args below meth c Q P cx hn hf => z_k (s_Mo_init_0 cx hn hf) (z_k (s_Mo_init_1 cx hn hf) (z_k (s_Mo_init_2 cx hn hf) (z_k (s_Mo_init_3 cx hn hf) (z_k (s_Mo_init_4 cx hn hf) (z_k0)))))⟩
set_option maxRecDepth 100000 in
set_option maxHeartbeats 4000000 in
theorem s_Mo_within_0 (cx : z_cx zTab g d p l e R s m args below meth c prog_8_method_2_code "SealedTalksModel" 3) (hn : meth.name = "within") (hf : z_fin g p l e R s m args below meth c Q prog_8_method_2_code P (some .boolean)) : ∀ x ∈ k_Mo_within_0, z_sn zTab g d p l e R s m args below meth c Q 3 P x := by
  unfold k_Mo_within_0
  refine z_k (S_iload_n cx (k := 0) (by decide +kernel) rfl) ?_
  refine z_k (S_iload_n cx (k := 1) (by decide +kernel) rfl) ?_
  refine z_k (S_icmp_lt cx (off := 12) (by decide +kernel) (by decide)) ?_
  refine z_k (S_iload_n cx (k := 0) (by decide +kernel) rfl) ?_
  refine z_k (S_iload_n cx (k := 2) (by decide +kernel) rfl) ?_
  refine z_k (S_icmp_gt cx (off := 7) (by decide +kernel) (by decide)) ?_
  refine z_k (S_push cx (n := 1) (by decide +kernel) (by decide)) ?_
  refine z_k (S_goto cx (off := 4) (by decide +kernel) (by decide)) ?_
  refine z_k (S_push cx (n := 0) (by decide +kernel) (by decide)) ?_
  refine z_k (S_zret (hf.2.2.1 rfl) (by decide +kernel)) ?_
  exact z_k0
theorem s_Mo_within : z_snd zTab r_Mo_within := ⟨by decide +kernel, w_666, fun g d p l e R s m args below meth c Q P cx hn hf => z_k (s_Mo_within_0 cx hn hf) (z_k0)⟩
set_option maxRecDepth 100000 in
set_option maxHeartbeats 4000000 in
theorem s_Mo_term_0 (cx : z_cx zTab g d p l e R s m args below meth c prog_8_method_3_code "SealedTalksModel" 7) (hn : meth.name = "term") (hf : z_fin g p l e R s m args below meth c Q prog_8_method_3_code P (some .int)) : ∀ x ∈ k_Mo_term_0, z_sn zTab g d p l e R s m args below meth c Q 7 P x := by
  unfold k_Mo_term_0
  refine z_k (S_push cx (n := 0) (by decide +kernel) (by decide)) ?_
  refine z_k (S_istore cx (by decide) (by decide +kernel)) ?_
  refine z_k (S_iload cx (by decide +kernel)) ?_
  refine z_k (S_aload_n cx (k := 0) (by decide +kernel) rfl) ?_
  refine z_k (S_getf cx (T := F_Mo) (N := 43) (k := 0) rfl in_Mo (by decide) rfl w_528 (by decide +kernel)) ?_
  refine z_k (S_icmp_ge cx (off := 69) (by decide +kernel) (by decide)) ?_
  refine z_k (S_aload_n cx (k := 0) (by decide +kernel) rfl) ?_
  refine z_k (S_getf cx (T := F_Mo) (N := 43) (k := 1) rfl in_Mo (by decide) rfl w_529 (by decide +kernel)) ?_
  refine z_k (S_iload cx (by decide +kernel)) ?_
  refine z_k (S_bald cx (by decide +kernel)) ?_
  refine z_k (S_iload_n cx (k := 1) (by decide +kernel) rfl) ?_
  refine z_k (S_icmp_ne cx (off := 52) (by decide +kernel) (by decide)) ?_
  refine z_k (S_aload_n cx (k := 0) (by decide +kernel) rfl) ?_
  refine z_k (S_getf cx (T := F_Mo) (N := 43) (k := 2) rfl in_Mo (by decide) rfl w_530 (by decide +kernel)) ?_
  refine z_k (S_iload cx (by decide +kernel)) ?_
  refine z_k (S_iald cx (by decide +kernel)) ?_
  refine z_k (S_iload_n cx (k := 2) (by decide +kernel) rfl) ?_
  refine z_k (S_icmp_ne cx (off := 41) (by decide +kernel) (by decide)) ?_
  refine z_k (S_aload_n cx (k := 0) (by decide +kernel) rfl) ?_
  refine z_k (S_getf cx (T := F_Mo) (N := 43) (k := 3) rfl in_Mo (by decide) rfl w_531 (by decide +kernel)) ?_
  refine z_k (S_iload cx (by decide +kernel)) ?_
  refine z_k (S_sald cx (by decide +kernel)) ?_
  refine z_k (S_iload_n cx (k := 3) (by decide +kernel) rfl) ?_
  refine z_k (S_icmp_ne cx (off := 30) (by decide +kernel) (by decide)) ?_
  exact z_k0
set_option maxRecDepth 100000 in
set_option maxHeartbeats 4000000 in
theorem s_Mo_term_1 (cx : z_cx zTab g d p l e R s m args below meth c prog_8_method_3_code "SealedTalksModel" 7) (hn : meth.name = "term") (hf : z_fin g p l e R s m args below meth c Q prog_8_method_3_code P (some .int)) : ∀ x ∈ k_Mo_term_1, z_sn zTab g d p l e R s m args below meth c Q 7 P x := by
  unfold k_Mo_term_1
  refine z_k (S_aload_n cx (k := 0) (by decide +kernel) rfl) ?_
  refine z_k (S_getf cx (T := F_Mo) (N := 43) (k := 4) rfl in_Mo (by decide) rfl w_532 (by decide +kernel)) ?_
  refine z_k (S_iload cx (by decide +kernel)) ?_
  refine z_k (S_sald cx (by decide +kernel)) ?_
  refine z_k (S_iload cx (by decide +kernel)) ?_
  refine z_k (S_icmp_ne cx (off := 18) (by decide +kernel) (by decide)) ?_
  refine z_k (S_aload_n cx (k := 0) (by decide +kernel) rfl) ?_
  refine z_k (S_getf cx (T := F_Mo) (N := 43) (k := 5) rfl in_Mo (by decide) rfl w_533 (by decide +kernel)) ?_
  refine z_k (S_iload cx (by decide +kernel)) ?_
  refine z_k (S_sald cx (by decide +kernel)) ?_
  refine z_k (S_iload cx (by decide +kernel)) ?_
  refine z_k (S_icmp_ne cx (off := 6) (by decide +kernel) (by decide)) ?_
  refine z_k (S_iload cx (by decide +kernel)) ?_
  refine z_k (S_iret (hf.2.1 rfl) (by decide +kernel)) ?_
  refine z_k (S_iinc cx (n := 1) (by decide) (by decide +kernel) (by decide)) ?_
  refine z_k (S_goto cx (off := -72) (by decide +kernel) (by decide)) ?_
  refine z_k (S_aload_n cx (k := 0) (by decide +kernel) rfl) ?_
  refine z_k (S_getf cx (T := F_Mo) (N := 43) (k := 1) rfl in_Mo (by decide) rfl w_529 (by decide +kernel)) ?_
  refine z_k (S_aload_n cx (k := 0) (by decide +kernel) rfl) ?_
  refine z_k (S_getf cx (T := F_Mo) (N := 43) (k := 0) rfl in_Mo (by decide) rfl w_528 (by decide +kernel)) ?_
  refine z_k (S_iload_n cx (k := 1) (by decide +kernel) rfl) ?_
  refine z_k (S_i2b cx (by decide +kernel)) ?_
  refine z_k (S_bast cx (by decide +kernel)) ?_
  refine z_k (S_aload_n cx (k := 0) (by decide +kernel) rfl) ?_
  exact z_k0
set_option maxRecDepth 100000 in
set_option maxHeartbeats 4000000 in
theorem s_Mo_term_2 (cx : z_cx zTab g d p l e R s m args below meth c prog_8_method_3_code "SealedTalksModel" 7) (hn : meth.name = "term") (hf : z_fin g p l e R s m args below meth c Q prog_8_method_3_code P (some .int)) : ∀ x ∈ k_Mo_term_2, z_sn zTab g d p l e R s m args below meth c Q 7 P x := by
  unfold k_Mo_term_2
  refine z_k (S_getf cx (T := F_Mo) (N := 43) (k := 2) rfl in_Mo (by decide) rfl w_530 (by decide +kernel)) ?_
  refine z_k (S_aload_n cx (k := 0) (by decide +kernel) rfl) ?_
  refine z_k (S_getf cx (T := F_Mo) (N := 43) (k := 0) rfl in_Mo (by decide) rfl w_528 (by decide +kernel)) ?_
  refine z_k (S_iload_n cx (k := 2) (by decide +kernel) rfl) ?_
  refine z_k (S_iast cx (by decide +kernel)) ?_
  refine z_k (S_aload_n cx (k := 0) (by decide +kernel) rfl) ?_
  refine z_k (S_getf cx (T := F_Mo) (N := 43) (k := 3) rfl in_Mo (by decide) rfl w_531 (by decide +kernel)) ?_
  refine z_k (S_aload_n cx (k := 0) (by decide +kernel) rfl) ?_
  refine z_k (S_getf cx (T := F_Mo) (N := 43) (k := 0) rfl in_Mo (by decide) rfl w_528 (by decide +kernel)) ?_
  refine z_k (S_iload_n cx (k := 3) (by decide +kernel) rfl) ?_
  refine z_k (S_i2s cx (by decide +kernel)) ?_
  refine z_k (S_sast cx (by decide +kernel)) ?_
  refine z_k (S_aload_n cx (k := 0) (by decide +kernel) rfl) ?_
  refine z_k (S_getf cx (T := F_Mo) (N := 43) (k := 4) rfl in_Mo (by decide) rfl w_532 (by decide +kernel)) ?_
  refine z_k (S_aload_n cx (k := 0) (by decide +kernel) rfl) ?_
  refine z_k (S_getf cx (T := F_Mo) (N := 43) (k := 0) rfl in_Mo (by decide) rfl w_528 (by decide +kernel)) ?_
  refine z_k (S_iload cx (by decide +kernel)) ?_
  refine z_k (S_i2s cx (by decide +kernel)) ?_
  refine z_k (S_sast cx (by decide +kernel)) ?_
  refine z_k (S_aload_n cx (k := 0) (by decide +kernel) rfl) ?_
  refine z_k (S_getf cx (T := F_Mo) (N := 43) (k := 5) rfl in_Mo (by decide) rfl w_533 (by decide +kernel)) ?_
  refine z_k (S_aload_n cx (k := 0) (by decide +kernel) rfl) ?_
  refine z_k (S_getf cx (T := F_Mo) (N := 43) (k := 0) rfl in_Mo (by decide) rfl w_528 (by decide +kernel)) ?_
  refine z_k (S_iload cx (by decide +kernel)) ?_
  exact z_k0
set_option maxRecDepth 100000 in
set_option maxHeartbeats 4000000 in
theorem s_Mo_term_3 (cx : z_cx zTab g d p l e R s m args below meth c prog_8_method_3_code "SealedTalksModel" 7) (hn : meth.name = "term") (hf : z_fin g p l e R s m args below meth c Q prog_8_method_3_code P (some .int)) : ∀ x ∈ k_Mo_term_3, z_sn zTab g d p l e R s m args below meth c Q 7 P x := by
  unfold k_Mo_term_3
  refine z_k (S_i2s cx (by decide +kernel)) ?_
  refine z_k (S_sast cx (by decide +kernel)) ?_
  refine z_k (S_aload_n cx (k := 0) (by decide +kernel) rfl) ?_
  refine z_k (S_dup cx (by decide +kernel)) ?_
  refine z_k (S_getf cx (T := F_Mo) (N := 43) (k := 0) rfl in_Mo (by decide) rfl w_528 (by decide +kernel)) ?_
  refine z_k (S_push cx (n := 1) (by decide +kernel) (by decide)) ?_
  refine z_k (S_iadd cx (by decide +kernel)) ?_
  refine z_k (S_putf cx (T := F_Mo) (N := 43) (k := 0) (ty := t_Mo) rfl in_Mo t_Mo_ok n_Mo (by decide) rfl w_528 rfl (Or.inl ⟨rfl, rfl⟩) (by decide +kernel)) ?_
  refine z_k (S_aload_n cx (k := 0) (by decide +kernel) rfl) ?_
  refine z_k (S_getf cx (T := F_Mo) (N := 43) (k := 0) rfl in_Mo (by decide) rfl w_528 (by decide +kernel)) ?_
  refine z_k (S_push cx (n := 1) (by decide +kernel) (by decide)) ?_
  refine z_k (S_isub cx (by decide +kernel)) ?_
  refine z_k (S_iret (hf.2.1 rfl) (by decide +kernel)) ?_
  exact z_k0
theorem s_Mo_term : z_snd zTab r_Mo_term := ⟨by decide +kernel, w_674, fun g d p l e R s m args below meth c Q P cx hn hf => z_k (s_Mo_term_0 cx hn hf) (z_k (s_Mo_term_1 cx hn hf) (z_k (s_Mo_term_2 cx hn hf) (z_k (s_Mo_term_3 cx hn hf) (z_k0))))⟩
set_option maxRecDepth 100000 in
set_option maxHeartbeats 4000000 in
theorem s_Mo_num_0 (cx : z_cx zTab g d p l e R s m args below meth c prog_8_method_4_code "SealedTalksModel" 2) (hn : meth.name = "num") (hf : z_fin g p l e R s m args below meth c Q prog_8_method_4_code P (some .int)) : ∀ x ∈ k_Mo_num_0, z_sn zTab g d p l e R s m args below meth c Q 2 P x := by
  unfold k_Mo_num_0
  refine z_k (S_aload_n cx (k := 0) (by decide +kernel) rfl) ?_
  refine z_k (S_push cx (n := 1) (by decide +kernel) (by decide)) ?_
  refine z_k (S_iload_n cx (k := 1) (by decide +kernel) rfl) ?_
  refine z_k (S_push cx (n := 0) (by decide +kernel) (by decide)) ?_
  refine z_k (S_push cx (n := 0) (by decide +kernel) (by decide)) ?_
  refine z_k (S_push cx (n := 0) (by decide +kernel) (by decide)) ?_
  refine z_k (S_callV cx (T := F_Mo) (N := 43) (r := r_Mo_term) rfl ⟨w_674, w_4, by decide, by decide +kernel⟩ w_671 w_673 wp_14 rfl (by decide +kernel)) ?_
  refine z_k (S_iret (hf.2.1 rfl) (by decide +kernel)) ?_
  exact z_k0
theorem s_Mo_num : z_snd zTab r_Mo_num := ⟨by decide +kernel, w_670, fun g d p l e R s m args below meth c Q P cx hn hf => z_k (s_Mo_num_0 cx hn hf) (z_k0)⟩
set_option maxRecDepth 100000 in
set_option maxHeartbeats 4000000 in
theorem s_Mo_pub_0 (cx : z_cx zTab g d p l e R s m args below meth c prog_8_method_5_code "SealedTalksModel" 2) (hn : meth.name = "pub") (hf : z_fin g p l e R s m args below meth c Q prog_8_method_5_code P (some .int)) : ∀ x ∈ k_Mo_pub_0, z_sn zTab g d p l e R s m args below meth c Q 2 P x := by
  unfold k_Mo_pub_0
  refine z_k (S_aload_n cx (k := 0) (by decide +kernel) rfl) ?_
  refine z_k (S_push cx (n := 2) (by decide +kernel) (by decide)) ?_
  refine z_k (S_iload_n cx (k := 1) (by decide +kernel) rfl) ?_
  refine z_k (S_push cx (n := 0) (by decide +kernel) (by decide)) ?_
  refine z_k (S_push cx (n := 0) (by decide +kernel) (by decide)) ?_
  refine z_k (S_push cx (n := 0) (by decide +kernel) (by decide)) ?_
  refine z_k (S_callV cx (T := F_Mo) (N := 43) (r := r_Mo_term) rfl ⟨w_674, w_4, by decide, by decide +kernel⟩ w_671 w_673 wp_14 rfl (by decide +kernel)) ?_
  refine z_k (S_iret (hf.2.1 rfl) (by decide +kernel)) ?_
  exact z_k0
theorem s_Mo_pub : z_snd zTab r_Mo_pub := ⟨by decide +kernel, w_682, fun g d p l e R s m args below meth c Q P cx hn hf => z_k (s_Mo_pub_0 cx hn hf) (z_k0)⟩
set_option maxRecDepth 100000 in
set_option maxHeartbeats 4000000 in
theorem s_Mo_two_0 (cx : z_cx zTab g d p l e R s m args below meth c prog_8_method_6_code "SealedTalksModel" 4) (hn : meth.name = "two") (hf : z_fin g p l e R s m args below meth c Q prog_8_method_6_code P (some .int)) : ∀ x ∈ k_Mo_two_0, z_sn zTab g d p l e R s m args below meth c Q 4 P x := by
  unfold k_Mo_two_0
  refine z_k (S_aload_n cx (k := 0) (by decide +kernel) rfl) ?_
  refine z_k (S_iload_n cx (k := 1) (by decide +kernel) rfl) ?_
  refine z_k (S_push cx (n := 0) (by decide +kernel) (by decide)) ?_
  refine z_k (S_iload_n cx (k := 2) (by decide +kernel) rfl) ?_
  refine z_k (S_iload_n cx (k := 3) (by decide +kernel) rfl) ?_
  refine z_k (S_push cx (n := 0) (by decide +kernel) (by decide)) ?_
  refine z_k (S_callV cx (T := F_Mo) (N := 43) (r := r_Mo_term) rfl ⟨w_674, w_4, by decide, by decide +kernel⟩ w_671 w_673 wp_14 rfl (by decide +kernel)) ?_
  refine z_k (S_iret (hf.2.1 rfl) (by decide +kernel)) ?_
  exact z_k0
theorem s_Mo_two : z_snd zTab r_Mo_two := ⟨by decide +kernel, w_678, fun g d p l e R s m args below meth c Q P cx hn hf => z_k (s_Mo_two_0 cx hn hf) (z_k0)⟩
set_option maxRecDepth 100000 in
set_option maxHeartbeats 4000000 in
theorem s_Mo_workOut_0 (cx : z_cx zTab g d p l e R s m args below meth c prog_8_method_7_code "SealedTalksModel" 4) (hn : meth.name = "workOut") (hf : z_fin g p l e R s m args below meth c Q prog_8_method_7_code P none) : ∀ x ∈ k_Mo_workOut_0, z_sn zTab g d p l e R s m args below meth c Q 4 P x := by
  unfold k_Mo_workOut_0
  refine z_k (S_push cx (n := 0) (by decide +kernel) (by decide)) ?_
  refine z_k (S_istore_n cx (by decide) (k := 1) (by decide +kernel) rfl) ?_
  refine z_k (S_iload_n cx (k := 1) (by decide +kernel) rfl) ?_
  refine z_k (S_aload_n cx (k := 0) (by decide +kernel) rfl) ?_
  refine z_k (S_getf cx (T := F_Mo) (N := 43) (k := 0) rfl in_Mo (by decide) rfl w_528 (by decide +kernel)) ?_
  refine z_k (S_icmp_ge cx (off := 167) (by decide +kernel) (by decide)) ?_
  refine z_k (S_aload_n cx (k := 0) (by decide +kernel) rfl) ?_
  refine z_k (S_getf cx (T := F_Mo) (N := 43) (k := 3) rfl in_Mo (by decide) rfl w_531 (by decide +kernel)) ?_
  refine z_k (S_iload_n cx (k := 1) (by decide +kernel) rfl) ?_
  refine z_k (S_sald cx (by decide +kernel)) ?_
  refine z_k (S_istore_n cx (by decide) (k := 2) (by decide +kernel) rfl) ?_
  refine z_k (S_aload_n cx (k := 0) (by decide +kernel) rfl) ?_
  refine z_k (S_getf cx (T := F_Mo) (N := 43) (k := 4) rfl in_Mo (by decide) rfl w_532 (by decide +kernel)) ?_
  refine z_k (S_iload_n cx (k := 1) (by decide +kernel) rfl) ?_
  refine z_k (S_sald cx (by decide +kernel)) ?_
  refine z_k (S_istore_n cx (by decide) (k := 3) (by decide +kernel) rfl) ?_
  refine z_k (S_aload_n cx (k := 0) (by decide +kernel) rfl) ?_
  refine z_k (S_getf cx (T := F_Mo) (N := 43) (k := 1) rfl in_Mo (by decide) rfl w_529 (by decide +kernel)) ?_
  refine z_k (S_iload_n cx (k := 1) (by decide +kernel) rfl) ?_
  refine z_k (S_bald cx (by decide +kernel)) ?_
  refine z_k (S_tsw cx (df := 131) (lo := 3) (hi0 := 7) (offs := #[34, 84, 84, 84, 116]) (len := 34) (by decide +kernel) (by decide) (by decide) (by decide)) ?_
  refine z_k (S_aload_n cx (k := 0) (by decide +kernel) rfl) ?_
  refine z_k (S_getf cx (T := F_Mo) (N := 43) (k := 6) rfl in_Mo (by decide) rfl w_534 (by decide +kernel)) ?_
  refine z_k (S_iload_n cx (k := 1) (by decide +kernel) rfl) ?_
  exact z_k0
set_option maxRecDepth 100000 in
set_option maxHeartbeats 4000000 in
theorem s_Mo_workOut_1 (cx : z_cx zTab g d p l e R s m args below meth c prog_8_method_7_code "SealedTalksModel" 4) (hn : meth.name = "workOut") (hf : z_fin g p l e R s m args below meth c Q prog_8_method_7_code P none) : ∀ x ∈ k_Mo_workOut_1, z_sn zTab g d p l e R s m args below meth c Q 4 P x := by
  unfold k_Mo_workOut_1
  refine z_k (S_aload_n cx (k := 0) (by decide +kernel) rfl) ?_
  refine z_k (S_getf cx (T := F_Mo) (N := 43) (k := 11) rfl in_Mo (by decide) rfl w_539 (by decide +kernel)) ?_
  refine z_k (S_aload_n cx (k := 0) (by decide +kernel) rfl) ?_
  refine z_k (S_getf cx (T := F_Mo) (N := 43) (k := 2) rfl in_Mo (by decide) rfl w_530 (by decide +kernel)) ?_
  refine z_k (S_iload_n cx (k := 1) (by decide +kernel) rfl) ?_
  refine z_k (S_iald cx (by decide +kernel)) ?_
  refine z_k (S_sipush cx (n := 256) (by decide +kernel) (by decide)) ?_
  refine z_k (S_idiv cx (by decide +kernel)) ?_
  refine z_k (S_zald cx (by decide +kernel)) ?_
  refine z_k (S_if_ne cx (off := 21) (by decide +kernel) (by decide)) ?_
  refine z_k (S_aload_n cx (k := 0) (by decide +kernel) rfl) ?_
  refine z_k (S_getf cx (T := F_Mo) (N := 43) (k := 11) rfl in_Mo (by decide) rfl w_539 (by decide +kernel)) ?_
  refine z_k (S_aload_n cx (k := 0) (by decide +kernel) rfl) ?_
  refine z_k (S_getf cx (T := F_Mo) (N := 43) (k := 2) rfl in_Mo (by decide) rfl w_530 (by decide +kernel)) ?_
  refine z_k (S_iload_n cx (k := 1) (by decide +kernel) rfl) ?_
  refine z_k (S_iald cx (by decide +kernel)) ?_
  refine z_k (S_sipush cx (n := 256) (by decide +kernel) (by decide)) ?_
  refine z_k (S_irem cx (by decide +kernel)) ?_
  refine z_k (S_zald cx (by decide +kernel)) ?_
  refine z_k (S_if_eq cx (off := 7) (by decide +kernel) (by decide)) ?_
  refine z_k (S_push cx (n := 1) (by decide +kernel) (by decide)) ?_
  refine z_k (S_goto cx (off := 4) (by decide +kernel) (by decide)) ?_
  refine z_k (S_push cx (n := 0) (by decide +kernel) (by decide)) ?_
  refine z_k (S_zast cx (by decide +kernel)) ?_
  exact z_k0
set_option maxRecDepth 100000 in
set_option maxHeartbeats 4000000 in
theorem s_Mo_workOut_2 (cx : z_cx zTab g d p l e R s m args below meth c prog_8_method_7_code "SealedTalksModel" 4) (hn : meth.name = "workOut") (hf : z_fin g p l e R s m args below meth c Q prog_8_method_7_code P none) : ∀ x ∈ k_Mo_workOut_2, z_sn zTab g d p l e R s m args below meth c Q 4 P x := by
  unfold k_Mo_workOut_2
  refine z_k (S_goto cx (off := 57) (by decide +kernel) (by decide)) ?_
  refine z_k (S_aload_n cx (k := 0) (by decide +kernel) rfl) ?_
  refine z_k (S_getf cx (T := F_Mo) (N := 43) (k := 6) rfl in_Mo (by decide) rfl w_534 (by decide +kernel)) ?_
  refine z_k (S_iload_n cx (k := 1) (by decide +kernel) rfl) ?_
  refine z_k (S_aload_n cx (k := 0) (by decide +kernel) rfl) ?_
  refine z_k (S_getf cx (T := F_Mo) (N := 43) (k := 6) rfl in_Mo (by decide) rfl w_534 (by decide +kernel)) ?_
  refine z_k (S_iload_n cx (k := 2) (by decide +kernel) rfl) ?_
  refine z_k (S_zald cx (by decide +kernel)) ?_
  refine z_k (S_if_eq cx (off := 16) (by decide +kernel) (by decide)) ?_
  refine z_k (S_aload_n cx (k := 0) (by decide +kernel) rfl) ?_
  refine z_k (S_getf cx (T := F_Mo) (N := 43) (k := 6) rfl in_Mo (by decide) rfl w_534 (by decide +kernel)) ?_
  refine z_k (S_iload_n cx (k := 3) (by decide +kernel) rfl) ?_
  refine z_k (S_zald cx (by decide +kernel)) ?_
  refine z_k (S_if_eq cx (off := 7) (by decide +kernel) (by decide)) ?_
  refine z_k (S_push cx (n := 1) (by decide +kernel) (by decide)) ?_
  refine z_k (S_goto cx (off := 4) (by decide +kernel) (by decide)) ?_
  refine z_k (S_push cx (n := 0) (by decide +kernel) (by decide)) ?_
  refine z_k (S_zast cx (by decide +kernel)) ?_
  refine z_k (S_goto cx (off := 25) (by decide +kernel) (by decide)) ?_
  refine z_k (S_aload_n cx (k := 0) (by decide +kernel) rfl) ?_
  refine z_k (S_getf cx (T := F_Mo) (N := 43) (k := 6) rfl in_Mo (by decide) rfl w_534 (by decide +kernel)) ?_
  refine z_k (S_iload_n cx (k := 1) (by decide +kernel) rfl) ?_
  refine z_k (S_aload_n cx (k := 0) (by decide +kernel) rfl) ?_
  refine z_k (S_getf cx (T := F_Mo) (N := 43) (k := 6) rfl in_Mo (by decide) rfl w_534 (by decide +kernel)) ?_
  exact z_k0
set_option maxRecDepth 100000 in
set_option maxHeartbeats 4000000 in
theorem s_Mo_workOut_3 (cx : z_cx zTab g d p l e R s m args below meth c prog_8_method_7_code "SealedTalksModel" 4) (hn : meth.name = "workOut") (hf : z_fin g p l e R s m args below meth c Q prog_8_method_7_code P none) : ∀ x ∈ k_Mo_workOut_3, z_sn zTab g d p l e R s m args below meth c Q 4 P x := by
  unfold k_Mo_workOut_3
  refine z_k (S_iload_n cx (k := 2) (by decide +kernel) rfl) ?_
  refine z_k (S_zald cx (by decide +kernel)) ?_
  refine z_k (S_zast cx (by decide +kernel)) ?_
  refine z_k (S_goto cx (off := 10) (by decide +kernel) (by decide)) ?_
  refine z_k (S_aload_n cx (k := 0) (by decide +kernel) rfl) ?_
  refine z_k (S_getf cx (T := F_Mo) (N := 43) (k := 6) rfl in_Mo (by decide) rfl w_534 (by decide +kernel)) ?_
  refine z_k (S_iload_n cx (k := 1) (by decide +kernel) rfl) ?_
  refine z_k (S_push cx (n := 1) (by decide +kernel) (by decide)) ?_
  refine z_k (S_zast cx (by decide +kernel)) ?_
  refine z_k (S_iinc cx (n := 1) (by decide) (by decide +kernel) (by decide)) ?_
  refine z_k (S_goto cx (off := -169) (by decide +kernel) (by decide)) ?_
  refine z_k (S_vret (hf.1 rfl) (by decide +kernel)) ?_
  exact z_k0
theorem s_Mo_workOut : z_snd zTab r_Mo_workOut := ⟨by decide +kernel, w_820, fun g d p l e R s m args below meth c Q P cx hn hf => z_k (s_Mo_workOut_0 cx hn hf) (z_k (s_Mo_workOut_1 cx hn hf) (z_k (s_Mo_workOut_2 cx hn hf) (z_k (s_Mo_workOut_3 cx hn hf) (z_k0))))⟩
set_option maxRecDepth 100000 in
set_option maxHeartbeats 4000000 in
theorem s_Mo_token_0 (cx : z_cx zTab g d p l e R s m args below meth c prog_8_method_8_code "SealedTalksModel" 7) (hn : meth.name = "token") (hf : z_fin g p l e R s m args below meth c Q prog_8_method_8_code P (some .int)) : ∀ x ∈ k_Mo_token_0, z_sn zTab g d p l e R s m args below meth c Q 7 P x := by
  unfold k_Mo_token_0
  refine z_k (S_iload_n cx (k := 0) (by decide +kernel) rfl) ?_
  refine z_k (S_if_ne cx (off := 27) (by decide +kernel) (by decide)) ?_
  refine z_k (S_iload_n cx (k := 1) (by decide +kernel) rfl) ?_
  refine z_k (S_if_ne cx (off := 7) (by decide +kernel) (by decide)) ?_
  refine z_k (S_push cx (n := 1) (by decide +kernel) (by decide)) ?_
  refine z_k (S_goto cx (off := 32) (by decide +kernel) (by decide)) ?_
  refine z_k (S_iload_n cx (k := 1) (by decide +kernel) rfl) ?_
  refine z_k (S_push cx (n := 1) (by decide +kernel) (by decide)) ?_
  refine z_k (S_icmp_ne cx (off := 9) (by decide +kernel) (by decide)) ?_
  refine z_k (S_sipush cx (n := 1324) (by decide +kernel) (by decide)) ?_
  refine z_k (S_goto cx (off := 21) (by decide +kernel) (by decide)) ?_
  refine z_k (S_bipush cx (n := 25) (by decide +kernel) (by decide)) ?_
  refine z_k (S_goto cx (off := 16) (by decide +kernel) (by decide)) ?_
  refine z_k (S_iload_n cx (k := 1) (by decide +kernel) rfl) ?_
  refine z_k (S_if_ne cx (off := 9) (by decide +kernel) (by decide)) ?_
  refine z_k (S_sipush cx (n := 1426) (by decide +kernel) (by decide)) ?_
  refine z_k (S_goto cx (off := 6) (by decide +kernel) (by decide)) ?_
  refine z_k (S_sipush cx (n := 135) (by decide +kernel) (by decide)) ?_
  refine z_k (S_istore_n cx (by decide) (k := 3) (by decide +kernel) rfl) ?_
  refine z_k (S_iload_n cx (k := 3) (by decide +kernel) rfl) ?_
  refine z_k (S_sipush cx (n := 999) (by decide +kernel) (by decide)) ?_
  refine z_k (S_icmp_le cx (off := 7) (by decide +kernel) (by decide)) ?_
  refine z_k (S_push cx (n := 4) (by decide +kernel) (by decide)) ?_
  refine z_k (S_goto cx (off := 24) (by decide +kernel) (by decide)) ?_
  exact z_k0
set_option maxRecDepth 100000 in
set_option maxHeartbeats 4000000 in
theorem s_Mo_token_1 (cx : z_cx zTab g d p l e R s m args below meth c prog_8_method_8_code "SealedTalksModel" 7) (hn : meth.name = "token") (hf : z_fin g p l e R s m args below meth c Q prog_8_method_8_code P (some .int)) : ∀ x ∈ k_Mo_token_1, z_sn zTab g d p l e R s m args below meth c Q 7 P x := by
  unfold k_Mo_token_1
  refine z_k (S_iload_n cx (k := 3) (by decide +kernel) rfl) ?_
  refine z_k (S_bipush cx (n := 99) (by decide +kernel) (by decide)) ?_
  refine z_k (S_icmp_le cx (off := 7) (by decide +kernel) (by decide)) ?_
  refine z_k (S_push cx (n := 3) (by decide +kernel) (by decide)) ?_
  refine z_k (S_goto cx (off := 14) (by decide +kernel) (by decide)) ?_
  refine z_k (S_iload_n cx (k := 3) (by decide +kernel) rfl) ?_
  refine z_k (S_bipush cx (n := 9) (by decide +kernel) (by decide)) ?_
  refine z_k (S_icmp_le cx (off := 7) (by decide +kernel) (by decide)) ?_
  refine z_k (S_push cx (n := 2) (by decide +kernel) (by decide)) ?_
  refine z_k (S_goto cx (off := 4) (by decide +kernel) (by decide)) ?_
  refine z_k (S_push cx (n := 1) (by decide +kernel) (by decide)) ?_
  refine z_k (S_istore cx (by decide) (by decide +kernel)) ?_
  refine z_k (S_iload_n cx (k := 3) (by decide +kernel) rfl) ?_
  refine z_k (S_istore cx (by decide) (by decide +kernel)) ?_
  refine z_k (S_iload cx (by decide +kernel)) ?_
  refine z_k (S_push cx (n := 1) (by decide +kernel) (by decide)) ?_
  refine z_k (S_isub cx (by decide +kernel)) ?_
  refine z_k (S_istore cx (by decide) (by decide +kernel)) ?_
  refine z_k (S_iload cx (by decide +kernel)) ?_
  refine z_k (S_iload_n cx (k := 2) (by decide +kernel) rfl) ?_
  refine z_k (S_icmp_le cx (off := 16) (by decide +kernel) (by decide)) ?_
  refine z_k (S_iload cx (by decide +kernel)) ?_
  refine z_k (S_bipush cx (n := 10) (by decide +kernel) (by decide)) ?_
  refine z_k (S_idiv cx (by decide +kernel)) ?_
  exact z_k0
set_option maxRecDepth 100000 in
set_option maxHeartbeats 4000000 in
theorem s_Mo_token_2 (cx : z_cx zTab g d p l e R s m args below meth c prog_8_method_8_code "SealedTalksModel" 7) (hn : meth.name = "token") (hf : z_fin g p l e R s m args below meth c Q prog_8_method_8_code P (some .int)) : ∀ x ∈ k_Mo_token_2, z_sn zTab g d p l e R s m args below meth c Q 7 P x := by
  unfold k_Mo_token_2
  refine z_k (S_istore cx (by decide) (by decide +kernel)) ?_
  refine z_k (S_iinc cx (n := -1) (by decide) (by decide +kernel) (by decide)) ?_
  refine z_k (S_goto cx (off := -16) (by decide +kernel) (by decide)) ?_
  refine z_k (S_iload_n cx (k := 2) (by decide +kernel) rfl) ?_
  refine z_k (S_iload cx (by decide +kernel)) ?_
  refine z_k (S_icmp_ge cx (off := 11) (by decide +kernel) (by decide)) ?_
  refine z_k (S_iload cx (by decide +kernel)) ?_
  refine z_k (S_bipush cx (n := 10) (by decide +kernel) (by decide)) ?_
  refine z_k (S_irem cx (by decide +kernel)) ?_
  refine z_k (S_goto cx (off := 4) (by decide +kernel) (by decide)) ?_
  refine z_k (S_push cx (n := 0) (by decide +kernel) (by decide)) ?_
  refine z_k (S_iret (hf.2.1 rfl) (by decide +kernel)) ?_
  exact z_k0
theorem s_Mo_token : z_snd zTab r_Mo_token := ⟨by decide +kernel, w_708, fun g d p l e R s m args below meth c Q P cx hn hf => z_k (s_Mo_token_0 cx hn hf) (z_k (s_Mo_token_1 cx hn hf) (z_k (s_Mo_token_2 cx hn hf) (z_k0)))⟩
set_option maxRecDepth 100000 in
set_option maxHeartbeats 4000000 in
theorem s_Mo_last_0 (cx : z_cx zTab g d p l e R s m args below meth c prog_8_method_9_code "SealedTalksModel" 1) (hn : meth.name = "last") (hf : z_fin g p l e R s m args below meth c Q prog_8_method_9_code P (some .int)) : ∀ x ∈ k_Mo_last_0, z_sn zTab g d p l e R s m args below meth c Q 1 P x := by
  unfold k_Mo_last_0
  refine z_k (S_iload_n cx (k := 0) (by decide +kernel) rfl) ?_
  refine z_k (S_if_ne cx (off := 7) (by decide +kernel) (by decide)) ?_
  refine z_k (S_push cx (n := 3) (by decide +kernel) (by decide)) ?_
  refine z_k (S_goto cx (off := 4) (by decide +kernel) (by decide)) ?_
  refine z_k (S_push cx (n := 2) (by decide +kernel) (by decide)) ?_
  refine z_k (S_iret (hf.2.1 rfl) (by decide +kernel)) ?_
  exact z_k0
theorem s_Mo_last : z_snd zTab r_Mo_last := ⟨by decide +kernel, w_697, fun g d p l e R s m args below meth c Q P cx hn hf => z_k (s_Mo_last_0 cx hn hf) (z_k0)⟩
set_option maxRecDepth 100000 in
set_option maxHeartbeats 4000000 in
theorem s_Mo_load_0 (cx : z_cx zTab g d p l e R s m args below meth c prog_8_method_10_code "SealedTalksModel" 2) (hn : meth.name = "load") (hf : z_fin g p l e R s m args below meth c Q prog_8_method_10_code P none) : ∀ x ∈ k_Mo_load_0, z_sn zTab g d p l e R s m args below meth c Q 2 P x := by
  unfold k_Mo_load_0
  refine z_k (S_aload_n cx (k := 0) (by decide +kernel) rfl) ?_
  refine z_k (S_iload_n cx (k := 1) (by decide +kernel) rfl) ?_
  refine z_k (S_putf cx (T := F_Mo) (N := 43) (k := 31) (ty := t_Mo) rfl in_Mo t_Mo_ok n_Mo (by decide) rfl w_559 rfl (Or.inl ⟨rfl, rfl⟩) (by decide +kernel)) ?_
  refine z_k (S_aload_n cx (k := 0) (by decide +kernel) rfl) ?_
  refine z_k (S_aload_n cx (k := 0) (by decide +kernel) rfl) ?_
  refine z_k (S_getf cx (T := F_Mo) (N := 43) (k := 19) rfl in_Mo (by decide) rfl w_547 (by decide +kernel)) ?_
  refine z_k (S_iload_n cx (k := 1) (by decide +kernel) rfl) ?_
  refine z_k (S_iald cx (by decide +kernel)) ?_
  refine z_k (S_putf cx (T := F_Mo) (N := 43) (k := 32) (ty := t_Mo) rfl in_Mo t_Mo_ok n_Mo (by decide) rfl w_560 rfl (Or.inl ⟨rfl, rfl⟩) (by decide +kernel)) ?_
  refine z_k (S_aload_n cx (k := 0) (by decide +kernel) rfl) ?_
  refine z_k (S_aload_n cx (k := 0) (by decide +kernel) rfl) ?_
  refine z_k (S_getf cx (T := F_Mo) (N := 43) (k := 20) rfl in_Mo (by decide) rfl w_548 (by decide +kernel)) ?_
  refine z_k (S_iload_n cx (k := 1) (by decide +kernel) rfl) ?_
  refine z_k (S_iald cx (by decide +kernel)) ?_
  refine z_k (S_putf cx (T := F_Mo) (N := 43) (k := 33) (ty := t_Mo) rfl in_Mo t_Mo_ok n_Mo (by decide) rfl w_561 rfl (Or.inl ⟨rfl, rfl⟩) (by decide +kernel)) ?_
  refine z_k (S_aload_n cx (k := 0) (by decide +kernel) rfl) ?_
  refine z_k (S_aload_n cx (k := 0) (by decide +kernel) rfl) ?_
  refine z_k (S_getf cx (T := F_Mo) (N := 43) (k := 21) rfl in_Mo (by decide) rfl w_549 (by decide +kernel)) ?_
  refine z_k (S_iload_n cx (k := 1) (by decide +kernel) rfl) ?_
  refine z_k (S_iald cx (by decide +kernel)) ?_
  refine z_k (S_putf cx (T := F_Mo) (N := 43) (k := 34) (ty := t_Mo) rfl in_Mo t_Mo_ok n_Mo (by decide) rfl w_562 rfl (Or.inl ⟨rfl, rfl⟩) (by decide +kernel)) ?_
  refine z_k (S_aload_n cx (k := 0) (by decide +kernel) rfl) ?_
  refine z_k (S_aload_n cx (k := 0) (by decide +kernel) rfl) ?_
  refine z_k (S_getf cx (T := F_Mo) (N := 43) (k := 22) rfl in_Mo (by decide) rfl w_550 (by decide +kernel)) ?_
  exact z_k0
set_option maxRecDepth 100000 in
set_option maxHeartbeats 4000000 in
theorem s_Mo_load_1 (cx : z_cx zTab g d p l e R s m args below meth c prog_8_method_10_code "SealedTalksModel" 2) (hn : meth.name = "load") (hf : z_fin g p l e R s m args below meth c Q prog_8_method_10_code P none) : ∀ x ∈ k_Mo_load_1, z_sn zTab g d p l e R s m args below meth c Q 2 P x := by
  unfold k_Mo_load_1
  refine z_k (S_iload_n cx (k := 1) (by decide +kernel) rfl) ?_
  refine z_k (S_iald cx (by decide +kernel)) ?_
  refine z_k (S_putf cx (T := F_Mo) (N := 43) (k := 35) (ty := t_Mo) rfl in_Mo t_Mo_ok n_Mo (by decide) rfl w_563 rfl (Or.inl ⟨rfl, rfl⟩) (by decide +kernel)) ?_
  refine z_k (S_aload_n cx (k := 0) (by decide +kernel) rfl) ?_
  refine z_k (S_aload_n cx (k := 0) (by decide +kernel) rfl) ?_
  refine z_k (S_getf cx (T := F_Mo) (N := 43) (k := 16) rfl in_Mo (by decide) rfl w_544 (by decide +kernel)) ?_
  refine z_k (S_iload_n cx (k := 1) (by decide +kernel) rfl) ?_
  refine z_k (S_iald cx (by decide +kernel)) ?_
  refine z_k (S_putf cx (T := F_Mo) (N := 43) (k := 36) (ty := t_Mo) rfl in_Mo t_Mo_ok n_Mo (by decide) rfl w_564 rfl (Or.inl ⟨rfl, rfl⟩) (by decide +kernel)) ?_
  refine z_k (S_aload_n cx (k := 0) (by decide +kernel) rfl) ?_
  refine z_k (S_aload_n cx (k := 0) (by decide +kernel) rfl) ?_
  refine z_k (S_getf cx (T := F_Mo) (N := 43) (k := 17) rfl in_Mo (by decide) rfl w_545 (by decide +kernel)) ?_
  refine z_k (S_iload_n cx (k := 1) (by decide +kernel) rfl) ?_
  refine z_k (S_iald cx (by decide +kernel)) ?_
  refine z_k (S_putf cx (T := F_Mo) (N := 43) (k := 37) (ty := t_Mo) rfl in_Mo t_Mo_ok n_Mo (by decide) rfl w_565 rfl (Or.inl ⟨rfl, rfl⟩) (by decide +kernel)) ?_
  refine z_k (S_aload_n cx (k := 0) (by decide +kernel) rfl) ?_
  refine z_k (S_aload_n cx (k := 0) (by decide +kernel) rfl) ?_
  refine z_k (S_getf cx (T := F_Mo) (N := 43) (k := 18) rfl in_Mo (by decide) rfl w_546 (by decide +kernel)) ?_
  refine z_k (S_iload_n cx (k := 1) (by decide +kernel) rfl) ?_
  refine z_k (S_iald cx (by decide +kernel)) ?_
  refine z_k (S_putf cx (T := F_Mo) (N := 43) (k := 38) (ty := t_Mo) rfl in_Mo t_Mo_ok n_Mo (by decide) rfl w_566 rfl (Or.inl ⟨rfl, rfl⟩) (by decide +kernel)) ?_
  refine z_k (S_aload_n cx (k := 0) (by decide +kernel) rfl) ?_
  refine z_k (S_push cx (n := 0) (by decide +kernel) (by decide)) ?_
  refine z_k (S_putf cx (T := F_Mo) (N := 43) (k := 42) (ty := t_Mo) rfl in_Mo t_Mo_ok n_Mo (by decide) rfl w_570 rfl (Or.inr (Or.inl ⟨rfl, rfl⟩)) (by decide +kernel)) ?_
  exact z_k0
set_option maxRecDepth 100000 in
set_option maxHeartbeats 4000000 in
theorem s_Mo_load_2 (cx : z_cx zTab g d p l e R s m args below meth c prog_8_method_10_code "SealedTalksModel" 2) (hn : meth.name = "load") (hf : z_fin g p l e R s m args below meth c Q prog_8_method_10_code P none) : ∀ x ∈ k_Mo_load_2, z_sn zTab g d p l e R s m args below meth c Q 2 P x := by
  unfold k_Mo_load_2
  refine z_k (S_aload_n cx (k := 0) (by decide +kernel) rfl) ?_
  refine z_k (S_push cx (n := 0) (by decide +kernel) (by decide)) ?_
  refine z_k (S_putf cx (T := F_Mo) (N := 43) (k := 41) (ty := t_Mo) rfl in_Mo t_Mo_ok n_Mo (by decide) rfl w_569 rfl (Or.inl ⟨rfl, rfl⟩) (by decide +kernel)) ?_
  refine z_k (S_vret (hf.1 rfl) (by decide +kernel)) ?_
  exact z_k0
theorem s_Mo_load : z_snd zTab r_Mo_load := ⟨by decide +kernel, w_705, fun g d p l e R s m args below meth c Q P cx hn hf => z_k (s_Mo_load_0 cx hn hf) (z_k (s_Mo_load_1 cx hn hf) (z_k (s_Mo_load_2 cx hn hf) (z_k0)))⟩
set_option maxRecDepth 100000 in
set_option maxHeartbeats 4000000 in
theorem s_Mo_keep_0 (cx : z_cx zTab g d p l e R s m args below meth c prog_8_method_11_code "SealedTalksModel" 2) (hn : meth.name = "keep") (hf : z_fin g p l e R s m args below meth c Q prog_8_method_11_code P none) : ∀ x ∈ k_Mo_keep_0, z_sn zTab g d p l e R s m args below meth c Q 2 P x := by
  unfold k_Mo_keep_0
  refine z_k (S_aload_n cx (k := 0) (by decide +kernel) rfl) ?_
  refine z_k (S_getf cx (T := F_Mo) (N := 43) (k := 31) rfl in_Mo (by decide) rfl w_559 (by decide +kernel)) ?_
  refine z_k (S_istore_n cx (by decide) (k := 1) (by decide +kernel) rfl) ?_
  refine z_k (S_aload_n cx (k := 0) (by decide +kernel) rfl) ?_
  refine z_k (S_getf cx (T := F_Mo) (N := 43) (k := 19) rfl in_Mo (by decide) rfl w_547 (by decide +kernel)) ?_
  refine z_k (S_iload_n cx (k := 1) (by decide +kernel) rfl) ?_
  refine z_k (S_aload_n cx (k := 0) (by decide +kernel) rfl) ?_
  refine z_k (S_getf cx (T := F_Mo) (N := 43) (k := 32) rfl in_Mo (by decide) rfl w_560 (by decide +kernel)) ?_
  refine z_k (S_iast cx (by decide +kernel)) ?_
  refine z_k (S_aload_n cx (k := 0) (by decide +kernel) rfl) ?_
  refine z_k (S_getf cx (T := F_Mo) (N := 43) (k := 20) rfl in_Mo (by decide) rfl w_548 (by decide +kernel)) ?_
  refine z_k (S_iload_n cx (k := 1) (by decide +kernel) rfl) ?_
  refine z_k (S_aload_n cx (k := 0) (by decide +kernel) rfl) ?_
  refine z_k (S_getf cx (T := F_Mo) (N := 43) (k := 33) rfl in_Mo (by decide) rfl w_561 (by decide +kernel)) ?_
  refine z_k (S_iast cx (by decide +kernel)) ?_
  refine z_k (S_aload_n cx (k := 0) (by decide +kernel) rfl) ?_
  refine z_k (S_getf cx (T := F_Mo) (N := 43) (k := 21) rfl in_Mo (by decide) rfl w_549 (by decide +kernel)) ?_
  refine z_k (S_iload_n cx (k := 1) (by decide +kernel) rfl) ?_
  refine z_k (S_aload_n cx (k := 0) (by decide +kernel) rfl) ?_
  refine z_k (S_getf cx (T := F_Mo) (N := 43) (k := 34) rfl in_Mo (by decide) rfl w_562 (by decide +kernel)) ?_
  refine z_k (S_iast cx (by decide +kernel)) ?_
  refine z_k (S_aload_n cx (k := 0) (by decide +kernel) rfl) ?_
  refine z_k (S_getf cx (T := F_Mo) (N := 43) (k := 22) rfl in_Mo (by decide) rfl w_550 (by decide +kernel)) ?_
  refine z_k (S_iload_n cx (k := 1) (by decide +kernel) rfl) ?_
  exact z_k0
set_option maxRecDepth 100000 in
set_option maxHeartbeats 4000000 in
theorem s_Mo_keep_1 (cx : z_cx zTab g d p l e R s m args below meth c prog_8_method_11_code "SealedTalksModel" 2) (hn : meth.name = "keep") (hf : z_fin g p l e R s m args below meth c Q prog_8_method_11_code P none) : ∀ x ∈ k_Mo_keep_1, z_sn zTab g d p l e R s m args below meth c Q 2 P x := by
  unfold k_Mo_keep_1
  refine z_k (S_aload_n cx (k := 0) (by decide +kernel) rfl) ?_
  refine z_k (S_getf cx (T := F_Mo) (N := 43) (k := 35) rfl in_Mo (by decide) rfl w_563 (by decide +kernel)) ?_
  refine z_k (S_iast cx (by decide +kernel)) ?_
  refine z_k (S_aload_n cx (k := 0) (by decide +kernel) rfl) ?_
  refine z_k (S_getf cx (T := F_Mo) (N := 43) (k := 16) rfl in_Mo (by decide) rfl w_544 (by decide +kernel)) ?_
  refine z_k (S_iload_n cx (k := 1) (by decide +kernel) rfl) ?_
  refine z_k (S_aload_n cx (k := 0) (by decide +kernel) rfl) ?_
  refine z_k (S_getf cx (T := F_Mo) (N := 43) (k := 36) rfl in_Mo (by decide) rfl w_564 (by decide +kernel)) ?_
  refine z_k (S_iast cx (by decide +kernel)) ?_
  refine z_k (S_aload_n cx (k := 0) (by decide +kernel) rfl) ?_
  refine z_k (S_getf cx (T := F_Mo) (N := 43) (k := 17) rfl in_Mo (by decide) rfl w_545 (by decide +kernel)) ?_
  refine z_k (S_iload_n cx (k := 1) (by decide +kernel) rfl) ?_
  refine z_k (S_aload_n cx (k := 0) (by decide +kernel) rfl) ?_
  refine z_k (S_getf cx (T := F_Mo) (N := 43) (k := 37) rfl in_Mo (by decide) rfl w_565 (by decide +kernel)) ?_
  refine z_k (S_iast cx (by decide +kernel)) ?_
  refine z_k (S_aload_n cx (k := 0) (by decide +kernel) rfl) ?_
  refine z_k (S_getf cx (T := F_Mo) (N := 43) (k := 18) rfl in_Mo (by decide) rfl w_546 (by decide +kernel)) ?_
  refine z_k (S_iload_n cx (k := 1) (by decide +kernel) rfl) ?_
  refine z_k (S_aload_n cx (k := 0) (by decide +kernel) rfl) ?_
  refine z_k (S_getf cx (T := F_Mo) (N := 43) (k := 38) rfl in_Mo (by decide) rfl w_566 (by decide +kernel)) ?_
  refine z_k (S_iast cx (by decide +kernel)) ?_
  refine z_k (S_aload_n cx (k := 0) (by decide +kernel) rfl) ?_
  refine z_k (S_getf cx (T := F_Mo) (N := 43) (k := 23) rfl in_Mo (by decide) rfl w_551 (by decide +kernel)) ?_
  refine z_k (S_iload_n cx (k := 1) (by decide +kernel) rfl) ?_
  exact z_k0
set_option maxRecDepth 100000 in
set_option maxHeartbeats 4000000 in
theorem s_Mo_keep_2 (cx : z_cx zTab g d p l e R s m args below meth c prog_8_method_11_code "SealedTalksModel" 2) (hn : meth.name = "keep") (hf : z_fin g p l e R s m args below meth c Q prog_8_method_11_code P none) : ∀ x ∈ k_Mo_keep_2, z_sn zTab g d p l e R s m args below meth c Q 2 P x := by
  unfold k_Mo_keep_2
  refine z_k (S_aload_n cx (k := 0) (by decide +kernel) rfl) ?_
  refine z_k (S_getf cx (T := F_Mo) (N := 43) (k := 23) rfl in_Mo (by decide) rfl w_551 (by decide +kernel)) ?_
  refine z_k (S_iload_n cx (k := 1) (by decide +kernel) rfl) ?_
  refine z_k (S_iald cx (by decide +kernel)) ?_
  refine z_k (S_push cx (n := 1) (by decide +kernel) (by decide)) ?_
  refine z_k (S_iadd cx (by decide +kernel)) ?_
  refine z_k (S_iast cx (by decide +kernel)) ?_
  refine z_k (S_aload_n cx (k := 0) (by decide +kernel) rfl) ?_
  refine z_k (S_getf cx (T := F_Mo) (N := 43) (k := 25) rfl in_Mo (by decide) rfl w_553 (by decide +kernel)) ?_
  refine z_k (S_iload_n cx (k := 1) (by decide +kernel) rfl) ?_
  refine z_k (S_aload_n cx (k := 0) (by decide +kernel) rfl) ?_
  refine z_k (S_getf cx (T := F_Mo) (N := 43) (k := 23) rfl in_Mo (by decide) rfl w_551 (by decide +kernel)) ?_
  refine z_k (S_iload_n cx (k := 1) (by decide +kernel) rfl) ?_
  refine z_k (S_iald cx (by decide +kernel)) ?_
  refine z_k (S_aload_n cx (k := 0) (by decide +kernel) rfl) ?_
  refine z_k (S_getf cx (T := F_Mo) (N := 43) (k := 13) rfl in_Mo (by decide) rfl w_541 (by decide +kernel)) ?_
  refine z_k (S_iload_n cx (k := 1) (by decide +kernel) rfl) ?_
  refine z_k (S_iald cx (by decide +kernel)) ?_
  refine z_k (S_callS cx (r := r_Mo_last) rfl ⟨w_697, w_4, by decide, by decide +kernel⟩ w_695 w_696 (by decide +kernel)) ?_
  refine z_k (S_icmp_ne cx (off := 7) (by decide +kernel) (by decide)) ?_
  refine z_k (S_push cx (n := 0) (by decide +kernel) (by decide)) ?_
  refine z_k (S_goto cx (off := 9) (by decide +kernel) (by decide)) ?_
  refine z_k (S_aload_n cx (k := 0) (by decide +kernel) rfl) ?_
  refine z_k (S_getf cx (T := F_Mo) (N := 43) (k := 25) rfl in_Mo (by decide) rfl w_553 (by decide +kernel)) ?_
  exact z_k0
set_option maxRecDepth 100000 in
set_option maxHeartbeats 4000000 in
theorem s_Mo_keep_3 (cx : z_cx zTab g d p l e R s m args below meth c prog_8_method_11_code "SealedTalksModel" 2) (hn : meth.name = "keep") (hf : z_fin g p l e R s m args below meth c Q prog_8_method_11_code P none) : ∀ x ∈ k_Mo_keep_3, z_sn zTab g d p l e R s m args below meth c Q 2 P x := by
  unfold k_Mo_keep_3
  refine z_k (S_iload_n cx (k := 1) (by decide +kernel) rfl) ?_
  refine z_k (S_iald cx (by decide +kernel)) ?_
  refine z_k (S_iast cx (by decide +kernel)) ?_
  refine z_k (S_vret (hf.1 rfl) (by decide +kernel)) ?_
  exact z_k0
theorem s_Mo_keep : z_snd zTab r_Mo_keep := ⟨by decide +kernel, w_728, fun g d p l e R s m args below meth c Q P cx hn hf => z_k (s_Mo_keep_0 cx hn hf) (z_k (s_Mo_keep_1 cx hn hf) (z_k (s_Mo_keep_2 cx hn hf) (z_k (s_Mo_keep_3 cx hn hf) (z_k0))))⟩
end ZR40
