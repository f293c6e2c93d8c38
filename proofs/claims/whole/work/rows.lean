section
/-- a private method of a class that the tables say can be made, by its rows of tables_1 -/
def lw_okq (q : MethodName × Nat) : Prop := (q.1.cls ≠ "java/lang/invoke/MethodHandle" ∧ q.1.cls ≠ "java/lang/invoke/VarHandle") ∧ Cond.instantiable q.1.cls q.2 ∈ tables_1 ∧ Cond.privateMethod q.1 ∈ tables_1 ∧ Cond.instanceMethod q.1 ∈ tables_1
theorem lw_p0 : lw_okq (⟨"SealedTalks$Terms", "make", "(IIIII)I"⟩, 11) := ⟨⟨by decide +kernel, by decide +kernel⟩, List.mem_of_getElem? (i := 18) (by decide +kernel), List.mem_of_getElem? (i := 215) (by decide +kernel), List.mem_of_getElem? (i := 216) (by decide +kernel)⟩
theorem lw_p1 : lw_okq (⟨"SealedTalks$Terms", "judged", "(I)Z"⟩, 11) := ⟨⟨by decide +kernel, by decide +kernel⟩, List.mem_of_getElem? (i := 18) (by decide +kernel), List.mem_of_getElem? (i := 222) (by decide +kernel), List.mem_of_getElem? (i := 223) (by decide +kernel)⟩
theorem lw_p2 : lw_okq (⟨"SealedTalks", "sessionAt", "(I)LSealedTalks$Session;"⟩, 4) := ⟨⟨by decide +kernel, by decide +kernel⟩, List.mem_of_getElem? (i := 10) (by decide +kernel), List.mem_of_getElem? (i := 238) (by decide +kernel), List.mem_of_getElem? (i := 239) (by decide +kernel)⟩
theorem lw_p3 : lw_okq (⟨"SealedTalks$Agreement", "tokenAt", "(I)I"⟩, 12) := ⟨⟨by decide +kernel, by decide +kernel⟩, List.mem_of_getElem? (i := 130) (by decide +kernel), List.mem_of_getElem? (i := 262) (by decide +kernel), List.mem_of_getElem? (i := 263) (by decide +kernel)⟩
theorem lw_p4 : lw_okq (⟨"SealedTalks$Agreement", "addPart", "(LSealedTalks$Messages;I)V"⟩, 12) := ⟨⟨by decide +kernel, by decide +kernel⟩, List.mem_of_getElem? (i := 130) (by decide +kernel), List.mem_of_getElem? (i := 272) (by decide +kernel), List.mem_of_getElem? (i := 273) (by decide +kernel)⟩
theorem lw_p5 : lw_okq (⟨"SealedTalks$Agreement", "closedUp", "(I)I"⟩, 12) := ⟨⟨by decide +kernel, by decide +kernel⟩, List.mem_of_getElem? (i := 130) (by decide +kernel), List.mem_of_getElem? (i := 281) (by decide +kernel), List.mem_of_getElem? (i := 282) (by decide +kernel)⟩
theorem lw_p6 : lw_okq (⟨"SealedTalks$Agreement", "mixKeys", "(I)V"⟩, 12) := ⟨⟨by decide +kernel, by decide +kernel⟩, List.mem_of_getElem? (i := 130) (by decide +kernel), List.mem_of_getElem? (i := 289) (by decide +kernel), List.mem_of_getElem? (i := 290) (by decide +kernel)⟩
theorem lw_p7 : lw_okq (⟨"SealedTalks$Session", "endAgreement", "()V"⟩, 8) := ⟨⟨by decide +kernel, by decide +kernel⟩, List.mem_of_getElem? (i := 97) (by decide +kernel), List.mem_of_getElem? (i := 311) (by decide +kernel), List.mem_of_getElem? (i := 312) (by decide +kernel)⟩
theorem lw_p8 : lw_okq (⟨"SealedTalks$Channel", "isFresh", "(I)Z"⟩, 6) := ⟨⟨by decide +kernel, by decide +kernel⟩, List.mem_of_getElem? (i := 103) (by decide +kernel), List.mem_of_getElem? (i := 370) (by decide +kernel), List.mem_of_getElem? (i := 371) (by decide +kernel)⟩
theorem lw_p9 : lw_okq (⟨"SealedTalks$Agreement", "partsOfNext", "()I"⟩, 12) := ⟨⟨by decide +kernel, by decide +kernel⟩, List.mem_of_getElem? (i := 130) (by decide +kernel), List.mem_of_getElem? (i := 405) (by decide +kernel), List.mem_of_getElem? (i := 406) (by decide +kernel)⟩
theorem lw_p10 : lw_okq (⟨"SealedTalks$Agreement", "readKey", "(II)Z"⟩, 12) := ⟨⟨by decide +kernel, by decide +kernel⟩, List.mem_of_getElem? (i := 130) (by decide +kernel), List.mem_of_getElem? (i := 410) (by decide +kernel), List.mem_of_getElem? (i := 411) (by decide +kernel)⟩
theorem lw_p11 : lw_okq (⟨"SealedTalks$Agreement", "openedUp", "(I)I"⟩, 12) := ⟨⟨by decide +kernel, by decide +kernel⟩, List.mem_of_getElem? (i := 130) (by decide +kernel), List.mem_of_getElem? (i := 414) (by decide +kernel), List.mem_of_getElem? (i := 415) (by decide +kernel)⟩
theorem lw_p12 : lw_okq (⟨"SealedTalks", "makeChanged", "(III)I"⟩, 4) := ⟨⟨by decide +kernel, by decide +kernel⟩, List.mem_of_getElem? (i := 10) (by decide +kernel), List.mem_of_getElem? (i := 440) (by decide +kernel), List.mem_of_getElem? (i := 441) (by decide +kernel)⟩
theorem lw_p13 : lw_okq (⟨"SealedTalksModel", "num", "(I)I"⟩, 43) := ⟨⟨by decide +kernel, by decide +kernel⟩, List.mem_of_getElem? (i := 523) (by decide +kernel), List.mem_of_getElem? (i := 668) (by decide +kernel), List.mem_of_getElem? (i := 669) (by decide +kernel)⟩
theorem lw_p14 : lw_okq (⟨"SealedTalksModel", "term", "(IIIII)I"⟩, 43) := ⟨⟨by decide +kernel, by decide +kernel⟩, List.mem_of_getElem? (i := 523) (by decide +kernel), List.mem_of_getElem? (i := 672) (by decide +kernel), List.mem_of_getElem? (i := 673) (by decide +kernel)⟩
theorem lw_p15 : lw_okq (⟨"SealedTalksModel", "two", "(III)I"⟩, 43) := ⟨⟨by decide +kernel, by decide +kernel⟩, List.mem_of_getElem? (i := 523) (by decide +kernel), List.mem_of_getElem? (i := 676) (by decide +kernel), List.mem_of_getElem? (i := 677) (by decide +kernel)⟩
def lw_privs_1 : List (MethodName × Nat) := [(⟨"SealedTalks$Terms", "make", "(IIIII)I"⟩, 11), (⟨"SealedTalks$Terms", "judged", "(I)Z"⟩, 11), (⟨"SealedTalks", "sessionAt", "(I)LSealedTalks$Session;"⟩, 4), (⟨"SealedTalks$Agreement", "tokenAt", "(I)I"⟩, 12), (⟨"SealedTalks$Agreement", "addPart", "(LSealedTalks$Messages;I)V"⟩, 12), (⟨"SealedTalks$Agreement", "closedUp", "(I)I"⟩, 12), (⟨"SealedTalks$Agreement", "mixKeys", "(I)V"⟩, 12), (⟨"SealedTalks$Session", "endAgreement", "()V"⟩, 8), (⟨"SealedTalks$Channel", "isFresh", "(I)Z"⟩, 6), (⟨"SealedTalks$Agreement", "partsOfNext", "()I"⟩, 12), (⟨"SealedTalks$Agreement", "readKey", "(II)Z"⟩, 12), (⟨"SealedTalks$Agreement", "openedUp", "(I)I"⟩, 12), (⟨"SealedTalks", "makeChanged", "(III)I"⟩, 4), (⟨"SealedTalksModel", "num", "(I)I"⟩, 43), (⟨"SealedTalksModel", "term", "(IIIII)I"⟩, 43), (⟨"SealedTalksModel", "two", "(III)I"⟩, 43)]
theorem lw_r1 : ∀ q ∈ lw_privs_1, lw_okq q := List.forall_mem_cons.mpr ⟨lw_p0, List.forall_mem_cons.mpr ⟨lw_p1, List.forall_mem_cons.mpr ⟨lw_p2, List.forall_mem_cons.mpr ⟨lw_p3, List.forall_mem_cons.mpr ⟨lw_p4, List.forall_mem_cons.mpr ⟨lw_p5, List.forall_mem_cons.mpr ⟨lw_p6, List.forall_mem_cons.mpr ⟨lw_p7, List.forall_mem_cons.mpr ⟨lw_p8, List.forall_mem_cons.mpr ⟨lw_p9, List.forall_mem_cons.mpr ⟨lw_p10, List.forall_mem_cons.mpr ⟨lw_p11, List.forall_mem_cons.mpr ⟨lw_p12, List.forall_mem_cons.mpr ⟨lw_p13, List.forall_mem_cons.mpr ⟨lw_p14, List.forall_mem_cons.mpr ⟨lw_p15, fun _ h => absurd h List.not_mem_nil⟩⟩⟩⟩⟩⟩⟩⟩⟩⟩⟩⟩⟩⟩⟩⟩
theorem lw_p16 : lw_okq (⟨"SealedTalksModel", "pub", "(I)I"⟩, 43) := ⟨⟨by decide +kernel, by decide +kernel⟩, List.mem_of_getElem? (i := 523) (by decide +kernel), List.mem_of_getElem? (i := 680) (by decide +kernel), List.mem_of_getElem? (i := 681) (by decide +kernel)⟩
theorem lw_p17 : lw_okq (⟨"SealedTalksModel", "isSession", "(I)Z"⟩, 43) := ⟨⟨by decide +kernel, by decide +kernel⟩, List.mem_of_getElem? (i := 523) (by decide +kernel), List.mem_of_getElem? (i := 688) (by decide +kernel), List.mem_of_getElem? (i := 689) (by decide +kernel)⟩
theorem lw_p18 : lw_okq (⟨"SealedTalksModel", "isDone", "(I)Z"⟩, 43) := ⟨⟨by decide +kernel, by decide +kernel⟩, List.mem_of_getElem? (i := 523) (by decide +kernel), List.mem_of_getElem? (i := 692) (by decide +kernel), List.mem_of_getElem? (i := 693) (by decide +kernel)⟩
theorem lw_p19 : lw_okq (⟨"SealedTalksModel", "writes", "(I)Z"⟩, 43) := ⟨⟨by decide +kernel, by decide +kernel⟩, List.mem_of_getElem? (i := 523) (by decide +kernel), List.mem_of_getElem? (i := 699) (by decide +kernel), List.mem_of_getElem? (i := 700) (by decide +kernel)⟩
theorem lw_p20 : lw_okq (⟨"SealedTalksModel", "load", "(I)V"⟩, 43) := ⟨⟨by decide +kernel, by decide +kernel⟩, List.mem_of_getElem? (i := 523) (by decide +kernel), List.mem_of_getElem? (i := 703) (by decide +kernel), List.mem_of_getElem? (i := 704) (by decide +kernel)⟩
theorem lw_p21 : lw_okq (⟨"SealedTalksModel", "addPart", "(I)V"⟩, 43) := ⟨⟨by decide +kernel, by decide +kernel⟩, List.mem_of_getElem? (i := 523) (by decide +kernel), List.mem_of_getElem? (i := 710) (by decide +kernel), List.mem_of_getElem? (i := 711) (by decide +kernel)⟩
theorem lw_p22 : lw_okq (⟨"SealedTalksModel", "mixHash", "(I)V"⟩, 43) := ⟨⟨by decide +kernel, by decide +kernel⟩, List.mem_of_getElem? (i := 523) (by decide +kernel), List.mem_of_getElem? (i := 714) (by decide +kernel), List.mem_of_getElem? (i := 715) (by decide +kernel)⟩
theorem lw_p23 : lw_okq (⟨"SealedTalksModel", "put", "(I)V"⟩, 43) := ⟨⟨by decide +kernel, by decide +kernel⟩, List.mem_of_getElem? (i := 523) (by decide +kernel), List.mem_of_getElem? (i := 718) (by decide +kernel), List.mem_of_getElem? (i := 719) (by decide +kernel)⟩
theorem lw_p24 : lw_okq (⟨"SealedTalksModel", "agree", "(I)V"⟩, 43) := ⟨⟨by decide +kernel, by decide +kernel⟩, List.mem_of_getElem? (i := 523) (by decide +kernel), List.mem_of_getElem? (i := 722) (by decide +kernel), List.mem_of_getElem? (i := 723) (by decide +kernel)⟩
theorem lw_p25 : lw_okq (⟨"SealedTalksModel", "keep", "()V"⟩, 43) := ⟨⟨by decide +kernel, by decide +kernel⟩, List.mem_of_getElem? (i := 523) (by decide +kernel), List.mem_of_getElem? (i := 726) (by decide +kernel), List.mem_of_getElem? (i := 727) (by decide +kernel)⟩
theorem lw_p26 : lw_okq (⟨"SealedTalksModel", "newMessage", "(I)I"⟩, 43) := ⟨⟨by decide +kernel, by decide +kernel⟩, List.mem_of_getElem? (i := 523) (by decide +kernel), List.mem_of_getElem? (i := 730) (by decide +kernel), List.mem_of_getElem? (i := 731) (by decide +kernel)⟩
theorem lw_p27 : lw_okq (⟨"SealedTalksModel", "fetch", "(I)V"⟩, 43) := ⟨⟨by decide +kernel, by decide +kernel⟩, List.mem_of_getElem? (i := 523) (by decide +kernel), List.mem_of_getElem? (i := 738) (by decide +kernel), List.mem_of_getElem? (i := 739) (by decide +kernel)⟩
theorem lw_p28 : lw_okq (⟨"SealedTalksModel", "accepts", "(I)Z"⟩, 43) := ⟨⟨by decide +kernel, by decide +kernel⟩, List.mem_of_getElem? (i := 523) (by decide +kernel), List.mem_of_getElem? (i := 742) (by decide +kernel), List.mem_of_getElem? (i := 743) (by decide +kernel)⟩
theorem lw_p29 : lw_okq (⟨"SealedTalksModel", "took", "(II)V"⟩, 43) := ⟨⟨by decide +kernel, by decide +kernel⟩, List.mem_of_getElem? (i := 523) (by decide +kernel), List.mem_of_getElem? (i := 746) (by decide +kernel), List.mem_of_getElem? (i := 747) (by decide +kernel)⟩
theorem lw_p30 : lw_okq (⟨"SealedTalksModel", "reads", "(I)Z"⟩, 43) := ⟨⟨by decide +kernel, by decide +kernel⟩, List.mem_of_getElem? (i := 523) (by decide +kernel), List.mem_of_getElem? (i := 750) (by decide +kernel), List.mem_of_getElem? (i := 751) (by decide +kernel)⟩
theorem lw_p31 : lw_okq (⟨"SealedTalksModel", "run", "(I)I"⟩, 43) := ⟨⟨by decide +kernel, by decide +kernel⟩, List.mem_of_getElem? (i := 523) (by decide +kernel), List.mem_of_getElem? (i := 754) (by decide +kernel), List.mem_of_getElem? (i := 755) (by decide +kernel)⟩
def lw_privs_2 : List (MethodName × Nat) := [(⟨"SealedTalksModel", "pub", "(I)I"⟩, 43), (⟨"SealedTalksModel", "isSession", "(I)Z"⟩, 43), (⟨"SealedTalksModel", "isDone", "(I)Z"⟩, 43), (⟨"SealedTalksModel", "writes", "(I)Z"⟩, 43), (⟨"SealedTalksModel", "load", "(I)V"⟩, 43), (⟨"SealedTalksModel", "addPart", "(I)V"⟩, 43), (⟨"SealedTalksModel", "mixHash", "(I)V"⟩, 43), (⟨"SealedTalksModel", "put", "(I)V"⟩, 43), (⟨"SealedTalksModel", "agree", "(I)V"⟩, 43), (⟨"SealedTalksModel", "keep", "()V"⟩, 43), (⟨"SealedTalksModel", "newMessage", "(I)I"⟩, 43), (⟨"SealedTalksModel", "fetch", "(I)V"⟩, 43), (⟨"SealedTalksModel", "accepts", "(I)Z"⟩, 43), (⟨"SealedTalksModel", "took", "(II)V"⟩, 43), (⟨"SealedTalksModel", "reads", "(I)Z"⟩, 43), (⟨"SealedTalksModel", "run", "(I)I"⟩, 43)]
theorem lw_r2 : ∀ q ∈ lw_privs_2, lw_okq q := List.forall_mem_cons.mpr ⟨lw_p16, List.forall_mem_cons.mpr ⟨lw_p17, List.forall_mem_cons.mpr ⟨lw_p18, List.forall_mem_cons.mpr ⟨lw_p19, List.forall_mem_cons.mpr ⟨lw_p20, List.forall_mem_cons.mpr ⟨lw_p21, List.forall_mem_cons.mpr ⟨lw_p22, List.forall_mem_cons.mpr ⟨lw_p23, List.forall_mem_cons.mpr ⟨lw_p24, List.forall_mem_cons.mpr ⟨lw_p25, List.forall_mem_cons.mpr ⟨lw_p26, List.forall_mem_cons.mpr ⟨lw_p27, List.forall_mem_cons.mpr ⟨lw_p28, List.forall_mem_cons.mpr ⟨lw_p29, List.forall_mem_cons.mpr ⟨lw_p30, List.forall_mem_cons.mpr ⟨lw_p31, fun _ h => absurd h List.not_mem_nil⟩⟩⟩⟩⟩⟩⟩⟩⟩⟩⟩⟩⟩⟩⟩⟩
theorem lw_p32 : lw_okq (⟨"SealedTalksModel", "nextPart", "()I"⟩, 43) := ⟨⟨by decide +kernel, by decide +kernel⟩, List.mem_of_getElem? (i := 523) (by decide +kernel), List.mem_of_getElem? (i := 758) (by decide +kernel), List.mem_of_getElem? (i := 759) (by decide +kernel)⟩
theorem lw_p33 : lw_okq (⟨"SealedTalksModel", "take", "(I)I"⟩, 43) := ⟨⟨by decide +kernel, by decide +kernel⟩, List.mem_of_getElem? (i := 523) (by decide +kernel), List.mem_of_getElem? (i := 762) (by decide +kernel), List.mem_of_getElem? (i := 763) (by decide +kernel)⟩
theorem lw_p34 : lw_okq (⟨"SealedTalksModel", "isPart", "(II)Z"⟩, 43) := ⟨⟨by decide +kernel, by decide +kernel⟩, List.mem_of_getElem? (i := 523) (by decide +kernel), List.mem_of_getElem? (i := 774) (by decide +kernel), List.mem_of_getElem? (i := 775) (by decide +kernel)⟩
theorem lw_p35 : lw_okq (⟨"SealedTalksModel", "workOut", "()V"⟩, 43) := ⟨⟨by decide +kernel, by decide +kernel⟩, List.mem_of_getElem? (i := 523) (by decide +kernel), List.mem_of_getElem? (i := 818) (by decide +kernel), List.mem_of_getElem? (i := 819) (by decide +kernel)⟩
def lw_privs_3 : List (MethodName × Nat) := [(⟨"SealedTalksModel", "nextPart", "()I"⟩, 43), (⟨"SealedTalksModel", "take", "(I)I"⟩, 43), (⟨"SealedTalksModel", "isPart", "(II)Z"⟩, 43), (⟨"SealedTalksModel", "workOut", "()V"⟩, 43)]
theorem lw_r3 : ∀ q ∈ lw_privs_3, lw_okq q := List.forall_mem_cons.mpr ⟨lw_p32, List.forall_mem_cons.mpr ⟨lw_p33, List.forall_mem_cons.mpr ⟨lw_p34, List.forall_mem_cons.mpr ⟨lw_p35, fun _ h => absurd h List.not_mem_nil⟩⟩⟩⟩
def lw_privs : List (MethodName × Nat) := lw_privs_1 ++ (lw_privs_2 ++ (lw_privs_3))
def lw_tbl : List Cond := k2_sels lw_privs ++ tables_1
theorem lw_privs_ok : ∀ q ∈ lw_privs, lw_okq q := by
  show ∀ q ∈ lw_privs_1 ++ (lw_privs_2 ++ (lw_privs_3)), lw_okq q
  exact List.forall_mem_append.mpr ⟨lw_r1, List.forall_mem_append.mpr ⟨lw_r2, lw_r3⟩⟩
end
section
/-! Names, by program: the fields of each type, the words, the methods. -/
theorem z_in (k : Nat) {w : Cond} (h : tables_1[k]? = some w) (hg : goodWord w = true) : w ∈ lw_tbl.filter goodWord := List.mem_filter.mpr ⟨List.mem_append_right _ (List.mem_of_getElem? h), hg⟩
theorem z_inp (k : Nat) {w : Cond} (h : (k2_sels lw_privs)[k]? = some w) (hg : goodWord w = true) : w ∈ lw_tbl.filter goodWord := List.mem_filter.mpr ⟨List.mem_append_left _ (List.mem_of_getElem? h), hg⟩
def z_WS : List Cond := lw_tbl.filter goodWord
theorem z_WS_ok : ∀ w ∈ z_WS, (w.onTables && w.keeps) = true ∨ ∃ ty, w = .arrayClass ty := fun _ hw => good_of_word (List.mem_filter.mp hw).2
theorem z_WS_tbl : ∀ w ∈ z_WS, w ∈ lw_tbl := fun _ hw => (List.mem_filter.mp hw).1
def z_isN (w : Cond) : Bool := match w with
  | .fieldLinkNest _ _ _ _ _ _ => true
  | .methodLinkNest _ _ _ _ => true
  | _ => false
def z_NW : List Cond := tables_1.filter z_isN
theorem z_NW_is : ∀ w ∈ z_NW, z_isN w = true := fun _ hw => (List.mem_filter.mp hw).2
theorem z_NW_tbl : ∀ w ∈ z_NW, w ∈ lw_tbl := fun _ hw => List.mem_append_right _ (List.mem_filter.mp hw).1
theorem z_nin (k : Nat) {w : Cond} (h : tables_1[k]? = some w) (hg : z_isN w = true) : w ∈ z_NW := List.mem_filter.mpr ⟨List.mem_of_getElem? h, hg⟩
def z_RS : String := "SealedTalks$Session"
def z_RA : String := "SealedTalks$Agreement"
def R_Ag : String := "SealedTalks$Agreement"
def F_Ag : u_T := fun k => match k with
  | 0 => ("SealedTalks$Agreement", "terms", "LSealedTalks$Terms;", true)
  | 1 => ("SealedTalks$Agreement", "pattern", "I", false)
  | 2 => ("SealedTalks$Agreement", "initiator", "Z", false)
  | 3 => ("SealedTalks$Agreement", "ownStatic", "I", false)
  | 4 => ("SealedTalks$Agreement", "ownEphemeral", "I", false)
  | 5 => ("SealedTalks$Agreement", "otherStatic", "I", false)
  | 6 => ("SealedTalks$Agreement", "otherEphemeral", "I", false)
  | 7 => ("SealedTalks$Agreement", "h", "I", false)
  | 8 => ("SealedTalks$Agreement", "ck", "I", false)
  | 9 => ("SealedTalks$Agreement", "k", "I", false)
  | 10 => ("SealedTalks$Agreement", "n", "I", false)
  | _ => ("SealedTalks$Agreement", "stepsMade", "I", false)
def t_Ag : Nat → FieldType := fun k => match k with
  | 0 => .object "SealedTalks$Terms"
  | 1 => .int
  | 2 => .boolean
  | 3 => .int
  | 4 => .int
  | 5 => .int
  | 6 => .int
  | 7 => .int
  | 8 => .int
  | 9 => .int
  | 10 => .int
  | _ => .int
set_option maxRecDepth 100000 in
theorem n_Ag : ∀ a, a < 12 → ∀ b, b < 12 → a ≠ b → (F_Ag a).2.1 ≠ (F_Ag b).2.1 := by decide +kernel
theorem t_Ag_ok : ∀ k, k < 12 → parseFieldDescriptor (F_Ag k).2.2.1 = some (t_Ag k) := by decide +kernel
set_option maxRecDepth 100000 in
theorem in_Ag : ∀ w ∈ u_ws R_Ag F_Ag 12, w ∈ z_WS := by decide +kernel
def R_Ch : String := "SealedTalks$Channel"
def F_Ch : u_T := fun k => match k with
  | 0 => ("SealedTalks$Channel", "terms", "LSealedTalks$Terms;", true)
  | 1 => ("SealedTalks$Channel", "taken", "[Z", true)
  | 2 => ("SealedTalks$Channel", "sendKey", "I", false)
  | 3 => ("SealedTalks$Channel", "receiveKey", "I", false)
  | 4 => ("SealedTalks$Channel", "sent", "I", false)
  | _ => ("SealedTalks$Channel", "top", "I", false)
def t_Ch : Nat → FieldType := fun k => match k with
  | 0 => .object "SealedTalks$Terms"
  | 1 => .array .boolean
  | 2 => .int
  | 3 => .int
  | 4 => .int
  | _ => .int
set_option maxRecDepth 100000 in
theorem n_Ch : ∀ a, a < 6 → ∀ b, b < 6 → a ≠ b → (F_Ch a).2.1 ≠ (F_Ch b).2.1 := by decide +kernel
theorem t_Ch_ok : ∀ k, k < 6 → parseFieldDescriptor (F_Ch k).2.2.1 = some (t_Ch k) := by decide +kernel
set_option maxRecDepth 100000 in
theorem in_Ch : ∀ w ∈ u_ws R_Ch F_Ch 6, w ∈ z_WS := by decide +kernel
def R_Me : String := "SealedTalks$Messages"
def F_Me : u_T := fun k => match k with
  | 0 => ("SealedTalks$Messages", "sizes", "[I", true)
  | 1 => ("SealedTalks$Messages", "rows", "[I", true)
  | _ => ("SealedTalks$Messages", "made", "I", false)
def t_Me : Nat → FieldType := fun k => match k with
  | 0 => .array .int
  | 1 => .array .int
  | _ => .int
set_option maxRecDepth 100000 in
theorem n_Me : ∀ a, a < 3 → ∀ b, b < 3 → a ≠ b → (F_Me a).2.1 ≠ (F_Me b).2.1 := by decide +kernel
theorem t_Me_ok : ∀ k, k < 3 → parseFieldDescriptor (F_Me k).2.2.1 = some (t_Me k) := by decide +kernel
set_option maxRecDepth 100000 in
theorem in_Me : ∀ w ∈ u_ws R_Me F_Me 3, w ∈ z_WS := by decide +kernel
def R_Se : String := "SealedTalks$Session"
def F_Se : u_T := fun k => match k with
  | 0 => ("SealedTalks$Session", "terms", "LSealedTalks$Terms;", true)
  | 1 => ("SealedTalks$Session", "channel", "LSealedTalks$Channel;", true)
  | 2 => ("SealedTalks$Session", "agreement", "LSealedTalks$Agreement;", true)
  | 3 => ("SealedTalks$Session", "draft", "LSealedTalks$Agreement;", true)
  | 4 => ("SealedTalks$Session", "closed", "Z", false)
  | 5 => ("SealedTalks$Session", "ticks", "I", false)
  | 6 => ("SealedTalks$Session", "latestPayload", "I", false)
  | _ => ("SealedTalks$Session", "payloadCount", "I", false)
def t_Se : Nat → FieldType := fun k => match k with
  | 0 => .object "SealedTalks$Terms"
  | 1 => .object "SealedTalks$Channel"
  | 2 => .object "SealedTalks$Agreement"
  | 3 => .object "SealedTalks$Agreement"
  | 4 => .boolean
  | 5 => .int
  | 6 => .int
  | _ => .int
set_option maxRecDepth 100000 in
theorem n_Se : ∀ a, a < 8 → ∀ b, b < 8 → a ≠ b → (F_Se a).2.1 ≠ (F_Se b).2.1 := by decide +kernel
theorem t_Se_ok : ∀ k, k < 8 → parseFieldDescriptor (F_Se k).2.2.1 = some (t_Se k) := by decide +kernel
set_option maxRecDepth 100000 in
theorem in_Se : ∀ w ∈ u_ws R_Se F_Se 8, w ∈ z_WS := by decide +kernel
def R_Te : String := "SealedTalks$Terms"
def F_Te : u_T := fun k => match k with
  | 0 => ("SealedTalks$Terms", "kind", "[I", true)
  | 1 => ("SealedTalks$Terms", "first", "[I", true)
  | 2 => ("SealedTalks$Terms", "second", "[I", true)
  | 3 => ("SealedTalks$Terms", "third", "[I", true)
  | 4 => ("SealedTalks$Terms", "fourth", "[I", true)
  | 5 => ("SealedTalks$Terms", "known", "[Z", true)
  | 6 => ("SealedTalks$Terms", "nextInBucket", "[I", true)
  | 7 => ("SealedTalks$Terms", "newestInBucket", "[I", true)
  | 8 => ("SealedTalks$Terms", "given", "[Z", true)
  | 9 => ("SealedTalks$Terms", "lastTerm", "I", false)
  | _ => ("SealedTalks$Terms", "lastKey", "I", false)
def t_Te : Nat → FieldType := fun k => match k with
  | 0 => .array .int
  | 1 => .array .int
  | 2 => .array .int
  | 3 => .array .int
  | 4 => .array .int
  | 5 => .array .boolean
  | 6 => .array .int
  | 7 => .array .int
  | 8 => .array .boolean
  | 9 => .int
  | _ => .int
set_option maxRecDepth 100000 in
theorem n_Te : ∀ a, a < 11 → ∀ b, b < 11 → a ≠ b → (F_Te a).2.1 ≠ (F_Te b).2.1 := by decide +kernel
theorem t_Te_ok : ∀ k, k < 11 → parseFieldDescriptor (F_Te k).2.2.1 = some (t_Te k) := by decide +kernel
set_option maxRecDepth 100000 in
theorem in_Te : ∀ w ∈ u_ws R_Te F_Te 11, w ∈ z_WS := by decide +kernel
def R_St : String := "SealedTalks"
def F_St : u_T := fun k => match k with
  | 0 => ("SealedTalks", "terms", "LSealedTalks$Terms;", true)
  | 1 => ("SealedTalks", "messages", "LSealedTalks$Messages;", true)
  | 2 => ("SealedTalks", "sessions", "[LSealedTalks$Session;", true)
  | _ => ("SealedTalks", "started", "I", false)
def t_St : Nat → FieldType := fun k => match k with
  | 0 => .object "SealedTalks$Terms"
  | 1 => .object "SealedTalks$Messages"
  | 2 => .array (.object "SealedTalks$Session")
  | _ => .int
set_option maxRecDepth 100000 in
theorem n_St : ∀ a, a < 4 → ∀ b, b < 4 → a ≠ b → (F_St a).2.1 ≠ (F_St b).2.1 := by decide +kernel
theorem t_St_ok : ∀ k, k < 4 → parseFieldDescriptor (F_St k).2.2.1 = some (t_St k) := by decide +kernel
set_option maxRecDepth 100000 in
theorem in_St : ∀ w ∈ u_ws R_St F_St 4, w ∈ z_WS := by decide +kernel
def R_Mo : String := "SealedTalksModel"
def F_Mo : u_T := fun k => match k with
  | 0 => ("SealedTalksModel", "terms", "I", false)
  | 1 => ("SealedTalksModel", "kind", "[B", false)
  | 2 => ("SealedTalksModel", "value", "[I", false)
  | 3 => ("SealedTalksModel", "first", "[S", false)
  | 4 => ("SealedTalksModel", "second", "[S", false)
  | 5 => ("SealedTalksModel", "inside", "[S", false)
  | 6 => ("SealedTalksModel", "known", "[Z", false)
  | 7 => ("SealedTalksModel", "messages", "I", false)
  | 8 => ("SealedTalksModel", "sizes", "[I", false)
  | 9 => ("SealedTalksModel", "partOf", "[I", false)
  | 10 => ("SealedTalksModel", "made", "I", false)
  | 11 => ("SealedTalksModel", "given", "[Z", false)
  | 12 => ("SealedTalksModel", "sessions", "I", false)
  | 13 => ("SealedTalksModel", "pattern", "[I", false)
  | 14 => ("SealedTalksModel", "starts", "[Z", false)
  | 15 => ("SealedTalksModel", "own", "[I", false)
  | 16 => ("SealedTalksModel", "ephemeral", "[I", false)
  | 17 => ("SealedTalksModel", "otherEphemeral", "[I", false)
  | 18 => ("SealedTalksModel", "otherStatic", "[I", false)
  | 19 => ("SealedTalksModel", "hash", "[I", false)
  | 20 => ("SealedTalksModel", "chain", "[I", false)
  | 21 => ("SealedTalksModel", "key", "[I", false)
  | 22 => ("SealedTalksModel", "counter", "[I", false)
  | 23 => ("SealedTalksModel", "done", "[I", false)
  | 24 => ("SealedTalksModel", "closed", "[Z", false)
  | 25 => ("SealedTalksModel", "age", "[I", false)
  | 26 => ("SealedTalksModel", "latest", "[I", false)
  | 27 => ("SealedTalksModel", "read", "[I", false)
  | 28 => ("SealedTalksModel", "sent", "[I", false)
  | 29 => ("SealedTalksModel", "top", "[I", false)
  | 30 => ("SealedTalksModel", "window", "[I", false)
  | 31 => ("SealedTalksModel", "role", "I", false)
  | 32 => ("SealedTalksModel", "h", "I", false)
  | 33 => ("SealedTalksModel", "ck", "I", false)
  | 34 => ("SealedTalksModel", "k", "I", false)
  | 35 => ("SealedTalksModel", "n", "I", false)
  | 36 => ("SealedTalksModel", "e", "I", false)
  | 37 => ("SealedTalksModel", "re", "I", false)
  | 38 => ("SealedTalksModel", "rs", "I", false)
  | 39 => ("SealedTalksModel", "size", "I", false)
  | 40 => ("SealedTalksModel", "parts", "[I", false)
  | 41 => ("SealedTalksModel", "at", "I", false)
  | _ => ("SealedTalksModel", "failed", "Z", false)
def t_Mo : Nat → FieldType := fun k => match k with
  | 0 => .int
  | 1 => .array .byte
  | 2 => .array .int
  | 3 => .array .short
  | 4 => .array .short
  | 5 => .array .short
  | 6 => .array .boolean
  | 7 => .int
  | 8 => .array .int
  | 9 => .array .int
  | 10 => .int
  | 11 => .array .boolean
  | 12 => .int
  | 13 => .array .int
  | 14 => .array .boolean
  | 15 => .array .int
  | 16 => .array .int
  | 17 => .array .int
  | 18 => .array .int
  | 19 => .array .int
  | 20 => .array .int
  | 21 => .array .int
  | 22 => .array .int
  | 23 => .array .int
  | 24 => .array .boolean
  | 25 => .array .int
  | 26 => .array .int
  | 27 => .array .int
  | 28 => .array .int
  | 29 => .array .int
  | 30 => .array .int
  | 31 => .int
  | 32 => .int
  | 33 => .int
  | 34 => .int
  | 35 => .int
  | 36 => .int
  | 37 => .int
  | 38 => .int
  | 39 => .int
  | 40 => .array .int
  | 41 => .int
  | _ => .boolean
set_option maxRecDepth 100000 in
theorem n_Mo : ∀ a, a < 43 → ∀ b, b < 43 → a ≠ b → (F_Mo a).2.1 ≠ (F_Mo b).2.1 := by decide +kernel
theorem t_Mo_ok : ∀ k, k < 43 → parseFieldDescriptor (F_Mo k).2.2.1 = some (t_Mo k) := by decide +kernel
set_option maxRecDepth 100000 in
theorem in_Mo : ∀ w ∈ u_ws R_Mo F_Mo 43, w ∈ z_WS := by decide +kernel
abbrev vwCl : List vw_C := [(R_Ag, F_Ag, 12), (R_Ch, F_Ch, 6), (R_Me, F_Me, 3), (R_Se, F_Se, 8), (R_Te, F_Te, 11), (R_St, F_St, 4), (R_Mo, F_Mo, 43)]
def y_Ag_init : MethodName := ⟨"SealedTalks$Agreement", "<init>", "(LSealedTalks$Terms;)V"⟩
def y_Ag_begin : MethodName := ⟨"SealedTalks$Agreement", "begin", "(IZIII)V"⟩
def y_Ag_copyFrom : MethodName := ⟨"SealedTalks$Agreement", "copyFrom", "(LSealedTalks$Agreement;)V"⟩
def y_Ag_isDone : MethodName := ⟨"SealedTalks$Agreement", "isDone", "()Z"⟩
def y_Ag_isOwnTurn : MethodName := ⟨"SealedTalks$Agreement", "isOwnTurn", "()Z"⟩
def y_Ag_writeNext : MethodName := ⟨"SealedTalks$Agreement", "writeNext", "(LSealedTalks$Messages;I)V"⟩
def y_Ag_readNext : MethodName := ⟨"SealedTalks$Agreement", "readNext", "(LSealedTalks$Messages;I)I"⟩
def y_Ag_tokenAt : MethodName := ⟨"SealedTalks$Agreement", "tokenAt", "(I)I"⟩
def y_Ag_partsOfNext : MethodName := ⟨"SealedTalks$Agreement", "partsOfNext", "()I"⟩
def y_Ag_addPart : MethodName := ⟨"SealedTalks$Agreement", "addPart", "(LSealedTalks$Messages;I)V"⟩
def y_Ag_readKey : MethodName := ⟨"SealedTalks$Agreement", "readKey", "(II)Z"⟩
def y_Ag_closedUp : MethodName := ⟨"SealedTalks$Agreement", "closedUp", "(I)I"⟩
def y_Ag_openedUp : MethodName := ⟨"SealedTalks$Agreement", "openedUp", "(I)I"⟩
def y_Ag_mixKeys : MethodName := ⟨"SealedTalks$Agreement", "mixKeys", "(I)V"⟩
def y_Ch_init : MethodName := ⟨"SealedTalks$Channel", "<init>", "(LSealedTalks$Terms;)V"⟩
def y_Ch_setKeys : MethodName := ⟨"SealedTalks$Channel", "setKeys", "(IZ)V"⟩
def y_Ch_sendNext : MethodName := ⟨"SealedTalks$Channel", "sendNext", "(LSealedTalks$Messages;I)V"⟩
def y_Ch_acceptNext : MethodName := ⟨"SealedTalks$Channel", "acceptNext", "(LSealedTalks$Messages;I)I"⟩
def y_Ch_isFresh : MethodName := ⟨"SealedTalks$Channel", "isFresh", "(I)Z"⟩
def y_Me_init : MethodName := ⟨"SealedTalks$Messages", "<init>", "()V"⟩
def y_Me_isFull : MethodName := ⟨"SealedTalks$Messages", "isFull", "()Z"⟩
def y_Me_has : MethodName := ⟨"SealedTalks$Messages", "has", "(I)Z"⟩
def y_Me_sizeOf : MethodName := ⟨"SealedTalks$Messages", "sizeOf", "(I)I"⟩
def y_Me_partAt : MethodName := ⟨"SealedTalks$Messages", "partAt", "(II)I"⟩
def y_Me_addPart : MethodName := ⟨"SealedTalks$Messages", "addPart", "(I)V"⟩
def y_Me_finish : MethodName := ⟨"SealedTalks$Messages", "finish", "()I"⟩
def y_Se_init : MethodName := ⟨"SealedTalks$Session", "<init>", "(LSealedTalks$Terms;)V"⟩
def y_Se_writeNext : MethodName := ⟨"SealedTalks$Session", "writeNext", "(LSealedTalks$Messages;I)V"⟩
def y_Se_readNext : MethodName := ⟨"SealedTalks$Session", "readNext", "(LSealedTalks$Messages;I)I"⟩
def y_Se_notePayload : MethodName := ⟨"SealedTalks$Session", "notePayload", "(I)V"⟩
def y_Se_passTick : MethodName := ⟨"SealedTalks$Session", "passTick", "()Z"⟩
def y_Se_endAgreement : MethodName := ⟨"SealedTalks$Session", "endAgreement", "()V"⟩
def y_Te_init : MethodName := ⟨"SealedTalks$Terms", "<init>", "()V"⟩
def y_Te_num : MethodName := ⟨"SealedTalks$Terms", "num", "(I)I"⟩
def y_Te_pub : MethodName := ⟨"SealedTalks$Terms", "pub", "(I)I"⟩
def y_Te_dh : MethodName := ⟨"SealedTalks$Terms", "dh", "(II)I"⟩
def y_Te_hash : MethodName := ⟨"SealedTalks$Terms", "hash", "(II)I"⟩
def y_Te_chain : MethodName := ⟨"SealedTalks$Terms", "chain", "(II)I"⟩
def y_Te_key : MethodName := ⟨"SealedTalks$Terms", "key", "(II)I"⟩
def y_Te_half : MethodName := ⟨"SealedTalks$Terms", "half", "(II)I"⟩
def y_Te_seal : MethodName := ⟨"SealedTalks$Terms", "seal", "(IIII)I"⟩
def y_Te_isNum : MethodName := ⟨"SealedTalks$Terms", "isNum", "(I)Z"⟩
def y_Te_isPub : MethodName := ⟨"SealedTalks$Terms", "isPub", "(I)Z"⟩
def y_Te_isSeal : MethodName := ⟨"SealedTalks$Terms", "isSeal", "(I)Z"⟩
def y_Te_isSealOf : MethodName := ⟨"SealedTalks$Terms", "isSealOf", "(IIII)Z"⟩
def y_Te_valueOf : MethodName := ⟨"SealedTalks$Terms", "valueOf", "(I)I"⟩
def y_Te_insideOf : MethodName := ⟨"SealedTalks$Terms", "insideOf", "(I)I"⟩
def y_Te_canWorkOut : MethodName := ⟨"SealedTalks$Terms", "canWorkOut", "(I)Z"⟩
def y_Te_canOpen : MethodName := ⟨"SealedTalks$Terms", "canOpen", "(I)Z"⟩
def y_Te_makeKey : MethodName := ⟨"SealedTalks$Terms", "makeKey", "()I"⟩
def y_Te_giveAway : MethodName := ⟨"SealedTalks$Terms", "giveAway", "(I)Z"⟩
def y_Te_newest : MethodName := ⟨"SealedTalks$Terms", "newest", "()I"⟩
def y_Te_dropBehind : MethodName := ⟨"SealedTalks$Terms", "dropBehind", "(I)V"⟩
def y_Te_make : MethodName := ⟨"SealedTalks$Terms", "make", "(IIIII)I"⟩
def y_Te_judged : MethodName := ⟨"SealedTalks$Terms", "judged", "(I)Z"⟩
def y_Te_bucketOf : MethodName := ⟨"SealedTalks$Terms", "bucketOf", "(IIIII)I"⟩
def y_St_init : MethodName := ⟨"SealedTalks", "<init>", "()V"⟩
def y_St_start : MethodName := ⟨"SealedTalks", "start", "(IZIII)I"⟩
def y_St_write : MethodName := ⟨"SealedTalks", "write", "(II)I"⟩
def y_St_send : MethodName := ⟨"SealedTalks", "send", "(II)I"⟩
def y_St_deliver : MethodName := ⟨"SealedTalks", "deliver", "(II)I"⟩
def y_St_splice : MethodName := ⟨"SealedTalks", "splice", "(IIII)I"⟩
def y_St_replace : MethodName := ⟨"SealedTalks", "replace", "(III)I"⟩
def y_St_give : MethodName := ⟨"SealedTalks", "give", "(I)Z"⟩
def y_St_tick : MethodName := ⟨"SealedTalks", "tick", "()I"⟩
def y_St_state : MethodName := ⟨"SealedTalks", "state", "(I)I"⟩
def y_St_steps : MethodName := ⟨"SealedTalks", "steps", "(I)I"⟩
def y_St_peer : MethodName := ⟨"SealedTalks", "peer", "(I)I"⟩
def y_St_payload : MethodName := ⟨"SealedTalks", "payload", "(I)I"⟩
def y_St_accepted : MethodName := ⟨"SealedTalks", "accepted", "(I)I"⟩
def y_St_match : MethodName := ⟨"SealedTalks", "match", "(II)Z"⟩
def y_St_open : MethodName := ⟨"SealedTalks", "open", "(I)Z"⟩
def y_St_parts : MethodName := ⟨"SealedTalks", "parts", "(I)I"⟩
def y_St_sees : MethodName := ⟨"SealedTalks", "sees", "(II)I"⟩
def y_St_shown : MethodName := ⟨"SealedTalks", "shown", "(II)I"⟩
def y_St_same : MethodName := ⟨"SealedTalks", "same", "(IIII)Z"⟩
def y_St_isStaticKey : MethodName := ⟨"SealedTalks", "isStaticKey", "(I)Z"⟩
def y_St_sessionAt : MethodName := ⟨"SealedTalks", "sessionAt", "(I)LSealedTalks$Session;"⟩
def y_St_makeChanged : MethodName := ⟨"SealedTalks", "makeChanged", "(III)I"⟩
def y_Mo_init : MethodName := ⟨"SealedTalksModel", "<init>", "()V"⟩
def y_Mo_within : MethodName := ⟨"SealedTalksModel", "within", "(III)Z"⟩
def y_Mo_term : MethodName := ⟨"SealedTalksModel", "term", "(IIIII)I"⟩
def y_Mo_num : MethodName := ⟨"SealedTalksModel", "num", "(I)I"⟩
def y_Mo_pub : MethodName := ⟨"SealedTalksModel", "pub", "(I)I"⟩
def y_Mo_two : MethodName := ⟨"SealedTalksModel", "two", "(III)I"⟩
def y_Mo_workOut : MethodName := ⟨"SealedTalksModel", "workOut", "()V"⟩
def y_Mo_token : MethodName := ⟨"SealedTalksModel", "token", "(III)I"⟩
def y_Mo_last : MethodName := ⟨"SealedTalksModel", "last", "(I)I"⟩
def y_Mo_load : MethodName := ⟨"SealedTalksModel", "load", "(I)V"⟩
def y_Mo_keep : MethodName := ⟨"SealedTalksModel", "keep", "()V"⟩
def y_Mo_mixHash : MethodName := ⟨"SealedTalksModel", "mixHash", "(I)V"⟩
def y_Mo_agree : MethodName := ⟨"SealedTalksModel", "agree", "(I)V"⟩
def y_Mo_addPart : MethodName := ⟨"SealedTalksModel", "addPart", "(I)V"⟩
def y_Mo_put : MethodName := ⟨"SealedTalksModel", "put", "(I)V"⟩
def y_Mo_nextPart : MethodName := ⟨"SealedTalksModel", "nextPart", "()I"⟩
def y_Mo_take : MethodName := ⟨"SealedTalksModel", "take", "(I)I"⟩
def y_Mo_start : MethodName := ⟨"SealedTalksModel", "start", "(IZIII)I"⟩
def y_Mo_isSession : MethodName := ⟨"SealedTalksModel", "isSession", "(I)Z"⟩
def y_Mo_isDone : MethodName := ⟨"SealedTalksModel", "isDone", "(I)Z"⟩
def y_Mo_writes : MethodName := ⟨"SealedTalksModel", "writes", "(I)Z"⟩
def y_Mo_newMessage : MethodName := ⟨"SealedTalksModel", "newMessage", "(I)I"⟩
def y_Mo_write : MethodName := ⟨"SealedTalksModel", "write", "(II)I"⟩
def y_Mo_fetch : MethodName := ⟨"SealedTalksModel", "fetch", "(I)V"⟩
def y_Mo_run : MethodName := ⟨"SealedTalksModel", "run", "(I)I"⟩
def y_Mo_took : MethodName := ⟨"SealedTalksModel", "took", "(II)V"⟩
def y_Mo_reads : MethodName := ⟨"SealedTalksModel", "reads", "(I)Z"⟩
def y_Mo_accepts : MethodName := ⟨"SealedTalksModel", "accepts", "(I)Z"⟩
def y_Mo_deliver : MethodName := ⟨"SealedTalksModel", "deliver", "(II)I"⟩
def y_Mo_send : MethodName := ⟨"SealedTalksModel", "send", "(II)I"⟩
def y_Mo_isPart : MethodName := ⟨"SealedTalksModel", "isPart", "(II)Z"⟩
def y_Mo_splice : MethodName := ⟨"SealedTalksModel", "splice", "(IIII)I"⟩
def y_Mo_replace : MethodName := ⟨"SealedTalksModel", "replace", "(III)I"⟩
def y_Mo_give : MethodName := ⟨"SealedTalksModel", "give", "(I)Z"⟩
def y_Mo_tick : MethodName := ⟨"SealedTalksModel", "tick", "()I"⟩
def y_Mo_state : MethodName := ⟨"SealedTalksModel", "state", "(I)I"⟩
def y_Mo_steps : MethodName := ⟨"SealedTalksModel", "steps", "(I)I"⟩
def y_Mo_peer : MethodName := ⟨"SealedTalksModel", "peer", "(I)I"⟩
def y_Mo_payload : MethodName := ⟨"SealedTalksModel", "payload", "(I)I"⟩
def y_Mo_accepted : MethodName := ⟨"SealedTalksModel", "accepted", "(I)I"⟩
def y_Mo_match : MethodName := ⟨"SealedTalksModel", "match", "(II)Z"⟩
def y_Mo_open : MethodName := ⟨"SealedTalksModel", "open", "(I)Z"⟩
def y_Mo_parts : MethodName := ⟨"SealedTalksModel", "parts", "(I)I"⟩
def y_Mo_sees : MethodName := ⟨"SealedTalksModel", "sees", "(II)I"⟩
def y_Mo_shown : MethodName := ⟨"SealedTalksModel", "shown", "(II)I"⟩
def y_Mo_same : MethodName := ⟨"SealedTalksModel", "same", "(IIII)Z"⟩
end
section
/-! A small machine for this claim: cells have places (0, 1, ..), not addresses; a step is a predicate transformer. Written by hand. -/
abbrev zH : Type := (Nat → va_E) × Nat
abbrev zLc : Type := List (Option Value)
abbrev zC : Type := Nat × zLc × List Value × zH × Nat × Nat
abbrev zP : Type := Option Value → zH → Prop
abbrev zM : Type := Nat → List Value → zH → Nat → Nat → zP → Prop
abbrev zE : Type := zM × (Nat × Nat) × (Nat × (Nat → Int32))
abbrev zI : Type := zE → zC → (zC → Prop) → zP → Prop
abbrev zCd : Type := List (Nat × List (Nat × zI))
def z_def : va_E := .inl (0, 0, .inl (fun _ => 0))
def z_tok (j : Nat) : Int32 := ([1, 0, 0, 0, 1, 3, 2, 4, 2, 5, 0, 0, 1, 4, 2, 6, 1, 3, 5, 0] : List Int32).getD j 0
def z_lk1 : List (Nat × zI) → Nat → Option zI
  | [], _ => none
  | q :: r, pc => cond (Nat.beq q.1 pc) (some q.2) (z_lk1 r pc)
def z_lk : zCd → Nat → Option zI
  | [], _ => none
  | q :: r, pc => cond (Nat.blt pc q.1) (z_lk1 q.2 pc) (z_lk r pc)
-- the instructions
def i_push (v : Int32) (n : Nat) : zI := fun _ c X _ => X (c.1 + n, c.2.1, .int v :: c.2.2.1, c.2.2.2)
def i_null : zI := fun _ c X _ => X (c.1 + 1, c.2.1, .null :: c.2.2.1, c.2.2.2)
def i_ild (i n : Nat) : zI := fun _ c X _ => match c.2.1[i]? with
  | some (some (.int v)) => X (c.1 + n, c.2.1, .int v :: c.2.2.1, c.2.2.2)
  | _ => False
def i_ald (i n : Nat) : zI := fun _ c X _ => match c.2.1[i]? with
  | some (some (.ref v)) => X (c.1 + n, c.2.1, .ref v :: c.2.2.1, c.2.2.2)
  | some (some (.retAddr v)) => X (c.1 + n, c.2.1, .retAddr v :: c.2.2.1, c.2.2.2)
  | some (some .null) => X (c.1 + n, c.2.1, .null :: c.2.2.1, c.2.2.2)
  | _ => False
def i_ist (i n : Nat) : zI := fun _ c X _ => match c.2.2.1 with
  | .int v :: r => X (c.1 + n, c.2.1.set i (some (.int v)), r, c.2.2.2)
  | _ => False
def i_ast (i n : Nat) : zI := fun _ c X _ => match c.2.2.1 with
  | .ref v :: r => X (c.1 + n, c.2.1.set i (some (.ref v)), r, c.2.2.2)
  | .null :: r => X (c.1 + n, c.2.1.set i (some .null), r, c.2.2.2)
  | _ => False
def i_inc (i : Nat) (k : Int32) : zI := fun _ c X _ => match c.2.1[i]? with
  | some (some (.int v)) => X (c.1 + 3, c.2.1.set i (some (.int (v + k))), c.2.2.1, c.2.2.2)
  | _ => False
def i_bin (f : Int32 → Int32 → Int32) : zI := fun _ c X _ => match c.2.2.1 with
  | .int y :: .int x :: r => X (c.1 + 1, c.2.1, .int (f x y) :: r, c.2.2.2)
  | _ => False
def i_div (f : Int32 → Int32 → Int32) : zI := fun _ c X _ => match c.2.2.1 with
  | .int y :: .int x :: r => ¬ y = 0 ∧ X (c.1 + 1, c.2.1, .int (f x y) :: r, c.2.2.2)
  | _ => False
def i_un (f : Int32 → Int32) : zI := fun _ c X _ => match c.2.2.1 with
  | .int x :: r => X (c.1 + 1, c.2.1, .int (f x) :: r, c.2.2.2)
  | _ => False
def i_dup : zI := fun _ c X _ => match c.2.2.1 with
  | a :: r => a.category = 1 ∧ X (c.1 + 1, c.2.1, a :: a :: r, c.2.2.2)
  | _ => False
def i_pop : zI := fun _ c X _ => match c.2.2.1 with
  | a :: r => a.category = 1 ∧ X (c.1 + 1, c.2.1, r, c.2.2.2)
  | _ => False
def i_dupx1 : zI := fun _ c X _ => match c.2.2.1 with
  | a :: b :: r => a.category = 1 ∧ b.category = 1 ∧ X (c.1 + 1, c.2.1, a :: b :: a :: r, c.2.2.2)
  | _ => False
def i_dupx2 : zI := fun _ c X _ => match c.2.2.1 with
  | a :: b :: d :: r => a.category = 1 ∧ b.category = 1 ∧ d.category = 1 ∧ X (c.1 + 1, c.2.1, a :: b :: d :: a :: r, c.2.2.2)
  | _ => False
def i_dup2 : zI := fun _ c X _ => match c.2.2.1 with
  | a :: b :: r => a.category = 1 ∧ b.category = 1 ∧ X (c.1 + 1, c.2.1, a :: b :: a :: b :: r, c.2.2.2)
  | _ => False
def i_if (f g : Int32 → Prop) (t : Nat) : zI := fun _ c X _ => match c.2.2.1 with
  | .int x :: r => (f x → X (t, c.2.1, r, c.2.2.2)) ∧ (g x → X (c.1 + 3, c.2.1, r, c.2.2.2))
  | _ => False
def i_icmp (f g : Int32 → Int32 → Prop) (t : Nat) : zI := fun _ c X _ => match c.2.2.1 with
  | .int y :: .int x :: r => (f x y → X (t, c.2.1, r, c.2.2.2)) ∧ (g x y → X (c.1 + 3, c.2.1, r, c.2.2.2))
  | _ => False
def i_nul (t : Nat) : zI := fun _ c X _ => match c.2.2.1 with
  | .null :: r => X (t, c.2.1, r, c.2.2.2)
  | .ref _ :: r => X (c.1 + 3, c.2.1, r, c.2.2.2)
  | _ => False
def i_nnl (t : Nat) : zI := fun _ c X _ => match c.2.2.1 with
  | .null :: r => X (c.1 + 3, c.2.1, r, c.2.2.2)
  | .ref _ :: r => X (t, c.2.1, r, c.2.2.2)
  | _ => False
def i_goto (t : Nat) : zI := fun _ c X _ => X (t, c.2.1, c.2.2.1, c.2.2.2)
def i_tsw (lo : Int) (ts : List Nat) (df : Nat) : zI := fun _ c X _ => match c.2.2.1 with
  | .int x :: r => (∀ (k t : Nat), ts[k]? = some t → x.toInt = lo + k → X (t, c.2.1, r, c.2.2.2)) ∧ ((x.toInt < lo ∨ lo + ts.length ≤ x.toInt) → X (df, c.2.1, r, c.2.2.2))
  | _ => False
def i_getf (ci k : Nat) : zI := fun _ c X _ => match c.2.2.1 with
  | .ref a :: r => (match c.2.2.2.1.1 a with
    | .inr o => o.1 = ci ∧ (match o.2[k]? with
      | some v => X (c.1 + 3, c.2.1, v :: r, c.2.2.2)
      | none => False)
    | _ => False)
  | _ => False
def z_fit (z : Nat) (v : Value) : Prop := match v with
  | .int x => z = 0 ∨ (z = 1 ∧ (x = 0 ∨ x = 1))
  | .ref _ => z = 2
  | .null => z = 2
  | _ => False
def i_putf (ci k z : Nat) : zI := fun _ c X _ => match c.2.2.1 with
  | v :: .ref a :: r => (match c.2.2.2.1.1 a with
    | .inr o => o.1 = ci ∧ k < o.2.length ∧ z_fit z v ∧ X (c.1 + 3, c.2.1, r, (va_up c.2.2.2.1.1 a (.inr (o.1, o.2.set k v)), c.2.2.2.1.2), c.2.2.2.2)
    | _ => False)
  | _ => False
def i_gets : zI := fun _ c X _ => X (c.1 + 3, c.2.1, .retAddr 1 :: c.2.2.1, c.2.2.2)
def i_nald (kd : Nat) : zI := fun E c X _ => match c.2.2.1 with
  | .int i :: .ref a :: r => (match c.2.2.2.1.1 a with
    | .inl (k, n, .inl f) => k = kd ∧ vp_in i n ∧ X (c.1 + 1, c.2.1, .int (f i.toNatClampNeg) :: r, c.2.2.2)
    | _ => False)
  | .int i :: .retAddr j :: r => kd = 0 ∧ ((j = 0 ∧ vp_in i E.2.2.1 ∧ X (c.1 + 1, c.2.1, .int (E.2.2.2 i.toNatClampNeg) :: r, c.2.2.2)) ∨ (j = 1 ∧ vp_in i 20 ∧ X (c.1 + 1, c.2.1, .int (z_tok i.toNatClampNeg) :: r, c.2.2.2)))
  | _ => False
def i_nast (kd : Nat) (f : Int32 → Int32) : zI := fun _ c X _ => match c.2.2.1 with
  | .int x :: .int i :: .ref a :: r => (match c.2.2.2.1.1 a with
    | .inl (k, n, .inl g) => k = kd ∧ vp_in i n ∧ X (c.1 + 1, c.2.1, r, (va_up c.2.2.2.1.1 a (.inl (k, n, .inl (upd g i.toNatClampNeg (f x)))), c.2.2.2.1.2), c.2.2.2.2)
    | _ => False)
  | _ => False
def i_aald : zI := fun _ c X _ => match c.2.2.1 with
  | .int i :: .ref a :: r => (match c.2.2.2.1.1 a with
    | .inl (k, n, .inr (.inr (.inr (.inr f)))) => k = 4 ∧ vp_in i n ∧ X (c.1 + 1, c.2.1, va_rf (f i.toNatClampNeg) :: r, c.2.2.2)
    | _ => False)
  | _ => False
def i_aast (ci : Nat) : zI := fun _ c X _ => match c.2.2.1 with
  | .ref v :: .int i :: .ref a :: r => (match c.2.2.2.1.1 a with
    | .inl (k, n, .inr (.inr (.inr (.inr f)))) => k = 4 ∧ vp_in i n ∧ (match c.2.2.2.1.1 v with
      | .inr o => o.1 = ci
      | _ => False) ∧ X (c.1 + 1, c.2.1, r, (va_up c.2.2.2.1.1 a (.inl (k, n, .inr (.inr (.inr (.inr (va_up f i.toNatClampNeg (some v))))))), c.2.2.2.1.2), c.2.2.2.2)
    | _ => False)
  | _ => False
def i_alen : zI := fun E c X _ => match c.2.2.1 with
  | .ref a :: r => (match c.2.2.2.1.1 a with
    | .inl (k, n, _) => k < 5 ∧ 0 < n ∧ X (c.1 + 1, c.2.1, .int (Int32.ofNat n) :: r, c.2.2.2)
    | _ => False)
  | .retAddr j :: r => (j = 0 ∧ X (c.1 + 1, c.2.1, .int (Int32.ofNat E.2.2.1) :: r, c.2.2.2)) ∨ (j = 1 ∧ X (c.1 + 1, c.2.1, .int 20 :: r, c.2.2.2))
  | _ => False
def i_new (ci N : Nat) (fs : List Value) : zI := fun E c X _ => c.2.2.2.2.1 + 1 ≤ E.2.1.1 ∧ c.2.2.2.2.2 + N ≤ E.2.1.2 ∧ X (c.1 + 3, c.2.1, .ref c.2.2.2.1.2 :: c.2.2.1, (va_up c.2.2.2.1.1 c.2.2.2.1.2 (.inr (ci, fs)), c.2.2.2.1.2 + 1), c.2.2.2.2.1 + 1, c.2.2.2.2.2 + N)
def i_newa (kd : Nat) : zI := fun E c X _ => match c.2.2.1 with
  | .int n :: r => ¬ n < 0 ∧ n.toNatClampNeg ≤ 65536 ∧ c.2.2.2.2.1 + 1 ≤ E.2.1.1 ∧ c.2.2.2.2.2 + n.toNatClampNeg ≤ E.2.1.2 ∧ X (c.1 + 2, c.2.1, .ref c.2.2.2.1.2 :: r, (va_up c.2.2.2.1.1 c.2.2.2.1.2 (.inl (kd, n.toNatClampNeg, .inl (fun _ => 0))), c.2.2.2.1.2 + 1), c.2.2.2.2.1 + 1, c.2.2.2.2.2 + n.toNatClampNeg)
  | _ => False
def i_newq : zI := fun E c X _ => match c.2.2.1 with
  | .int n :: r => ¬ n < 0 ∧ n.toNatClampNeg ≤ 65536 ∧ c.2.2.2.2.1 + 1 ≤ E.2.1.1 ∧ c.2.2.2.2.2 + n.toNatClampNeg ≤ E.2.1.2 ∧ X (c.1 + 3, c.2.1, .ref c.2.2.2.1.2 :: r, (va_up c.2.2.2.1.1 c.2.2.2.1.2 (.inl (4, n.toNatClampNeg, .inr (.inr (.inr (.inr (fun _ => none)))))), c.2.2.2.1.2 + 1), c.2.2.2.2.1 + 1, c.2.2.2.2.2 + n.toNatClampNeg)
  | _ => False
def z_recv (h : zH) (ci : Nat) (v : Value) : Prop := match v with
  | .ref a => (match h.1 a with
    | .inr o => o.1 = ci
    | _ => False)
  | _ => False
/-- a call; n: how many words it takes, with the receiver; the receiver stands below the others -/
def z_call (mi n : Nat) (E : zE) (c : zC) (X : zC → Prop) : Prop := n ≤ c.2.2.1.length ∧ ((c.2.2.1.drop n).map fun v => v.category).sum ≤ 8 ∧ ∃ (mc ms : Nat) (P : zP), E.1 mi (c.2.2.1.take n).reverse c.2.2.2.1 mc ms P ∧ c.2.2.2.2.1 + mc ≤ E.2.1.1 ∧ c.2.2.2.2.2 + ms ≤ E.2.1.2 ∧ ∀ (r : Option Value) (h : zH), P r h → X (c.1 + 3, c.2.1, r.toList ++ c.2.2.1.drop n, h, c.2.2.2.2.1 + mc, c.2.2.2.2.2 + ms)
def i_callV (ci mi n : Nat) : zI := fun E c X _ => (∃ v, (c.2.2.1.take (n + 1)).reverse[0]? = some v ∧ z_recv c.2.2.2.1 ci v) ∧ z_call mi (n + 1) E c X
def i_callS (mi n : Nat) : zI := fun E c X _ => z_call mi n E c X
def i_callI (mi n : Nat) : zI := fun E c X _ => (∃ a, (c.2.2.1.take (n + 1)).reverse[0]? = some (.ref a)) ∧ z_call mi (n + 1) E c X
def i_math (f : Int32 → Int32 → Int32) : zI := fun _ c X _ => match c.2.2.1 with
  | .int y :: .int x :: r => (r.map fun v => v.category).sum ≤ 8 ∧ X (c.1 + 3, c.2.1, .int (f x y) :: r, c.2.2.2)
  | _ => False
def i_oini : zI := fun _ c X _ => match c.2.2.1 with
  | .ref _ :: r => (r.map fun v => v.category).sum ≤ 8 ∧ X (c.1 + 3, c.2.1, r, c.2.2.2)
  | _ => False
def i_iret : zI := fun _ c _ Q => match c.2.2.1 with
  | [.int v] => Q (some (.int v)) c.2.2.2.1
  | _ => False
def i_zret : zI := fun _ c _ Q => match c.2.2.1 with
  | [.int v] => (v = 0 ∨ v = 1) ∧ Q (some (.int v)) c.2.2.2.1
  | _ => False
def i_aret : zI := fun _ c _ Q => match c.2.2.1 with
  | [.ref a] => Q (some (.ref a)) c.2.2.2.1
  | [.null] => Q (some .null) c.2.2.2.1
  | _ => False
def i_vret : zI := fun _ c _ Q => match c.2.2.1 with
  | [] => Q none c.2.2.2.1
  | _ => False
-- what a stretch of code does: the least thing that is closed under steps
def zS (E : zE) (cd : zCd) (Q : zP) (c : zC) : Prop := ∀ X : zC → Prop, (∀ (c' : zC) (ins : zI) (Y : zC → Prop), z_lk cd c'.1 = some ins → ins E c' Y Q → (∀ c'', Y c'' → X c'') → X c') → X c
theorem zS_one {E : zE} {cd : zCd} {Q : zP} {c : zC} {ins : zI} (hl : z_lk cd c.1 = some ins) (k : ins E c (zS E cd Q) Q) : zS E cd Q c := fun X hX => hX c ins (zS E cd Q) hl k (fun _ h => h X hX)
abbrev zR : Type := MethodName × ByteArray × Nat × Option FieldType × zCd
def zMt (tab : List zR) (sc : Nat × (Nat → Int32)) : Nat → zM
  | 0 => fun _ _ _ _ _ _ => False
  | d + 1 => fun mi as h mc ms P => ∃ r : zR, tab[mi]? = some r ∧ as.length ≤ r.2.2.1 ∧ (∀ v ∈ as, v.category = 1) ∧ zS (zMt tab sc d, (mc, ms), sc) r.2.2.2.2 P (0, as.map some ++ List.replicate (r.2.2.1 - as.length) none, [], h, 0, 0)
end
section
/-! The code of each method as the small machine has it; the table of methods. By program. -/
def k_Ag_init_0 : List (Nat × zI) := [(0, i_ald 0 1), (1, i_oini), (4, i_ald 0 1), (5, i_push 0 1), (6, i_putf 0 1 0), (9, i_ald 0 1), (10, i_push 0 1), (11, i_putf 0 2 1), (14, i_ald 0 1), (15, i_push 0 1), (16, i_putf 0 3 0), (19, i_ald 0 1), (20, i_push 0 1), (21, i_putf 0 4 0), (24, i_ald 0 1), (25, i_push 0 1), (26, i_putf 0 5 0), (29, i_ald 0 1), (30, i_push 0 1), (31, i_putf 0 6 0), (34, i_ald 0 1), (35, i_push 0 1), (36, i_putf 0 7 0), (39, i_ald 0 1)]
def k_Ag_init_1 : List (Nat × zI) := [(40, i_push 0 1), (41, i_putf 0 8 0), (44, i_ald 0 1), (45, i_push 0 1), (46, i_putf 0 9 0), (49, i_ald 0 1), (50, i_push 0 1), (51, i_putf 0 10 0), (54, i_ald 0 1), (55, i_push 0 1), (56, i_putf 0 11 0), (59, i_ald 0 1), (60, i_ald 1 1), (61, i_putf 0 0 2), (64, i_vret)]
def k_Ag_init : zCd := [(40, k_Ag_init_0), (100000, k_Ag_init_1)]
def r_Ag_init : zR := (y_Ag_init, prog_2_method_1_code, 2, none, k_Ag_init)
def k_Ag_begin_0 : List (Nat × zI) := [(0, i_ald 0 1), (1, i_ild 1 1), (2, i_putf 0 1 0), (5, i_ald 0 1), (6, i_ild 2 1), (7, i_putf 0 2 1), (10, i_ald 0 1), (11, i_ild 3 1), (12, i_putf 0 3 0), (15, i_ald 0 1), (16, i_ild 4 2), (18, i_putf 0 5 0), (21, i_ald 0 1), (22, i_ald 0 1), (23, i_getf 0 0), (26, i_ald 0 1), (27, i_getf 0 1), (30, i_callV 4 33 1), (33, i_putf 0 8 0), (36, i_ald 0 1), (37, i_ald 0 1), (38, i_getf 0 0), (41, i_ald 0 1), (42, i_getf 0 8)]
def k_Ag_begin_1 : List (Nat × zI) := [(45, i_ald 0 1), (46, i_getf 0 0), (49, i_ild 5 2), (51, i_callV 4 33 1), (54, i_callV 4 36 2), (57, i_putf 0 7 0), (60, i_ald 0 1), (61, i_getf 0 1), (64, i_push 1 1), (65, i_icmp (fun x y => ¬ x = y) (fun x y => x = y) 108), (68, i_ald 0 1), (69, i_ald 0 1), (70, i_getf 0 0), (73, i_ald 0 1), (74, i_getf 0 7), (77, i_ald 0 1), (78, i_getf 0 0), (81, i_ald 0 1), (82, i_getf 0 2), (85, i_if (fun x => x = 0) (fun x => ¬ x = 0) 95), (88, i_ald 0 1), (89, i_getf 0 5), (92, i_goto 99), (95, i_ald 0 1)]
def k_Ag_begin_2 : List (Nat × zI) := [(96, i_getf 0 3), (99, i_callV 4 34 1), (102, i_callV 4 36 2), (105, i_putf 0 7 0), (108, i_vret)]
def k_Ag_begin : zCd := [(45, k_Ag_begin_0), (96, k_Ag_begin_1), (100000, k_Ag_begin_2)]
def r_Ag_begin : zR := (y_Ag_begin, prog_2_method_2_code, 6, none, k_Ag_begin)
def k_Ag_copyFrom_0 : List (Nat × zI) := [(0, i_ald 0 1), (1, i_ald 1 1), (2, i_getf 0 1), (5, i_putf 0 1 0), (8, i_ald 0 1), (9, i_ald 1 1), (10, i_getf 0 2), (13, i_putf 0 2 1), (16, i_ald 0 1), (17, i_ald 1 1), (18, i_getf 0 3), (21, i_putf 0 3 0), (24, i_ald 0 1), (25, i_ald 1 1), (26, i_getf 0 4), (29, i_putf 0 4 0), (32, i_ald 0 1), (33, i_ald 1 1), (34, i_getf 0 5), (37, i_putf 0 5 0), (40, i_ald 0 1), (41, i_ald 1 1), (42, i_getf 0 6), (45, i_putf 0 6 0)]
def k_Ag_copyFrom_1 : List (Nat × zI) := [(48, i_ald 0 1), (49, i_ald 1 1), (50, i_getf 0 7), (53, i_putf 0 7 0), (56, i_ald 0 1), (57, i_ald 1 1), (58, i_getf 0 8), (61, i_putf 0 8 0), (64, i_ald 0 1), (65, i_ald 1 1), (66, i_getf 0 9), (69, i_putf 0 9 0), (72, i_ald 0 1), (73, i_ald 1 1), (74, i_getf 0 10), (77, i_putf 0 10 0), (80, i_ald 0 1), (81, i_ald 1 1), (82, i_getf 0 11), (85, i_putf 0 11 0), (88, i_vret)]
def k_Ag_copyFrom : zCd := [(48, k_Ag_copyFrom_0), (100000, k_Ag_copyFrom_1)]
def r_Ag_copyFrom : zR := (y_Ag_copyFrom, prog_2_method_3_code, 2, none, k_Ag_copyFrom)
def k_Ag_isDone_0 : List (Nat × zI) := [(0, i_ald 0 1), (1, i_getf 0 11), (4, i_ald 0 1), (5, i_getf 0 1), (8, i_if (fun x => ¬ x = 0) (fun x => x = 0) 15), (11, i_push 3 1), (12, i_goto 16), (15, i_push 2 1), (16, i_icmp (fun x y => x < y) (fun x y => ¬ x < y) 23), (19, i_push 1 1), (20, i_goto 24), (23, i_push 0 1), (24, i_zret)]
def k_Ag_isDone : zCd := [(100000, k_Ag_isDone_0)]
def r_Ag_isDone : zR := (y_Ag_isDone, prog_2_method_4_code, 1, (some .boolean), k_Ag_isDone)
def k_Ag_isOwnTurn_0 : List (Nat × zI) := [(0, i_ald 0 1), (1, i_callV 0 3 0), (4, i_if (fun x => ¬ x = 0) (fun x => x = 0) 32), (7, i_ald 0 1), (8, i_getf 0 2), (11, i_ald 0 1), (12, i_getf 0 11), (15, i_push 2 1), (16, i_div (fun x y => x - x / y * y)), (17, i_if (fun x => ¬ x = 0) (fun x => x = 0) 24), (20, i_push 1 1), (21, i_goto 25), (24, i_push 0 1), (25, i_icmp (fun x y => ¬ x = y) (fun x y => x = y) 32), (28, i_push 1 1), (29, i_goto 33), (32, i_push 0 1), (33, i_zret)]
def k_Ag_isOwnTurn : zCd := [(100000, k_Ag_isOwnTurn_0)]
def r_Ag_isOwnTurn : zR := (y_Ag_isOwnTurn, prog_2_method_5_code, 1, (some .boolean), k_Ag_isOwnTurn)
def k_Ag_writeNext_0 : List (Nat × zI) := [(0, i_push 0 1), (1, i_ist 3 1), (2, i_ild 3 1), (3, i_push 4 1), (4, i_icmp (fun x y => y ≤ x) (fun x y => ¬ y ≤ x) 96), (7, i_ald 0 1), (8, i_ild 3 1), (9, i_callV 0 7 1), (12, i_ist 4 2), (14, i_ild 4 2), (16, i_push 1 1), (17, i_icmp (fun x y => ¬ x = y) (fun x y => x = y) 50), (20, i_ald 0 1), (21, i_ald 0 1), (22, i_getf 0 0), (25, i_callV 4 49 0), (28, i_putf 0 4 0), (31, i_ald 0 1), (32, i_ald 1 1), (33, i_ald 0 1), (34, i_getf 0 0), (37, i_ald 0 1), (38, i_getf 0 4), (41, i_callV 4 34 1)]
def k_Ag_writeNext_1 : List (Nat × zI) := [(44, i_callV 0 9 2), (47, i_goto 90), (50, i_ild 4 2), (52, i_push 2 1), (53, i_icmp (fun x y => ¬ x = y) (fun x y => x = y) 79), (56, i_ald 0 1), (57, i_ald 1 1), (58, i_ald 0 1), (59, i_ald 0 1), (60, i_getf 0 0), (63, i_ald 0 1), (64, i_getf 0 3), (67, i_callV 4 34 1), (70, i_callV 0 11 1), (73, i_callV 0 9 2), (76, i_goto 90), (79, i_ild 4 2), (81, i_if (fun x => x = 0) (fun x => ¬ x = 0) 90), (84, i_ald 0 1), (85, i_ild 4 2), (87, i_callV 0 13 1), (90, i_inc 3 1), (93, i_goto 2), (96, i_ald 0 1)]
def k_Ag_writeNext_2 : List (Nat × zI) := [(97, i_ald 1 1), (98, i_ald 0 1), (99, i_ald 0 1), (100, i_getf 0 0), (103, i_ild 2 1), (104, i_callV 4 33 1), (107, i_callV 0 11 1), (110, i_callV 0 9 2), (113, i_ald 0 1), (114, i_dup), (115, i_getf 0 11), (118, i_push 1 1), (119, i_bin (fun x y => x + y)), (120, i_putf 0 11 0), (123, i_vret)]
def k_Ag_writeNext : zCd := [(44, k_Ag_writeNext_0), (97, k_Ag_writeNext_1), (100000, k_Ag_writeNext_2)]
def r_Ag_writeNext : zR := (y_Ag_writeNext, prog_2_method_6_code, 5, none, k_Ag_writeNext)
def k_Ag_readNext_0 : List (Nat × zI) := [(0, i_ald 1 1), (1, i_ild 2 1), (2, i_callV 2 22 1), (5, i_ald 0 1), (6, i_callV 0 8 0), (9, i_icmp (fun x y => x = y) (fun x y => ¬ x = y) 14), (12, i_push 0 1), (13, i_iret), (14, i_push 0 1), (15, i_ist 3 1), (16, i_push 0 1), (17, i_ist 4 2), (19, i_ild 4 2), (21, i_push 4 1), (22, i_icmp (fun x y => y ≤ x) (fun x y => ¬ y ≤ x) 85), (25, i_ald 0 1), (26, i_ild 4 2), (28, i_callV 0 7 1), (31, i_ist 5 2), (33, i_ild 5 2), (35, i_push 1 1), (36, i_icmp (fun x y => x = y) (fun x y => ¬ x = y) 45), (39, i_ild 5 2), (41, i_push 2 1)]
def k_Ag_readNext_1 : List (Nat × zI) := [(42, i_icmp (fun x y => ¬ x = y) (fun x y => x = y) 68), (45, i_ald 0 1), (46, i_ild 5 2), (48, i_ald 1 1), (49, i_ild 2 1), (50, i_ild 3 1), (51, i_callV 2 23 2), (54, i_callV 0 10 2), (57, i_if (fun x => ¬ x = 0) (fun x => x = 0) 62), (60, i_push 0 1), (61, i_iret), (62, i_inc 3 1), (65, i_goto 79), (68, i_ild 5 2), (70, i_if (fun x => x = 0) (fun x => ¬ x = 0) 79), (73, i_ald 0 1), (74, i_ild 5 2), (76, i_callV 0 13 1), (79, i_inc 4 1), (82, i_goto 19), (85, i_ald 1 1), (86, i_ild 2 1), (87, i_ild 3 1), (88, i_callV 2 23 2)]
def k_Ag_readNext_2 : List (Nat × zI) := [(91, i_ist 4 2), (93, i_ald 0 1), (94, i_ild 4 2), (96, i_callV 0 12 1), (99, i_ist 5 2), (101, i_ald 0 1), (102, i_getf 0 0), (105, i_ild 5 2), (107, i_callV 4 41 1), (110, i_if (fun x => ¬ x = 0) (fun x => x = 0) 115), (113, i_push 0 1), (114, i_iret), (115, i_ald 0 1), (116, i_ald 0 1), (117, i_getf 0 0), (120, i_ald 0 1), (121, i_getf 0 7), (124, i_ild 4 2), (126, i_callV 4 36 2), (129, i_putf 0 7 0), (132, i_ald 0 1), (133, i_dup), (134, i_getf 0 11), (137, i_push 1 1)]
def k_Ag_readNext_3 : List (Nat × zI) := [(138, i_bin (fun x y => x + y)), (139, i_putf 0 11 0), (142, i_ild 5 2), (144, i_iret)]
def k_Ag_readNext : zCd := [(42, k_Ag_readNext_0), (91, k_Ag_readNext_1), (138, k_Ag_readNext_2), (100000, k_Ag_readNext_3)]
def r_Ag_readNext : zR := (y_Ag_readNext, prog_2_method_7_code, 6, (some .int), k_Ag_readNext)
def k_Ag_tokenAt_0 : List (Nat × zI) := [(0, i_ald 0 1), (1, i_getf 0 1), (4, i_push 3 1), (5, i_bin (fun x y => x * y)), (6, i_ald 0 1), (7, i_getf 0 11), (10, i_bin (fun x y => x + y)), (11, i_ist 2 1), (12, i_ild 2 1), (13, i_push 4 1), (14, i_bin (fun x y => x * y)), (15, i_ild 1 1), (16, i_bin (fun x y => x + y)), (17, i_ist 3 1), (18, i_ild 3 1), (19, i_if (fun x => x < 0) (fun x => ¬ x < 0) 38), (22, i_ild 3 1), (23, i_gets), (26, i_alen), (27, i_icmp (fun x y => y ≤ x) (fun x y => ¬ y ≤ x) 38), (30, i_gets), (33, i_ild 3 1), (34, i_nald 0), (35, i_goto 39)]
def k_Ag_tokenAt_1 : List (Nat × zI) := [(38, i_push 0 1), (39, i_iret)]
def k_Ag_tokenAt : zCd := [(38, k_Ag_tokenAt_0), (100000, k_Ag_tokenAt_1)]
def r_Ag_tokenAt : zR := (y_Ag_tokenAt, prog_2_method_8_code, 4, (some .int), k_Ag_tokenAt)
def k_Ag_partsOfNext_0 : List (Nat × zI) := [(0, i_push 1 1), (1, i_ist 1 1), (2, i_push 0 1), (3, i_ist 2 1), (4, i_ild 2 1), (5, i_push 4 1), (6, i_icmp (fun x y => y ≤ x) (fun x y => ¬ y ≤ x) 36), (9, i_ald 0 1), (10, i_ild 2 1), (11, i_callV 0 7 1), (14, i_push 1 1), (15, i_icmp (fun x y => x = y) (fun x y => ¬ x = y) 27), (18, i_ald 0 1), (19, i_ild 2 1), (20, i_callV 0 7 1), (23, i_push 2 1), (24, i_icmp (fun x y => ¬ x = y) (fun x y => x = y) 30), (27, i_inc 1 1), (30, i_inc 2 1), (33, i_goto 4), (36, i_ild 1 1), (37, i_iret)]
def k_Ag_partsOfNext : zCd := [(100000, k_Ag_partsOfNext_0)]
def r_Ag_partsOfNext : zR := (y_Ag_partsOfNext, prog_2_method_9_code, 3, (some .int), k_Ag_partsOfNext)
def k_Ag_addPart_0 : List (Nat × zI) := [(0, i_ald 1 1), (1, i_ild 2 1), (2, i_callV 2 24 1), (5, i_ald 0 1), (6, i_ald 0 1), (7, i_getf 0 0), (10, i_ald 0 1), (11, i_getf 0 7), (14, i_ild 2 1), (15, i_callV 4 36 2), (18, i_putf 0 7 0), (21, i_vret)]
def k_Ag_addPart : zCd := [(100000, k_Ag_addPart_0)]
def r_Ag_addPart : zR := (y_Ag_addPart, prog_2_method_10_code, 3, none, k_Ag_addPart)
def k_Ag_readKey_0 : List (Nat × zI) := [(0, i_ild 1 1), (1, i_push 1 1), (2, i_icmp (fun x y => ¬ x = y) (fun x y => x = y) 9), (5, i_ild 2 1), (6, i_goto 14), (9, i_ald 0 1), (10, i_ild 2 1), (11, i_callV 0 12 1), (14, i_ist 3 1), (15, i_ald 0 1), (16, i_getf 0 0), (19, i_ild 3 1), (20, i_callV 4 42 1), (23, i_if (fun x => ¬ x = 0) (fun x => x = 0) 28), (26, i_push 0 1), (27, i_zret), (28, i_ild 1 1), (29, i_push 1 1), (30, i_icmp (fun x y => ¬ x = y) (fun x y => x = y) 48), (33, i_ald 0 1), (34, i_ald 0 1), (35, i_getf 0 0), (38, i_ild 3 1), (39, i_callV 4 45 1)]
def k_Ag_readKey_1 : List (Nat × zI) := [(42, i_putf 0 6 0), (45, i_goto 60), (48, i_ald 0 1), (49, i_ald 0 1), (50, i_getf 0 0), (53, i_ild 3 1), (54, i_callV 4 45 1), (57, i_putf 0 5 0), (60, i_ald 0 1), (61, i_ald 0 1), (62, i_getf 0 0), (65, i_ald 0 1), (66, i_getf 0 7), (69, i_ild 2 1), (70, i_callV 4 36 2), (73, i_putf 0 7 0), (76, i_push 1 1), (77, i_zret)]
def k_Ag_readKey : zCd := [(42, k_Ag_readKey_0), (100000, k_Ag_readKey_1)]
def r_Ag_readKey : zR := (y_Ag_readKey, prog_2_method_11_code, 4, (some .boolean), k_Ag_readKey)
def k_Ag_closedUp_0 : List (Nat × zI) := [(0, i_ald 0 1), (1, i_getf 0 9), (4, i_if (fun x => ¬ x = 0) (fun x => x = 0) 9), (7, i_ild 1 1), (8, i_iret), (9, i_ald 0 1), (10, i_dup), (11, i_getf 0 10), (14, i_push 1 1), (15, i_bin (fun x y => x + y)), (16, i_putf 0 10 0), (19, i_ald 0 1), (20, i_getf 0 0), (23, i_ald 0 1), (24, i_getf 0 9), (27, i_ald 0 1), (28, i_getf 0 10), (31, i_push 1 1), (32, i_bin (fun x y => x - y)), (33, i_ald 0 1), (34, i_getf 0 7), (37, i_ild 1 1), (38, i_callV 4 40 4), (41, i_iret)]
def k_Ag_closedUp : zCd := [(100000, k_Ag_closedUp_0)]
def r_Ag_closedUp : zR := (y_Ag_closedUp, prog_2_method_12_code, 2, (some .int), k_Ag_closedUp)
def k_Ag_openedUp_0 : List (Nat × zI) := [(0, i_ald 0 1), (1, i_getf 0 9), (4, i_if (fun x => ¬ x = 0) (fun x => x = 0) 9), (7, i_ild 1 1), (8, i_iret), (9, i_ald 0 1), (10, i_getf 0 0), (13, i_ild 1 1), (14, i_ald 0 1), (15, i_getf 0 9), (18, i_ald 0 1), (19, i_getf 0 10), (22, i_ald 0 1), (23, i_getf 0 7), (26, i_callV 4 44 4), (29, i_if (fun x => ¬ x = 0) (fun x => x = 0) 34), (32, i_push 0 1), (33, i_iret), (34, i_ald 0 1), (35, i_dup), (36, i_getf 0 10), (39, i_push 1 1), (40, i_bin (fun x y => x + y)), (41, i_putf 0 10 0)]
def k_Ag_openedUp_1 : List (Nat × zI) := [(44, i_ald 0 1), (45, i_getf 0 0), (48, i_ild 1 1), (49, i_callV 4 46 1), (52, i_iret)]
def k_Ag_openedUp : zCd := [(44, k_Ag_openedUp_0), (100000, k_Ag_openedUp_1)]
def r_Ag_openedUp : zR := (y_Ag_openedUp, prog_2_method_13_code, 2, (some .int), k_Ag_openedUp)
def k_Ag_mixKeys_0 : List (Nat × zI) := [(0, i_ild 1 1), (1, i_push 3 1), (2, i_icmp (fun x y => x = y) (fun x y => ¬ x = y) 21), (5, i_ild 1 1), (6, i_ald 0 1), (7, i_getf 0 2), (10, i_if (fun x => x = 0) (fun x => ¬ x = 0) 17), (13, i_push 4 1), (14, i_goto 18), (17, i_push 5 1), (18, i_icmp (fun x y => ¬ x = y) (fun x y => x = y) 25), (21, i_push 1 1), (22, i_goto 26), (25, i_push 0 1), (26, i_ist 2 1), (27, i_ild 1 1), (28, i_push 3 1), (29, i_icmp (fun x y => x = y) (fun x y => ¬ x = y) 48), (32, i_ild 1 1), (33, i_ald 0 1), (34, i_getf 0 2), (37, i_if (fun x => x = 0) (fun x => ¬ x = 0) 44), (40, i_push 5 1), (41, i_goto 45)]
def k_Ag_mixKeys_1 : List (Nat × zI) := [(44, i_push 4 1), (45, i_icmp (fun x y => ¬ x = y) (fun x y => x = y) 52), (48, i_push 1 1), (49, i_goto 53), (52, i_push 0 1), (53, i_ist 3 1), (54, i_ald 0 1), (55, i_getf 0 0), (58, i_ild 2 1), (59, i_if (fun x => x = 0) (fun x => ¬ x = 0) 69), (62, i_ald 0 1), (63, i_getf 0 4), (66, i_goto 73), (69, i_ald 0 1), (70, i_getf 0 3), (73, i_ild 3 1), (74, i_if (fun x => x = 0) (fun x => ¬ x = 0) 84), (77, i_ald 0 1), (78, i_getf 0 6), (81, i_goto 88), (84, i_ald 0 1), (85, i_getf 0 5), (88, i_callV 4 35 2), (91, i_ist 4 2)]
def k_Ag_mixKeys_2 : List (Nat × zI) := [(93, i_ald 0 1), (94, i_ald 0 1), (95, i_getf 0 0), (98, i_ald 0 1), (99, i_getf 0 8), (102, i_ild 4 2), (104, i_callV 4 38 2), (107, i_putf 0 9 0), (110, i_ald 0 1), (111, i_ald 0 1), (112, i_getf 0 0), (115, i_ald 0 1), (116, i_getf 0 8), (119, i_ild 4 2), (121, i_callV 4 37 2), (124, i_putf 0 8 0), (127, i_ald 0 1), (128, i_push 0 1), (129, i_putf 0 10 0), (132, i_vret)]
def k_Ag_mixKeys : zCd := [(44, k_Ag_mixKeys_0), (93, k_Ag_mixKeys_1), (100000, k_Ag_mixKeys_2)]
def r_Ag_mixKeys : zR := (y_Ag_mixKeys, prog_2_method_14_code, 5, none, k_Ag_mixKeys)
def k_Ch_init_0 : List (Nat × zI) := [(0, i_ald 0 1), (1, i_oini), (4, i_ald 0 1), (5, i_push 60 2), (7, i_newa 1), (9, i_putf 1 1 2), (12, i_ald 0 1), (13, i_push 0 1), (14, i_putf 1 2 0), (17, i_ald 0 1), (18, i_push 0 1), (19, i_putf 1 3 0), (22, i_ald 0 1), (23, i_push 0 1), (24, i_putf 1 4 0), (27, i_ald 0 1), (28, i_push (-1) 1), (29, i_putf 1 5 0), (32, i_ald 0 1), (33, i_ald 1 1), (34, i_putf 1 0 2), (37, i_vret)]
def k_Ch_init : zCd := [(100000, k_Ch_init_0)]
def r_Ch_init : zR := (y_Ch_init, prog_3_method_1_code, 2, none, k_Ch_init)
def k_Ch_setKeys_0 : List (Nat × zI) := [(0, i_ald 0 1), (1, i_ald 0 1), (2, i_getf 1 0), (5, i_ild 1 1), (6, i_ild 2 1), (7, i_if (fun x => x = 0) (fun x => ¬ x = 0) 14), (10, i_push 1 1), (11, i_goto 15), (14, i_push 2 1), (15, i_callV 4 39 2), (18, i_putf 1 2 0), (21, i_ald 0 1), (22, i_ald 0 1), (23, i_getf 1 0), (26, i_ild 1 1), (27, i_ild 2 1), (28, i_if (fun x => x = 0) (fun x => ¬ x = 0) 35), (31, i_push 2 1), (32, i_goto 36), (35, i_push 1 1), (36, i_callV 4 39 2), (39, i_putf 1 3 0), (42, i_vret)]
def k_Ch_setKeys : zCd := [(100000, k_Ch_setKeys_0)]
def r_Ch_setKeys : zR := (y_Ch_setKeys, prog_3_method_2_code, 3, none, k_Ch_setKeys)
def k_Ch_sendNext_0 : List (Nat × zI) := [(0, i_ald 1 1), (1, i_ald 0 1), (2, i_getf 1 0), (5, i_ald 0 1), (6, i_getf 1 4), (9, i_callV 4 33 1), (12, i_callV 2 24 1), (15, i_ald 1 1), (16, i_ald 0 1), (17, i_getf 1 0), (20, i_ald 0 1), (21, i_getf 1 2), (24, i_ald 0 1), (25, i_getf 1 4), (28, i_ald 0 1), (29, i_getf 1 0), (32, i_push 0 1), (33, i_callV 4 33 1), (36, i_ald 0 1), (37, i_getf 1 0), (40, i_ild 2 1), (41, i_callV 4 33 1), (44, i_callV 4 40 4), (47, i_callV 2 24 1)]
def k_Ch_sendNext_1 : List (Nat × zI) := [(50, i_ald 0 1), (51, i_dup), (52, i_getf 1 4), (55, i_push 1 1), (56, i_bin (fun x y => x + y)), (57, i_putf 1 4 0), (60, i_vret)]
def k_Ch_sendNext : zCd := [(50, k_Ch_sendNext_0), (100000, k_Ch_sendNext_1)]
def r_Ch_sendNext : zR := (y_Ch_sendNext, prog_3_method_3_code, 3, none, k_Ch_sendNext)
def k_Ch_acceptNext_0 : List (Nat × zI) := [(0, i_ald 1 1), (1, i_ild 2 1), (2, i_push 0 1), (3, i_callV 2 23 2), (6, i_ist 3 1), (7, i_ald 1 1), (8, i_ild 2 1), (9, i_push 1 1), (10, i_callV 2 23 2), (13, i_ist 4 2), (15, i_ald 1 1), (16, i_ild 2 1), (17, i_callV 2 22 1), (20, i_push 2 1), (21, i_icmp (fun x y => ¬ x = y) (fun x y => x = y) 35), (24, i_ald 0 1), (25, i_getf 1 0), (28, i_ild 3 1), (29, i_callV 4 41 1), (32, i_if (fun x => ¬ x = 0) (fun x => x = 0) 37), (35, i_push 0 1), (36, i_iret), (37, i_ald 0 1), (38, i_getf 1 0)]
def k_Ch_acceptNext_1 : List (Nat × zI) := [(41, i_ild 3 1), (42, i_callV 4 45 1), (45, i_ist 5 2), (47, i_ald 0 1), (48, i_ild 5 2), (50, i_callV 1 18 1), (53, i_if (fun x => x = 0) (fun x => ¬ x = 0) 101), (56, i_ald 0 1), (57, i_getf 1 0), (60, i_ild 4 2), (62, i_ald 0 1), (63, i_getf 1 3), (66, i_ild 5 2), (68, i_ald 0 1), (69, i_getf 1 0), (72, i_push 0 1), (73, i_callV 4 33 1), (76, i_callV 4 44 4), (79, i_if (fun x => x = 0) (fun x => ¬ x = 0) 101), (82, i_ald 0 1), (83, i_getf 1 0), (86, i_ald 0 1), (87, i_getf 1 0), (90, i_ild 4 2)]
def k_Ch_acceptNext_2 : List (Nat × zI) := [(92, i_callV 4 46 1), (95, i_callV 4 41 1), (98, i_if (fun x => ¬ x = 0) (fun x => x = 0) 103), (101, i_push 0 1), (102, i_iret), (103, i_ald 0 1), (104, i_getf 1 1), (107, i_ild 5 2), (109, i_push 1 1), (110, i_nast 1 (fun x => x &&& 1)), (111, i_ald 0 1), (112, i_ald 0 1), (113, i_getf 1 5), (116, i_ild 5 2), (118, i_math (fun x y => if x < y then y else x)), (121, i_putf 1 5 0), (124, i_ald 0 1), (125, i_getf 1 0), (128, i_ild 4 2), (130, i_callV 4 46 1), (133, i_iret)]
def k_Ch_acceptNext : zCd := [(41, k_Ch_acceptNext_0), (92, k_Ch_acceptNext_1), (100000, k_Ch_acceptNext_2)]
def r_Ch_acceptNext : zR := (y_Ch_acceptNext, prog_3_method_4_code, 6, (some .int), k_Ch_acceptNext)
def k_Ch_isFresh_0 : List (Nat × zI) := [(0, i_ild 1 1), (1, i_if (fun x => x < 0) (fun x => ¬ x < 0) 34), (4, i_ild 1 1), (5, i_push 60 2), (7, i_icmp (fun x y => y ≤ x) (fun x y => ¬ y ≤ x) 34), (10, i_ild 1 1), (11, i_ald 0 1), (12, i_getf 1 5), (15, i_push 8 2), (17, i_bin (fun x y => x - y)), (18, i_icmp (fun x y => x ≤ y) (fun x y => ¬ x ≤ y) 34), (21, i_ald 0 1), (22, i_getf 1 1), (25, i_ild 1 1), (26, i_nald 1), (27, i_if (fun x => ¬ x = 0) (fun x => x = 0) 34), (30, i_push 1 1), (31, i_goto 35), (34, i_push 0 1), (35, i_zret)]
def k_Ch_isFresh : zCd := [(100000, k_Ch_isFresh_0)]
def r_Ch_isFresh : zR := (y_Ch_isFresh, prog_3_method_5_code, 2, (some .boolean), k_Ch_isFresh)
def k_Me_init_0 : List (Nat × zI) := [(0, i_ald 0 1), (1, i_oini), (4, i_ald 0 1), (5, i_push 60 2), (7, i_newa 0), (9, i_putf 2 0 2), (12, i_ald 0 1), (13, i_push 180 3), (16, i_newa 0), (18, i_putf 2 1 2), (21, i_ald 0 1), (22, i_push 0 1), (23, i_putf 2 2 0), (26, i_vret)]
def k_Me_init : zCd := [(100000, k_Me_init_0)]
def r_Me_init : zR := (y_Me_init, prog_4_method_1_code, 1, none, k_Me_init)
def k_Me_isFull_0 : List (Nat × zI) := [(0, i_ald 0 1), (1, i_getf 2 2), (4, i_push 60 2), (6, i_icmp (fun x y => x < y) (fun x y => ¬ x < y) 13), (9, i_push 1 1), (10, i_goto 14), (13, i_push 0 1), (14, i_zret)]
def k_Me_isFull : zCd := [(100000, k_Me_isFull_0)]
def r_Me_isFull : zR := (y_Me_isFull, prog_4_method_2_code, 1, (some .boolean), k_Me_isFull)
def k_Me_has_0 : List (Nat × zI) := [(0, i_ild 1 1), (1, i_if (fun x => x < 0) (fun x => ¬ x < 0) 16), (4, i_ild 1 1), (5, i_ald 0 1), (6, i_getf 2 2), (9, i_icmp (fun x y => y ≤ x) (fun x y => ¬ y ≤ x) 16), (12, i_push 1 1), (13, i_goto 17), (16, i_push 0 1), (17, i_zret)]
def k_Me_has : zCd := [(100000, k_Me_has_0)]
def r_Me_has : zR := (y_Me_has, prog_4_method_3_code, 2, (some .boolean), k_Me_has)
def k_Me_sizeOf_0 : List (Nat × zI) := [(0, i_ald 0 1), (1, i_ild 1 1), (2, i_callV 2 21 1), (5, i_if (fun x => x = 0) (fun x => ¬ x = 0) 17), (8, i_ald 0 1), (9, i_getf 2 0), (12, i_ild 1 1), (13, i_nald 0), (14, i_goto 18), (17, i_push 0 1), (18, i_iret)]
def k_Me_sizeOf : zCd := [(100000, k_Me_sizeOf_0)]
def r_Me_sizeOf : zR := (y_Me_sizeOf, prog_4_method_4_code, 2, (some .int), k_Me_sizeOf)
def k_Me_partAt_0 : List (Nat × zI) := [(0, i_ild 2 1), (1, i_if (fun x => x < 0) (fun x => ¬ x < 0) 13), (4, i_ild 2 1), (5, i_ald 0 1), (6, i_ild 1 1), (7, i_callV 2 22 1), (10, i_icmp (fun x y => x < y) (fun x y => ¬ x < y) 15), (13, i_push 0 1), (14, i_iret), (15, i_ald 0 1), (16, i_getf 2 1), (19, i_ild 1 1), (20, i_push 3 1), (21, i_bin (fun x y => x * y)), (22, i_ild 2 1), (23, i_bin (fun x y => x + y)), (24, i_nald 0), (25, i_iret)]
def k_Me_partAt : zCd := [(100000, k_Me_partAt_0)]
def r_Me_partAt : zR := (y_Me_partAt, prog_4_method_5_code, 3, (some .int), k_Me_partAt)
def k_Me_addPart_0 : List (Nat × zI) := [(0, i_ald 0 1), (1, i_callV 2 20 0), (4, i_if (fun x => ¬ x = 0) (fun x => x = 0) 20), (7, i_ald 0 1), (8, i_getf 2 0), (11, i_ald 0 1), (12, i_getf 2 2), (15, i_nald 0), (16, i_push 3 1), (17, i_icmp (fun x y => x < y) (fun x y => ¬ x < y) 21), (20, i_vret), (21, i_ald 0 1), (22, i_getf 2 1), (25, i_ald 0 1), (26, i_getf 2 2), (29, i_push 3 1), (30, i_bin (fun x y => x * y)), (31, i_ald 0 1), (32, i_getf 2 0), (35, i_ald 0 1), (36, i_getf 2 2), (39, i_nald 0), (40, i_bin (fun x y => x + y)), (41, i_ild 1 1)]
def k_Me_addPart_1 : List (Nat × zI) := [(42, i_nast 0 (fun x => x)), (43, i_ald 0 1), (44, i_getf 2 0), (47, i_ald 0 1), (48, i_getf 2 2), (51, i_dup2), (52, i_nald 0), (53, i_push 1 1), (54, i_bin (fun x y => x + y)), (55, i_nast 0 (fun x => x)), (56, i_vret)]
def k_Me_addPart : zCd := [(42, k_Me_addPart_0), (100000, k_Me_addPart_1)]
def r_Me_addPart : zR := (y_Me_addPart, prog_4_method_6_code, 2, none, k_Me_addPart)
def k_Me_finish_0 : List (Nat × zI) := [(0, i_ald 0 1), (1, i_dup), (2, i_getf 2 2), (5, i_push 1 1), (6, i_bin (fun x y => x + y)), (7, i_putf 2 2 0), (10, i_ald 0 1), (11, i_getf 2 2), (14, i_push 1 1), (15, i_bin (fun x y => x - y)), (16, i_iret)]
def k_Me_finish : zCd := [(100000, k_Me_finish_0)]
def r_Me_finish : zR := (y_Me_finish, prog_4_method_7_code, 1, (some .int), k_Me_finish)
def k_Se_init_0 : List (Nat × zI) := [(0, i_ald 0 1), (1, i_oini), (4, i_ald 0 1), (5, i_push 0 1), (6, i_putf 3 4 1), (9, i_ald 0 1), (10, i_push 0 1), (11, i_putf 3 5 0), (14, i_ald 0 1), (15, i_push 0 1), (16, i_putf 3 6 0), (19, i_ald 0 1), (20, i_push 0 1), (21, i_putf 3 7 0), (24, i_ald 0 1), (25, i_ald 1 1), (26, i_putf 3 0 2), (29, i_ald 0 1), (30, i_new 1 6 [.null, .null, .int 0, .int 0, .int 0, .int 0]), (33, i_dup), (34, i_ald 1 1), (35, i_callI 14 1), (38, i_putf 3 1 2), (41, i_ald 0 1)]
def k_Se_init_1 : List (Nat × zI) := [(42, i_new 0 12 [.null, .int 0, .int 0, .int 0, .int 0, .int 0, .int 0, .int 0, .int 0, .int 0, .int 0, .int 0]), (45, i_dup), (46, i_ald 1 1), (47, i_callI 0 1), (50, i_putf 3 2 2), (53, i_ald 0 1), (54, i_new 0 12 [.null, .int 0, .int 0, .int 0, .int 0, .int 0, .int 0, .int 0, .int 0, .int 0, .int 0, .int 0]), (57, i_dup), (58, i_ald 1 1), (59, i_callI 0 1), (62, i_putf 3 3 2), (65, i_vret)]
def k_Se_init : zCd := [(42, k_Se_init_0), (100000, k_Se_init_1)]
def r_Se_init : zR := (y_Se_init, prog_5_method_1_code, 2, none, k_Se_init)
def k_Se_writeNext_0 : List (Nat × zI) := [(0, i_ald 0 1), (1, i_getf 3 2), (4, i_ald 1 1), (5, i_ild 2 1), (6, i_callV 0 5 2), (9, i_ald 0 1), (10, i_callV 3 31 0), (13, i_vret)]
def k_Se_writeNext : zCd := [(100000, k_Se_writeNext_0)]
def r_Se_writeNext : zR := (y_Se_writeNext, prog_5_method_2_code, 3, none, k_Se_writeNext)
def k_Se_readNext_0 : List (Nat × zI) := [(0, i_ald 0 1), (1, i_getf 3 2), (4, i_callV 0 4 0), (7, i_if (fun x => x = 0) (fun x => ¬ x = 0) 12), (10, i_push 0 1), (11, i_iret), (12, i_ald 0 1), (13, i_getf 3 0), (16, i_callV 4 51 0), (19, i_ist 3 1), (20, i_ald 0 1), (21, i_getf 3 3), (24, i_ald 0 1), (25, i_getf 3 2), (28, i_callV 0 2 1), (31, i_ald 0 1), (32, i_getf 3 3), (35, i_ald 1 1), (36, i_ild 2 1), (37, i_callV 0 6 2), (40, i_ist 4 2), (42, i_ild 4 2), (44, i_if (fun x => ¬ x = 0) (fun x => x = 0) 57), (47, i_ald 0 1)]
def k_Se_readNext_1 : List (Nat × zI) := [(48, i_getf 3 0), (51, i_ild 3 1), (52, i_callV 4 52 1), (55, i_push 0 1), (56, i_iret), (57, i_ald 0 1), (58, i_getf 3 2), (61, i_ald 0 1), (62, i_getf 3 3), (65, i_callV 0 2 1), (68, i_ald 0 1), (69, i_callV 3 31 0), (72, i_ild 4 2), (74, i_iret)]
def k_Se_readNext : zCd := [(48, k_Se_readNext_0), (100000, k_Se_readNext_1)]
def r_Se_readNext : zR := (y_Se_readNext, prog_5_method_3_code, 5, (some .int), k_Se_readNext)
def k_Se_notePayload_0 : List (Nat × zI) := [(0, i_ald 0 1), (1, i_ild 1 1), (2, i_putf 3 6 0), (5, i_ald 0 1), (6, i_dup), (7, i_getf 3 7), (10, i_push 1 1), (11, i_bin (fun x y => x + y)), (12, i_putf 3 7 0), (15, i_vret)]
def k_Se_notePayload : zCd := [(100000, k_Se_notePayload_0)]
def r_Se_notePayload : zR := (y_Se_notePayload, prog_5_method_4_code, 2, none, k_Se_notePayload)
def k_Se_passTick_0 : List (Nat × zI) := [(0, i_ald 0 1), (1, i_getf 3 4), (4, i_if (fun x => x = 0) (fun x => ¬ x = 0) 9), (7, i_push 0 1), (8, i_zret), (9, i_ald 0 1), (10, i_dup), (11, i_getf 3 5), (14, i_push 1 1), (15, i_bin (fun x y => x + y)), (16, i_putf 3 5 0), (19, i_ald 0 1), (20, i_ald 0 1), (21, i_getf 3 5), (24, i_ald 0 1), (25, i_getf 3 2), (28, i_callV 0 3 0), (31, i_if (fun x => x = 0) (fun x => ¬ x = 0) 39), (34, i_push 30 2), (36, i_goto 41), (39, i_push 6 2), (41, i_icmp (fun x y => x < y) (fun x y => ¬ x < y) 48), (44, i_push 1 1), (45, i_goto 49)]
def k_Se_passTick_1 : List (Nat × zI) := [(48, i_push 0 1), (49, i_putf 3 4 1), (52, i_ald 0 1), (53, i_getf 3 4), (56, i_zret)]
def k_Se_passTick : zCd := [(48, k_Se_passTick_0), (100000, k_Se_passTick_1)]
def r_Se_passTick : zR := (y_Se_passTick, prog_5_method_5_code, 1, (some .boolean), k_Se_passTick)
def k_Se_endAgreement_0 : List (Nat × zI) := [(0, i_ald 0 1), (1, i_getf 3 2), (4, i_callV 0 3 0), (7, i_if (fun x => x = 0) (fun x => ¬ x = 0) 36), (10, i_ald 0 1), (11, i_getf 3 1), (14, i_ald 0 1), (15, i_getf 3 2), (18, i_getf 0 8), (21, i_ald 0 1), (22, i_getf 3 2), (25, i_getf 0 2), (28, i_callV 1 15 2), (31, i_ald 0 1), (32, i_push 0 1), (33, i_putf 3 5 0), (36, i_vret)]
def k_Se_endAgreement : zCd := [(100000, k_Se_endAgreement_0)]
def r_Se_endAgreement : zR := (y_Se_endAgreement, prog_5_method_6_code, 1, none, k_Se_endAgreement)
def k_Te_init_0 : List (Nat × zI) := [(0, i_ald 0 1), (1, i_oini), (4, i_ald 0 1), (5, i_push 720 3), (8, i_newa 0), (10, i_putf 4 0 2), (13, i_ald 0 1), (14, i_push 720 3), (17, i_newa 0), (19, i_putf 4 1 2), (22, i_ald 0 1), (23, i_push 720 3), (26, i_newa 0), (28, i_putf 4 2 2), (31, i_ald 0 1), (32, i_push 720 3), (35, i_newa 0), (37, i_putf 4 3 2), (40, i_ald 0 1), (41, i_push 720 3), (44, i_newa 0), (46, i_putf 4 4 2), (49, i_ald 0 1), (50, i_push 720 3)]
def k_Te_init_1 : List (Nat × zI) := [(53, i_newa 1), (55, i_putf 4 5 2), (58, i_ald 0 1), (59, i_push 720 3), (62, i_newa 0), (64, i_putf 4 6 2), (67, i_ald 0 1), (68, i_push 128 3), (71, i_newa 0), (73, i_putf 4 7 2), (76, i_ald 0 1), (77, i_push 21 2), (79, i_newa 1), (81, i_putf 4 8 2), (84, i_ald 0 1), (85, i_push 0 1), (86, i_putf 4 9 0), (89, i_ald 0 1), (90, i_push 8 2), (92, i_putf 4 10 0), (95, i_vret)]
def k_Te_init : zCd := [(53, k_Te_init_0), (100000, k_Te_init_1)]
def r_Te_init : zR := (y_Te_init, prog_6_method_1_code, 1, none, k_Te_init)
def k_Te_num_0 : List (Nat × zI) := [(0, i_ald 0 1), (1, i_push 1 1), (2, i_ild 1 1), (3, i_push 0 1), (4, i_push 0 1), (5, i_push 0 1), (6, i_callV 4 53 5), (9, i_iret)]
def k_Te_num : zCd := [(100000, k_Te_num_0)]
def r_Te_num : zR := (y_Te_num, prog_6_method_2_code, 2, (some .int), k_Te_num)
def k_Te_pub_0 : List (Nat × zI) := [(0, i_ald 0 1), (1, i_push 2 1), (2, i_ild 1 1), (3, i_push 0 1), (4, i_push 0 1), (5, i_push 0 1), (6, i_callV 4 53 5), (9, i_iret)]
def k_Te_pub : zCd := [(100000, k_Te_pub_0)]
def r_Te_pub : zR := (y_Te_pub, prog_6_method_3_code, 2, (some .int), k_Te_pub)
def k_Te_dh_0 : List (Nat × zI) := [(0, i_ald 0 1), (1, i_push 3 1), (2, i_ild 1 1), (3, i_ild 2 1), (4, i_math (fun x y => if y < x then y else x)), (7, i_ild 1 1), (8, i_ild 2 1), (9, i_math (fun x y => if x < y then y else x)), (12, i_push 0 1), (13, i_push 0 1), (14, i_callV 4 53 5), (17, i_iret)]
def k_Te_dh : zCd := [(100000, k_Te_dh_0)]
def r_Te_dh : zR := (y_Te_dh, prog_6_method_4_code, 3, (some .int), k_Te_dh)
def k_Te_hash_0 : List (Nat × zI) := [(0, i_ald 0 1), (1, i_push 4 1), (2, i_ild 1 1), (3, i_ild 2 1), (4, i_push 0 1), (5, i_push 0 1), (6, i_callV 4 53 5), (9, i_iret)]
def k_Te_hash : zCd := [(100000, k_Te_hash_0)]
def r_Te_hash : zR := (y_Te_hash, prog_6_method_5_code, 3, (some .int), k_Te_hash)
def k_Te_chain_0 : List (Nat × zI) := [(0, i_ald 0 1), (1, i_push 5 1), (2, i_ild 1 1), (3, i_ild 2 1), (4, i_push 0 1), (5, i_push 0 1), (6, i_callV 4 53 5), (9, i_iret)]
def k_Te_chain : zCd := [(100000, k_Te_chain_0)]
def r_Te_chain : zR := (y_Te_chain, prog_6_method_6_code, 3, (some .int), k_Te_chain)
def k_Te_key_0 : List (Nat × zI) := [(0, i_ald 0 1), (1, i_push 6 2), (3, i_ild 1 1), (4, i_ild 2 1), (5, i_push 0 1), (6, i_push 0 1), (7, i_callV 4 53 5), (10, i_iret)]
def k_Te_key : zCd := [(100000, k_Te_key_0)]
def r_Te_key : zR := (y_Te_key, prog_6_method_7_code, 3, (some .int), k_Te_key)
def k_Te_half_0 : List (Nat × zI) := [(0, i_ald 0 1), (1, i_push 7 2), (3, i_ild 1 1), (4, i_ild 2 1), (5, i_push 0 1), (6, i_push 0 1), (7, i_callV 4 53 5), (10, i_iret)]
def k_Te_half : zCd := [(100000, k_Te_half_0)]
def r_Te_half : zR := (y_Te_half, prog_6_method_8_code, 3, (some .int), k_Te_half)
def k_Te_seal_0 : List (Nat × zI) := [(0, i_ald 0 1), (1, i_push 8 2), (3, i_ild 1 1), (4, i_ild 2 1), (5, i_ild 3 1), (6, i_ild 4 2), (8, i_callV 4 53 5), (11, i_iret)]
def k_Te_seal : zCd := [(100000, k_Te_seal_0)]
def r_Te_seal : zR := (y_Te_seal, prog_6_method_9_code, 5, (some .int), k_Te_seal)
def k_Te_isNum_0 : List (Nat × zI) := [(0, i_ald 0 1), (1, i_getf 4 0), (4, i_ild 1 1), (5, i_nald 0), (6, i_push 1 1), (7, i_icmp (fun x y => ¬ x = y) (fun x y => x = y) 14), (10, i_push 1 1), (11, i_goto 15), (14, i_push 0 1), (15, i_zret)]
def k_Te_isNum : zCd := [(100000, k_Te_isNum_0)]
def r_Te_isNum : zR := (y_Te_isNum, prog_6_method_10_code, 2, (some .boolean), k_Te_isNum)
def k_Te_isPub_0 : List (Nat × zI) := [(0, i_ald 0 1), (1, i_getf 4 0), (4, i_ild 1 1), (5, i_nald 0), (6, i_push 2 1), (7, i_icmp (fun x y => ¬ x = y) (fun x y => x = y) 14), (10, i_push 1 1), (11, i_goto 15), (14, i_push 0 1), (15, i_zret)]
def k_Te_isPub : zCd := [(100000, k_Te_isPub_0)]
def r_Te_isPub : zR := (y_Te_isPub, prog_6_method_11_code, 2, (some .boolean), k_Te_isPub)
def k_Te_isSeal_0 : List (Nat × zI) := [(0, i_ald 0 1), (1, i_getf 4 0), (4, i_ild 1 1), (5, i_nald 0), (6, i_push 8 2), (8, i_icmp (fun x y => ¬ x = y) (fun x y => x = y) 15), (11, i_push 1 1), (12, i_goto 16), (15, i_push 0 1), (16, i_zret)]
def k_Te_isSeal : zCd := [(100000, k_Te_isSeal_0)]
def r_Te_isSeal : zR := (y_Te_isSeal, prog_6_method_12_code, 2, (some .boolean), k_Te_isSeal)
def k_Te_isSealOf_0 : List (Nat × zI) := [(0, i_ald 0 1), (1, i_ild 1 1), (2, i_callV 4 43 1), (5, i_if (fun x => x = 0) (fun x => ¬ x = 0) 43), (8, i_ald 0 1), (9, i_getf 4 1), (12, i_ild 1 1), (13, i_nald 0), (14, i_ild 2 1), (15, i_icmp (fun x y => ¬ x = y) (fun x y => x = y) 43), (18, i_ald 0 1), (19, i_getf 4 2), (22, i_ild 1 1), (23, i_nald 0), (24, i_ild 3 1), (25, i_icmp (fun x y => ¬ x = y) (fun x y => x = y) 43), (28, i_ald 0 1), (29, i_getf 4 3), (32, i_ild 1 1), (33, i_nald 0), (34, i_ild 4 2), (36, i_icmp (fun x y => ¬ x = y) (fun x y => x = y) 43), (39, i_push 1 1), (40, i_goto 44)]
def k_Te_isSealOf_1 : List (Nat × zI) := [(43, i_push 0 1), (44, i_zret)]
def k_Te_isSealOf : zCd := [(43, k_Te_isSealOf_0), (100000, k_Te_isSealOf_1)]
def r_Te_isSealOf : zR := (y_Te_isSealOf, prog_6_method_13_code, 5, (some .boolean), k_Te_isSealOf)
def k_Te_valueOf_0 : List (Nat × zI) := [(0, i_ald 0 1), (1, i_getf 4 1), (4, i_ild 1 1), (5, i_nald 0), (6, i_iret)]
def k_Te_valueOf : zCd := [(100000, k_Te_valueOf_0)]
def r_Te_valueOf : zR := (y_Te_valueOf, prog_6_method_14_code, 2, (some .int), k_Te_valueOf)
def k_Te_insideOf_0 : List (Nat × zI) := [(0, i_ald 0 1), (1, i_getf 4 4), (4, i_ild 1 1), (5, i_nald 0), (6, i_iret)]
def k_Te_insideOf : zCd := [(100000, k_Te_insideOf_0)]
def r_Te_insideOf : zR := (y_Te_insideOf, prog_6_method_15_code, 2, (some .int), k_Te_insideOf)
def k_Te_canWorkOut_0 : List (Nat × zI) := [(0, i_ald 0 1), (1, i_getf 4 5), (4, i_ild 1 1), (5, i_nald 1), (6, i_zret)]
def k_Te_canWorkOut : zCd := [(100000, k_Te_canWorkOut_0)]
def r_Te_canWorkOut : zR := (y_Te_canWorkOut, prog_6_method_16_code, 2, (some .boolean), k_Te_canWorkOut)
def k_Te_canOpen_0 : List (Nat × zI) := [(0, i_ald 0 1), (1, i_getf 4 5), (4, i_ald 0 1), (5, i_getf 4 1), (8, i_ild 1 1), (9, i_nald 0), (10, i_nald 1), (11, i_zret)]
def k_Te_canOpen : zCd := [(100000, k_Te_canOpen_0)]
def r_Te_canOpen : zR := (y_Te_canOpen, prog_6_method_17_code, 2, (some .boolean), k_Te_canOpen)
def k_Te_makeKey_0 : List (Nat × zI) := [(0, i_ald 0 1), (1, i_getf 4 10), (4, i_push 20 2), (6, i_icmp (fun x y => y ≤ x) (fun x y => ¬ y ≤ x) 19), (9, i_ald 0 1), (10, i_dup), (11, i_getf 4 10), (14, i_push 1 1), (15, i_bin (fun x y => x + y)), (16, i_putf 4 10 0), (19, i_ald 0 1), (20, i_getf 4 10), (23, i_iret)]
def k_Te_makeKey : zCd := [(100000, k_Te_makeKey_0)]
def r_Te_makeKey : zR := (y_Te_makeKey, prog_6_method_18_code, 1, (some .int), k_Te_makeKey)
def k_Te_giveAway_0 : List (Nat × zI) := [(0, i_ild 1 1), (1, i_push 1 1), (2, i_icmp (fun x y => x < y) (fun x y => ¬ x < y) 22), (5, i_ild 1 1), (6, i_ald 0 1), (7, i_getf 4 10), (10, i_icmp (fun x y => y < x) (fun x y => ¬ y < x) 22), (13, i_ald 0 1), (14, i_getf 4 8), (17, i_ild 1 1), (18, i_nald 1), (19, i_if (fun x => x = 0) (fun x => ¬ x = 0) 24), (22, i_push 0 1), (23, i_zret), (24, i_ald 0 1), (25, i_getf 4 8), (28, i_ild 1 1), (29, i_push 1 1), (30, i_nast 1 (fun x => x &&& 1)), (31, i_push 1 1), (32, i_ist 2 1), (33, i_ild 2 1), (34, i_ald 0 1), (35, i_getf 4 9)]
def k_Te_giveAway_1 : List (Nat × zI) := [(38, i_icmp (fun x y => y < x) (fun x y => ¬ y < x) 58), (41, i_ald 0 1), (42, i_getf 4 5), (45, i_ild 2 1), (46, i_ald 0 1), (47, i_ild 2 1), (48, i_callV 4 54 1), (51, i_nast 1 (fun x => x &&& 1)), (52, i_inc 2 1), (55, i_goto 33), (58, i_push 1 1), (59, i_zret)]
def k_Te_giveAway : zCd := [(38, k_Te_giveAway_0), (100000, k_Te_giveAway_1)]
def r_Te_giveAway : zR := (y_Te_giveAway, prog_6_method_19_code, 3, (some .boolean), k_Te_giveAway)
def k_Te_newest_0 : List (Nat × zI) := [(0, i_ald 0 1), (1, i_getf 4 9), (4, i_iret)]
def k_Te_newest : zCd := [(100000, k_Te_newest_0)]
def r_Te_newest : zR := (y_Te_newest, prog_6_method_20_code, 1, (some .int), k_Te_newest)
def k_Te_dropBehind_0 : List (Nat × zI) := [(0, i_ald 0 1), (1, i_getf 4 9), (4, i_ist 2 1), (5, i_ild 2 1), (6, i_ild 1 1), (7, i_icmp (fun x y => x ≤ y) (fun x y => ¬ x ≤ y) 69), (10, i_ald 0 1), (11, i_getf 4 0), (14, i_ild 2 1), (15, i_nald 0), (16, i_ald 0 1), (17, i_getf 4 1), (20, i_ild 2 1), (21, i_nald 0), (22, i_ald 0 1), (23, i_getf 4 2), (26, i_ild 2 1), (27, i_nald 0), (28, i_ald 0 1), (29, i_getf 4 3), (32, i_ild 2 1), (33, i_nald 0), (34, i_ald 0 1), (35, i_getf 4 4)]
def k_Te_dropBehind_1 : List (Nat × zI) := [(38, i_ild 2 1), (39, i_nald 0), (40, i_callS 55 5), (43, i_ist 3 1), (44, i_ald 0 1), (45, i_getf 4 7), (48, i_ild 3 1), (49, i_ald 0 1), (50, i_getf 4 6), (53, i_ild 2 1), (54, i_nald 0), (55, i_nast 0 (fun x => x)), (56, i_ald 0 1), (57, i_ild 2 1), (58, i_push 1 1), (59, i_bin (fun x y => x - y)), (60, i_putf 4 9 0), (63, i_inc 2 (-1)), (66, i_goto 5), (69, i_vret)]
def k_Te_dropBehind : zCd := [(38, k_Te_dropBehind_0), (100000, k_Te_dropBehind_1)]
def r_Te_dropBehind : zR := (y_Te_dropBehind, prog_6_method_21_code, 4, none, k_Te_dropBehind)
def k_Te_make_0 : List (Nat × zI) := [(0, i_ild 1 1), (1, i_ild 2 1), (2, i_ild 3 1), (3, i_ild 4 2), (5, i_ild 5 2), (7, i_callS 55 5), (10, i_ist 6 2), (12, i_ald 0 1), (13, i_getf 4 7), (16, i_ild 6 2), (18, i_nald 0), (19, i_ist 7 2), (21, i_push 0 1), (22, i_ist 8 2), (24, i_ild 8 2), (26, i_push 720 3), (29, i_icmp (fun x y => y ≤ x) (fun x y => ¬ y ≤ x) 112), (32, i_ild 7 2), (34, i_if (fun x => x = 0) (fun x => ¬ x = 0) 112), (37, i_ald 0 1), (38, i_getf 4 0), (41, i_ild 7 2), (43, i_nald 0), (44, i_ild 1 1)]
def k_Te_make_1 : List (Nat × zI) := [(45, i_icmp (fun x y => ¬ x = y) (fun x y => x = y) 97), (48, i_ald 0 1), (49, i_getf 4 1), (52, i_ild 7 2), (54, i_nald 0), (55, i_ild 2 1), (56, i_icmp (fun x y => ¬ x = y) (fun x y => x = y) 97), (59, i_ald 0 1), (60, i_getf 4 2), (63, i_ild 7 2), (65, i_nald 0), (66, i_ild 3 1), (67, i_icmp (fun x y => ¬ x = y) (fun x y => x = y) 97), (70, i_ald 0 1), (71, i_getf 4 3), (74, i_ild 7 2), (76, i_nald 0), (77, i_ild 4 2), (79, i_icmp (fun x y => ¬ x = y) (fun x y => x = y) 97), (82, i_ald 0 1), (83, i_getf 4 4), (86, i_ild 7 2), (88, i_nald 0), (89, i_ild 5 2)]
def k_Te_make_2 : List (Nat × zI) := [(91, i_icmp (fun x y => ¬ x = y) (fun x y => x = y) 97), (94, i_ild 7 2), (96, i_iret), (97, i_ald 0 1), (98, i_getf 4 6), (101, i_ild 7 2), (103, i_nald 0), (104, i_ist 7 2), (106, i_inc 8 1), (109, i_goto 24), (112, i_ald 0 1), (113, i_getf 4 9), (116, i_push 1 1), (117, i_bin (fun x y => x + y)), (118, i_push 720 3), (121, i_icmp (fun x y => x < y) (fun x y => ¬ x < y) 126), (124, i_push 0 1), (125, i_iret), (126, i_ald 0 1), (127, i_dup), (128, i_getf 4 9), (131, i_push 1 1), (132, i_bin (fun x y => x + y)), (133, i_putf 4 9 0)]
def k_Te_make_3 : List (Nat × zI) := [(136, i_ald 0 1), (137, i_getf 4 0), (140, i_ald 0 1), (141, i_getf 4 9), (144, i_ild 1 1), (145, i_nast 0 (fun x => x)), (146, i_ald 0 1), (147, i_getf 4 1), (150, i_ald 0 1), (151, i_getf 4 9), (154, i_ild 2 1), (155, i_nast 0 (fun x => x)), (156, i_ald 0 1), (157, i_getf 4 2), (160, i_ald 0 1), (161, i_getf 4 9), (164, i_ild 3 1), (165, i_nast 0 (fun x => x)), (166, i_ald 0 1), (167, i_getf 4 3), (170, i_ald 0 1), (171, i_getf 4 9), (174, i_ild 4 2), (176, i_nast 0 (fun x => x))]
def k_Te_make_4 : List (Nat × zI) := [(177, i_ald 0 1), (178, i_getf 4 4), (181, i_ald 0 1), (182, i_getf 4 9), (185, i_ild 5 2), (187, i_nast 0 (fun x => x)), (188, i_ald 0 1), (189, i_getf 4 5), (192, i_ald 0 1), (193, i_getf 4 9), (196, i_ald 0 1), (197, i_ald 0 1), (198, i_getf 4 9), (201, i_callV 4 54 1), (204, i_nast 1 (fun x => x &&& 1)), (205, i_ald 0 1), (206, i_getf 4 6), (209, i_ald 0 1), (210, i_getf 4 9), (213, i_ald 0 1), (214, i_getf 4 7), (217, i_ild 6 2), (219, i_nald 0), (220, i_nast 0 (fun x => x))]
def k_Te_make_5 : List (Nat × zI) := [(221, i_ald 0 1), (222, i_getf 4 7), (225, i_ild 6 2), (227, i_ald 0 1), (228, i_getf 4 9), (231, i_nast 0 (fun x => x)), (232, i_ald 0 1), (233, i_getf 4 9), (236, i_iret)]
def k_Te_make : zCd := [(45, k_Te_make_0), (91, k_Te_make_1), (136, k_Te_make_2), (177, k_Te_make_3), (221, k_Te_make_4), (100000, k_Te_make_5)]
def r_Te_make : zR := (y_Te_make, prog_6_method_22_code, 9, (some .int), k_Te_make)
def k_Te_judged_0 : List (Nat × zI) := [(0, i_ald 0 1), (1, i_getf 4 0), (4, i_ild 1 1), (5, i_nald 0), (6, i_tsw 3 [40, 74, 74, 74, 108] 120), (40, i_ald 0 1), (41, i_getf 4 8), (44, i_ald 0 1), (45, i_getf 4 1), (48, i_ild 1 1), (49, i_nald 0), (50, i_nald 1), (51, i_if (fun x => ¬ x = 0) (fun x => x = 0) 68), (54, i_ald 0 1), (55, i_getf 4 8), (58, i_ald 0 1), (59, i_getf 4 2), (62, i_ild 1 1), (63, i_nald 0), (64, i_nald 1), (65, i_if (fun x => x = 0) (fun x => ¬ x = 0) 72), (68, i_push 1 1), (69, i_goto 73), (72, i_push 0 1)]
def k_Te_judged_1 : List (Nat × zI) := [(73, i_zret), (74, i_ald 0 1), (75, i_getf 4 5), (78, i_ald 0 1), (79, i_getf 4 1), (82, i_ild 1 1), (83, i_nald 0), (84, i_nald 1), (85, i_if (fun x => x = 0) (fun x => ¬ x = 0) 106), (88, i_ald 0 1), (89, i_getf 4 5), (92, i_ald 0 1), (93, i_getf 4 2), (96, i_ild 1 1), (97, i_nald 0), (98, i_nald 1), (99, i_if (fun x => x = 0) (fun x => ¬ x = 0) 106), (102, i_push 1 1), (103, i_goto 107), (106, i_push 0 1), (107, i_zret), (108, i_ald 0 1), (109, i_getf 4 5), (112, i_ald 0 1)]
def k_Te_judged_2 : List (Nat × zI) := [(113, i_getf 4 1), (116, i_ild 1 1), (117, i_nald 0), (118, i_nald 1), (119, i_zret), (120, i_push 1 1), (121, i_zret)]
def k_Te_judged : zCd := [(73, k_Te_judged_0), (113, k_Te_judged_1), (100000, k_Te_judged_2)]
def r_Te_judged : zR := (y_Te_judged, prog_6_method_23_code, 2, (some .boolean), k_Te_judged)
def k_Te_bucketOf_0 : List (Nat × zI) := [(0, i_ild 0 1), (1, i_push 31 2), (3, i_bin (fun x y => x * y)), (4, i_ild 1 1), (5, i_bin (fun x y => x + y)), (6, i_push 31 2), (8, i_bin (fun x y => x * y)), (9, i_ild 2 1), (10, i_bin (fun x y => x + y)), (11, i_push 31 2), (13, i_bin (fun x y => x * y)), (14, i_ild 3 1), (15, i_bin (fun x y => x + y)), (16, i_push 31 2), (18, i_bin (fun x y => x * y)), (19, i_ild 4 2), (21, i_bin (fun x y => x + y)), (22, i_ist 5 2), (24, i_ild 5 2), (26, i_ild 5 2), (28, i_push 7 2), (30, i_bin (fun x y => (x.toUInt32 >>> (y.toUInt32 &&& Int32.toUInt32 31)).toInt32)), (31, i_bin (fun x y => x ^^^ y)), (32, i_ild 5 2)]
def k_Te_bucketOf_1 : List (Nat × zI) := [(34, i_push 14 2), (36, i_bin (fun x y => (x.toUInt32 >>> (y.toUInt32 &&& Int32.toUInt32 31)).toInt32)), (37, i_bin (fun x y => x ^^^ y)), (38, i_push 127 2), (40, i_bin (fun x y => x &&& y)), (41, i_iret)]
def k_Te_bucketOf : zCd := [(34, k_Te_bucketOf_0), (100000, k_Te_bucketOf_1)]
def r_Te_bucketOf : zR := (y_Te_bucketOf, prog_6_method_24_code, 6, (some .int), k_Te_bucketOf)
def k_St_init_0 : List (Nat × zI) := [(0, i_ald 0 1), (1, i_oini), (4, i_ald 0 1), (5, i_new 4 11 [.null, .null, .null, .null, .null, .null, .null, .null, .null, .int 0, .int 0]), (8, i_dup), (9, i_callI 32 0), (12, i_putf 5 0 2), (15, i_ald 0 1), (16, i_new 2 3 [.null, .null, .int 0]), (19, i_dup), (20, i_callI 19 0), (23, i_putf 5 1 2), (26, i_ald 0 1), (27, i_push 12 2), (29, i_newq), (32, i_putf 5 2 2), (35, i_ald 0 1), (36, i_push 0 1), (37, i_putf 5 3 0), (40, i_vret)]
def k_St_init : zCd := [(100000, k_St_init_0)]
def r_St_init : zR := (y_St_init, prog_1_method_1_code, 1, none, k_St_init)
def k_St_start_0 : List (Nat × zI) := [(0, i_ild 1 1), (1, i_push 1 1), (2, i_icmp (fun x y => ¬ x = y) (fun x y => x = y) 13), (5, i_ild 2 1), (6, i_if (fun x => x = 0) (fun x => ¬ x = 0) 13), (9, i_push 1 1), (10, i_goto 14), (13, i_push 0 1), (14, i_ist 6 2), (16, i_ild 1 1), (17, i_if (fun x => x = 0) (fun x => ¬ x = 0) 27), (20, i_ild 1 1), (21, i_push 1 1), (22, i_icmp (fun x y => x = y) (fun x y => ¬ x = y) 27), (25, i_push (-1) 1), (26, i_iret), (27, i_ild 3 1), (28, i_callS 76 1), (31, i_if (fun x => x = 0) (fun x => ¬ x = 0) 47), (34, i_ild 6 2), (36, i_if (fun x => x = 0) (fun x => ¬ x = 0) 49), (39, i_ild 4 2), (41, i_callS 76 1), (44, i_if (fun x => ¬ x = 0) (fun x => x = 0) 49)]
def k_St_start_1 : List (Nat × zI) := [(47, i_push (-1) 1), (48, i_iret), (49, i_ald 0 1), (50, i_getf 5 3), (53, i_push 12 2), (55, i_icmp (fun x y => x < y) (fun x y => ¬ x < y) 61), (58, i_push (-4) 2), (60, i_iret), (61, i_new 3 8 [.null, .null, .null, .null, .int 0, .int 0, .int 0, .int 0]), (64, i_dup), (65, i_ald 0 1), (66, i_getf 5 0), (69, i_callI 26 1), (72, i_ast 7 2), (74, i_ald 7 2), (76, i_getf 3 2), (79, i_ild 1 1), (80, i_ild 2 1), (81, i_ild 3 1), (82, i_ild 6 2), (84, i_if (fun x => x = 0) (fun x => ¬ x = 0) 92), (87, i_ild 4 2), (89, i_goto 93), (92, i_push 0 1)]
def k_St_start_2 : List (Nat × zI) := [(93, i_ild 5 2), (95, i_callV 0 1 5), (98, i_ald 0 1), (99, i_getf 5 2), (102, i_ald 0 1), (103, i_getf 5 3), (106, i_ald 7 2), (108, i_aast 3), (109, i_ald 0 1), (110, i_dup), (111, i_getf 5 3), (114, i_push 1 1), (115, i_bin (fun x y => x + y)), (116, i_putf 5 3 0), (119, i_ald 0 1), (120, i_getf 5 3), (123, i_push 1 1), (124, i_bin (fun x y => x - y)), (125, i_iret)]
def k_St_start : zCd := [(47, k_St_start_0), (93, k_St_start_1), (100000, k_St_start_2)]
def r_St_start : zR := (y_St_start, prog_1_method_2_code, 8, (some .int), k_St_start)
def k_St_write_0 : List (Nat × zI) := [(0, i_ald 0 1), (1, i_ild 1 1), (2, i_callV 5 77 1), (5, i_ast 3 1), (6, i_ald 3 1), (7, i_nnl 12), (10, i_push (-1) 1), (11, i_iret), (12, i_ald 3 1), (13, i_getf 3 4), (16, i_if (fun x => x = 0) (fun x => ¬ x = 0) 22), (19, i_push (-2) 2), (21, i_iret), (22, i_ald 3 1), (23, i_getf 3 2), (26, i_callV 0 4 0), (29, i_if (fun x => ¬ x = 0) (fun x => x = 0) 35), (32, i_push (-3) 2), (34, i_iret), (35, i_ald 0 1), (36, i_getf 5 1), (39, i_callV 2 20 0), (42, i_if (fun x => x = 0) (fun x => ¬ x = 0) 48), (45, i_push (-4) 2)]
def k_St_write_1 : List (Nat × zI) := [(47, i_iret), (48, i_ald 3 1), (49, i_ald 0 1), (50, i_getf 5 1), (53, i_ild 2 1), (54, i_callV 3 27 2), (57, i_ald 0 1), (58, i_getf 5 1), (61, i_callV 2 25 0), (64, i_iret)]
def k_St_write : zCd := [(47, k_St_write_0), (100000, k_St_write_1)]
def r_St_write : zR := (y_St_write, prog_1_method_3_code, 4, (some .int), k_St_write)
def k_St_send_0 : List (Nat × zI) := [(0, i_ald 0 1), (1, i_ild 1 1), (2, i_callV 5 77 1), (5, i_ast 3 1), (6, i_ald 3 1), (7, i_nnl 12), (10, i_push (-1) 1), (11, i_iret), (12, i_ald 3 1), (13, i_getf 3 4), (16, i_if (fun x => x = 0) (fun x => ¬ x = 0) 22), (19, i_push (-2) 2), (21, i_iret), (22, i_ald 3 1), (23, i_getf 3 2), (26, i_callV 0 3 0), (29, i_if (fun x => ¬ x = 0) (fun x => x = 0) 35), (32, i_push (-3) 2), (34, i_iret), (35, i_ald 0 1), (36, i_getf 5 1), (39, i_callV 2 20 0), (42, i_if (fun x => x = 0) (fun x => ¬ x = 0) 48), (45, i_push (-4) 2)]
def k_St_send_1 : List (Nat × zI) := [(47, i_iret), (48, i_ald 3 1), (49, i_getf 3 1), (52, i_ald 0 1), (53, i_getf 5 1), (56, i_ild 2 1), (57, i_callV 1 16 2), (60, i_ald 0 1), (61, i_getf 5 1), (64, i_callV 2 25 0), (67, i_iret)]
def k_St_send : zCd := [(47, k_St_send_0), (100000, k_St_send_1)]
def r_St_send : zR := (y_St_send, prog_1_method_4_code, 4, (some .int), k_St_send)
def k_St_deliver_0 : List (Nat × zI) := [(0, i_ald 0 1), (1, i_ild 2 1), (2, i_callV 5 77 1), (5, i_ast 3 1), (6, i_ald 3 1), (7, i_nul 21), (10, i_ald 0 1), (11, i_getf 5 1), (14, i_ild 1 1), (15, i_callV 2 21 1), (18, i_if (fun x => ¬ x = 0) (fun x => x = 0) 23), (21, i_push (-1) 1), (22, i_iret), (23, i_ald 3 1), (24, i_getf 3 4), (27, i_if (fun x => x = 0) (fun x => ¬ x = 0) 33), (30, i_push (-2) 2), (32, i_iret), (33, i_ald 3 1), (34, i_getf 3 2), (37, i_callV 0 3 0), (40, i_if (fun x => x = 0) (fun x => ¬ x = 0) 58), (43, i_ald 3 1), (44, i_getf 3 1)]
def k_St_deliver_1 : List (Nat × zI) := [(47, i_ald 0 1), (48, i_getf 5 1), (51, i_ild 1 1), (52, i_callV 1 17 2), (55, i_goto 67), (58, i_ald 3 1), (59, i_ald 0 1), (60, i_getf 5 1), (63, i_ild 1 1), (64, i_callV 3 28 2), (67, i_ist 4 2), (69, i_ild 4 2), (71, i_if (fun x => ¬ x = 0) (fun x => x = 0) 76), (74, i_push 0 1), (75, i_iret), (76, i_ald 3 1), (77, i_ald 0 1), (78, i_getf 5 0), (81, i_ild 4 2), (83, i_callV 4 45 1), (86, i_callV 3 29 1), (89, i_push 1 1), (90, i_iret)]
def k_St_deliver : zCd := [(47, k_St_deliver_0), (100000, k_St_deliver_1)]
def r_St_deliver : zR := (y_St_deliver, prog_1_method_5_code, 5, (some .int), k_St_deliver)
def k_St_splice_0 : List (Nat × zI) := [(0, i_ald 0 1), (1, i_getf 5 1), (4, i_ild 3 1), (5, i_ild 4 2), (7, i_callV 2 23 2), (10, i_ist 5 2), (12, i_ild 5 2), (14, i_if (fun x => x = 0) (fun x => ¬ x = 0) 29), (17, i_ald 0 1), (18, i_getf 5 1), (21, i_ild 1 1), (22, i_ild 2 1), (23, i_callV 2 23 2), (26, i_if (fun x => ¬ x = 0) (fun x => x = 0) 31), (29, i_push (-1) 1), (30, i_iret), (31, i_ald 0 1), (32, i_getf 5 1), (35, i_callV 2 20 0), (38, i_if (fun x => x = 0) (fun x => ¬ x = 0) 46), (41, i_push (-4) 2), (43, i_goto 54), (46, i_ald 0 1), (47, i_ild 1 1)]
def k_St_splice_1 : List (Nat × zI) := [(48, i_ild 2 1), (49, i_ild 5 2), (51, i_callV 5 78 3), (54, i_iret)]
def k_St_splice : zCd := [(48, k_St_splice_0), (100000, k_St_splice_1)]
def r_St_splice : zR := (y_St_splice, prog_1_method_6_code, 6, (some .int), k_St_splice)
def k_St_replace_0 : List (Nat × zI) := [(0, i_ald 0 1), (1, i_getf 5 1), (4, i_ild 1 1), (5, i_ild 2 1), (6, i_callV 2 23 2), (9, i_if (fun x => ¬ x = 0) (fun x => x = 0) 14), (12, i_push (-1) 1), (13, i_iret), (14, i_ald 0 1), (15, i_getf 5 1), (18, i_callV 2 20 0), (21, i_if (fun x => x = 0) (fun x => ¬ x = 0) 29), (24, i_push (-4) 2), (26, i_goto 43), (29, i_ald 0 1), (30, i_ild 1 1), (31, i_ild 2 1), (32, i_ald 0 1), (33, i_getf 5 0), (36, i_ild 3 1), (37, i_callV 4 33 1), (40, i_callV 5 78 3), (43, i_iret)]
def k_St_replace : zCd := [(100000, k_St_replace_0)]
def r_St_replace : zR := (y_St_replace, prog_1_method_7_code, 4, (some .int), k_St_replace)
def k_St_give_0 : List (Nat × zI) := [(0, i_ald 0 1), (1, i_getf 5 0), (4, i_ild 1 1), (5, i_callV 4 50 1), (8, i_zret)]
def k_St_give : zCd := [(100000, k_St_give_0)]
def r_St_give : zR := (y_St_give, prog_1_method_8_code, 2, (some .boolean), k_St_give)
def k_St_tick_0 : List (Nat × zI) := [(0, i_push 0 1), (1, i_ist 1 1), (2, i_push 0 1), (3, i_ist 2 1), (4, i_ild 2 1), (5, i_ald 0 1), (6, i_getf 5 3), (9, i_icmp (fun x y => y ≤ x) (fun x y => ¬ y ≤ x) 38), (12, i_ald 0 1), (13, i_ild 2 1), (14, i_callV 5 77 1), (17, i_ast 3 1), (18, i_ald 3 1), (19, i_nul 32), (22, i_ald 3 1), (23, i_callV 3 30 0), (26, i_if (fun x => x = 0) (fun x => ¬ x = 0) 32), (29, i_inc 1 1), (32, i_inc 2 1), (35, i_goto 4), (38, i_ild 1 1), (39, i_iret)]
def k_St_tick : zCd := [(100000, k_St_tick_0)]
def r_St_tick : zR := (y_St_tick, prog_1_method_9_code, 4, (some .int), k_St_tick)
def k_St_state_0 : List (Nat × zI) := [(0, i_ald 0 1), (1, i_ild 1 1), (2, i_callV 5 77 1), (5, i_ast 2 1), (6, i_ald 2 1), (7, i_nnl 12), (10, i_push (-1) 1), (11, i_iret), (12, i_ald 2 1), (13, i_getf 3 4), (16, i_if (fun x => x = 0) (fun x => ¬ x = 0) 21), (19, i_push 2 1), (20, i_iret), (21, i_ald 2 1), (22, i_getf 3 2), (25, i_callV 0 3 0), (28, i_if (fun x => x = 0) (fun x => ¬ x = 0) 35), (31, i_push 1 1), (32, i_goto 36), (35, i_push 0 1), (36, i_iret)]
def k_St_state : zCd := [(100000, k_St_state_0)]
def r_St_state : zR := (y_St_state, prog_1_method_10_code, 3, (some .int), k_St_state)
def k_St_steps_0 : List (Nat × zI) := [(0, i_ald 0 1), (1, i_ild 1 1), (2, i_callV 5 77 1), (5, i_ast 2 1), (6, i_ald 2 1), (7, i_nnl 14), (10, i_push (-1) 1), (11, i_goto 21), (14, i_ald 2 1), (15, i_getf 3 2), (18, i_getf 0 11), (21, i_iret)]
def k_St_steps : zCd := [(100000, k_St_steps_0)]
def r_St_steps : zR := (y_St_steps, prog_1_method_11_code, 3, (some .int), k_St_steps)
def k_St_peer_0 : List (Nat × zI) := [(0, i_ald 0 1), (1, i_ild 1 1), (2, i_callV 5 77 1), (5, i_ast 2 1), (6, i_ald 2 1), (7, i_nnl 14), (10, i_push (-1) 1), (11, i_goto 21), (14, i_ald 2 1), (15, i_getf 3 2), (18, i_getf 0 5), (21, i_iret)]
def k_St_peer : zCd := [(100000, k_St_peer_0)]
def r_St_peer : zR := (y_St_peer, prog_1_method_12_code, 3, (some .int), k_St_peer)
def k_St_payload_0 : List (Nat × zI) := [(0, i_ald 0 1), (1, i_ild 1 1), (2, i_callV 5 77 1), (5, i_ast 2 1), (6, i_ald 2 1), (7, i_nnl 14), (10, i_push 0 1), (11, i_goto 18), (14, i_ald 2 1), (15, i_getf 3 6), (18, i_iret)]
def k_St_payload : zCd := [(100000, k_St_payload_0)]
def r_St_payload : zR := (y_St_payload, prog_1_method_13_code, 3, (some .int), k_St_payload)
def k_St_accepted_0 : List (Nat × zI) := [(0, i_ald 0 1), (1, i_ild 1 1), (2, i_callV 5 77 1), (5, i_ast 2 1), (6, i_ald 2 1), (7, i_nnl 14), (10, i_push (-1) 1), (11, i_goto 18), (14, i_ald 2 1), (15, i_getf 3 7), (18, i_iret)]
def k_St_accepted : zCd := [(100000, k_St_accepted_0)]
def r_St_accepted : zR := (y_St_accepted, prog_1_method_14_code, 3, (some .int), k_St_accepted)
def k_St_match_0 : List (Nat × zI) := [(0, i_ald 0 1), (1, i_ild 1 1), (2, i_callV 5 77 1), (5, i_ast 3 1), (6, i_ald 0 1), (7, i_ild 2 1), (8, i_callV 5 77 1), (11, i_ast 4 2), (13, i_ald 3 1), (14, i_nul 43), (17, i_ald 4 2), (19, i_nul 43), (22, i_ald 3 1), (23, i_getf 3 2), (26, i_callV 0 3 0), (29, i_if (fun x => x = 0) (fun x => ¬ x = 0) 43), (32, i_ald 4 2), (34, i_getf 3 2), (37, i_callV 0 3 0), (40, i_if (fun x => ¬ x = 0) (fun x => x = 0) 45), (43, i_push 0 1), (44, i_zret), (45, i_ald 3 1), (46, i_getf 3 1)]
def k_St_match_1 : List (Nat × zI) := [(49, i_getf 1 2), (52, i_ald 4 2), (54, i_getf 3 1), (57, i_getf 1 3), (60, i_icmp (fun x y => ¬ x = y) (fun x y => x = y) 85), (63, i_ald 4 2), (65, i_getf 3 1), (68, i_getf 1 2), (71, i_ald 3 1), (72, i_getf 3 1), (75, i_getf 1 3), (78, i_icmp (fun x y => ¬ x = y) (fun x y => x = y) 85), (81, i_push 1 1), (82, i_goto 86), (85, i_push 0 1), (86, i_zret)]
def k_St_match : zCd := [(49, k_St_match_0), (100000, k_St_match_1)]
def r_St_match : zR := (y_St_match, prog_1_method_15_code, 5, (some .boolean), k_St_match)
def k_St_open_0 : List (Nat × zI) := [(0, i_ald 0 1), (1, i_ild 1 1), (2, i_callV 5 77 1), (5, i_ast 2 1), (6, i_ald 2 1), (7, i_nul 20), (10, i_ald 2 1), (11, i_getf 3 2), (14, i_callV 0 3 0), (17, i_if (fun x => ¬ x = 0) (fun x => x = 0) 22), (20, i_push 0 1), (21, i_zret), (22, i_ald 0 1), (23, i_getf 5 0), (26, i_ald 2 1), (27, i_getf 3 1), (30, i_getf 1 2), (33, i_callV 4 47 1), (36, i_if (fun x => x = 0) (fun x => ¬ x = 0) 60), (39, i_ald 0 1), (40, i_getf 5 0), (43, i_ald 2 1), (44, i_getf 3 1), (47, i_getf 1 3)]
def k_St_open_1 : List (Nat × zI) := [(50, i_callV 4 47 1), (53, i_if (fun x => x = 0) (fun x => ¬ x = 0) 60), (56, i_push 1 1), (57, i_goto 61), (60, i_push 0 1), (61, i_zret)]
def k_St_open : zCd := [(50, k_St_open_0), (100000, k_St_open_1)]
def r_St_open : zR := (y_St_open, prog_1_method_16_code, 3, (some .boolean), k_St_open)
def k_St_parts_0 : List (Nat × zI) := [(0, i_ald 0 1), (1, i_getf 5 1), (4, i_ild 1 1), (5, i_callV 2 21 1), (8, i_if (fun x => x = 0) (fun x => ¬ x = 0) 22), (11, i_ald 0 1), (12, i_getf 5 1), (15, i_ild 1 1), (16, i_callV 2 22 1), (19, i_goto 23), (22, i_push (-1) 1), (23, i_iret)]
def k_St_parts : zCd := [(100000, k_St_parts_0)]
def r_St_parts : zR := (y_St_parts, prog_1_method_17_code, 2, (some .int), k_St_parts)
def k_St_sees_0 : List (Nat × zI) := [(0, i_ald 0 1), (1, i_getf 5 1), (4, i_ild 1 1), (5, i_ild 2 1), (6, i_callV 2 23 2), (9, i_ist 3 1), (10, i_ald 0 1), (11, i_getf 5 0), (14, i_ild 3 1), (15, i_callV 4 41 1), (18, i_if (fun x => x = 0) (fun x => ¬ x = 0) 23), (21, i_push 1 1), (22, i_iret), (23, i_ald 0 1), (24, i_getf 5 0), (27, i_ild 3 1), (28, i_callV 4 42 1), (31, i_if (fun x => x = 0) (fun x => ¬ x = 0) 36), (34, i_push 2 1), (35, i_iret), (36, i_ald 0 1), (37, i_getf 5 0), (40, i_ild 3 1), (41, i_callV 4 43 1)]
def k_St_sees_1 : List (Nat × zI) := [(44, i_if (fun x => x = 0) (fun x => ¬ x = 0) 64), (47, i_ald 0 1), (48, i_getf 5 0), (51, i_ild 3 1), (52, i_callV 4 48 1), (55, i_if (fun x => x = 0) (fun x => ¬ x = 0) 62), (58, i_push 3 1), (59, i_goto 63), (62, i_push 4 1), (63, i_iret), (64, i_push (-1) 1), (65, i_iret)]
def k_St_sees : zCd := [(44, k_St_sees_0), (100000, k_St_sees_1)]
def r_St_sees : zR := (y_St_sees, prog_1_method_18_code, 4, (some .int), k_St_sees)
def k_St_shown_0 : List (Nat × zI) := [(0, i_ald 0 1), (1, i_getf 5 1), (4, i_ild 1 1), (5, i_ild 2 1), (6, i_callV 2 23 2), (9, i_ist 3 1), (10, i_ald 0 1), (11, i_getf 5 0), (14, i_ild 3 1), (15, i_callV 4 43 1), (18, i_if (fun x => x = 0) (fun x => ¬ x = 0) 43), (21, i_ald 0 1), (22, i_getf 5 0), (25, i_ild 3 1), (26, i_callV 4 48 1), (29, i_if (fun x => x = 0) (fun x => ¬ x = 0) 43), (32, i_ald 0 1), (33, i_getf 5 0), (36, i_ild 3 1), (37, i_callV 4 46 1), (40, i_goto 44), (43, i_ild 3 1), (44, i_ist 4 2), (46, i_ald 0 1)]
def k_St_shown_1 : List (Nat × zI) := [(47, i_getf 5 0), (50, i_ild 4 2), (52, i_callV 4 41 1), (55, i_if (fun x => ¬ x = 0) (fun x => x = 0) 70), (58, i_ald 0 1), (59, i_getf 5 0), (62, i_ild 4 2), (64, i_callV 4 42 1), (67, i_if (fun x => x = 0) (fun x => ¬ x = 0) 82), (70, i_ald 0 1), (71, i_getf 5 0), (74, i_ild 4 2), (76, i_callV 4 45 1), (79, i_goto 83), (82, i_push 0 1), (83, i_iret)]
def k_St_shown : zCd := [(47, k_St_shown_0), (100000, k_St_shown_1)]
def r_St_shown : zR := (y_St_shown, prog_1_method_19_code, 5, (some .int), k_St_shown)
def k_St_same_0 : List (Nat × zI) := [(0, i_ald 0 1), (1, i_getf 5 1), (4, i_ild 1 1), (5, i_ild 2 1), (6, i_callV 2 23 2), (9, i_ist 5 2), (11, i_ild 5 2), (13, i_if (fun x => x = 0) (fun x => ¬ x = 0) 35), (16, i_ild 5 2), (18, i_ald 0 1), (19, i_getf 5 1), (22, i_ild 3 1), (23, i_ild 4 2), (25, i_callV 2 23 2), (28, i_icmp (fun x y => ¬ x = y) (fun x y => x = y) 35), (31, i_push 1 1), (32, i_goto 36), (35, i_push 0 1), (36, i_zret)]
def k_St_same : zCd := [(100000, k_St_same_0)]
def r_St_same : zR := (y_St_same, prog_1_method_20_code, 6, (some .boolean), k_St_same)
def k_St_isStaticKey_0 : List (Nat × zI) := [(0, i_ild 0 1), (1, i_push 1 1), (2, i_icmp (fun x y => x < y) (fun x y => ¬ x < y) 15), (5, i_ild 0 1), (6, i_push 8 2), (8, i_icmp (fun x y => y < x) (fun x y => ¬ y < x) 15), (11, i_push 1 1), (12, i_goto 16), (15, i_push 0 1), (16, i_zret)]
def k_St_isStaticKey : zCd := [(100000, k_St_isStaticKey_0)]
def r_St_isStaticKey : zR := (y_St_isStaticKey, prog_1_method_21_code, 1, (some .boolean), k_St_isStaticKey)
def k_St_sessionAt_0 : List (Nat × zI) := [(0, i_ild 1 1), (1, i_if (fun x => x < 0) (fun x => ¬ x < 0) 21), (4, i_ild 1 1), (5, i_ald 0 1), (6, i_getf 5 3), (9, i_icmp (fun x y => y ≤ x) (fun x y => ¬ y ≤ x) 21), (12, i_ald 0 1), (13, i_getf 5 2), (16, i_ild 1 1), (17, i_aald), (18, i_goto 22), (21, i_null), (22, i_aret)]
def k_St_sessionAt : zCd := [(100000, k_St_sessionAt_0)]
def r_St_sessionAt : zR := (y_St_sessionAt, prog_1_method_22_code, 2, (some (.object "SealedTalks$Session")), k_St_sessionAt)
def k_St_makeChanged_0 : List (Nat × zI) := [(0, i_push 0 1), (1, i_ist 4 2), (3, i_ild 4 2), (5, i_ald 0 1), (6, i_getf 5 1), (9, i_ild 1 1), (10, i_callV 2 22 1), (13, i_icmp (fun x y => y ≤ x) (fun x y => ¬ y ≤ x) 49), (16, i_ald 0 1), (17, i_getf 5 1), (20, i_ild 4 2), (22, i_ild 2 1), (23, i_icmp (fun x y => ¬ x = y) (fun x y => x = y) 30), (26, i_ild 3 1), (27, i_goto 40), (30, i_ald 0 1), (31, i_getf 5 1), (34, i_ild 1 1), (35, i_ild 4 2), (37, i_callV 2 23 2), (40, i_callV 2 24 1), (43, i_inc 4 1), (46, i_goto 3), (49, i_ald 0 1)]
def k_St_makeChanged_1 : List (Nat × zI) := [(50, i_getf 5 1), (53, i_callV 2 25 0), (56, i_iret)]
def k_St_makeChanged : zCd := [(50, k_St_makeChanged_0), (100000, k_St_makeChanged_1)]
def r_St_makeChanged : zR := (y_St_makeChanged, prog_1_method_23_code, 5, (some .int), k_St_makeChanged)
def k_Mo_init_0 : List (Nat × zI) := [(0, i_ald 0 1), (1, i_oini), (4, i_ald 0 1), (5, i_push 1200 3), (8, i_newa 2), (10, i_putf 6 1 2), (13, i_ald 0 1), (14, i_push 1200 3), (17, i_newa 0), (19, i_putf 6 2 2), (22, i_ald 0 1), (23, i_push 1200 3), (26, i_newa 3), (28, i_putf 6 3 2), (31, i_ald 0 1), (32, i_push 1200 3), (35, i_newa 3), (37, i_putf 6 4 2), (40, i_ald 0 1), (41, i_push 1200 3), (44, i_newa 3), (46, i_putf 6 5 2), (49, i_ald 0 1), (50, i_push 1200 3)]
def k_Mo_init_1 : List (Nat × zI) := [(53, i_newa 1), (55, i_putf 6 6 2), (58, i_ald 0 1), (59, i_push 60 2), (61, i_newa 0), (63, i_putf 6 8 2), (66, i_ald 0 1), (67, i_push 180 3), (70, i_newa 0), (72, i_putf 6 9 2), (75, i_ald 0 1), (76, i_push 40 2), (78, i_newa 1), (80, i_putf 6 11 2), (83, i_ald 0 1), (84, i_push 12 2), (86, i_newa 0), (88, i_putf 6 13 2), (91, i_ald 0 1), (92, i_push 12 2), (94, i_newa 1), (96, i_putf 6 14 2), (99, i_ald 0 1), (100, i_push 12 2)]
def k_Mo_init_2 : List (Nat × zI) := [(102, i_newa 0), (104, i_putf 6 15 2), (107, i_ald 0 1), (108, i_push 12 2), (110, i_newa 0), (112, i_putf 6 16 2), (115, i_ald 0 1), (116, i_push 12 2), (118, i_newa 0), (120, i_putf 6 17 2), (123, i_ald 0 1), (124, i_push 12 2), (126, i_newa 0), (128, i_putf 6 18 2), (131, i_ald 0 1), (132, i_push 12 2), (134, i_newa 0), (136, i_putf 6 19 2), (139, i_ald 0 1), (140, i_push 12 2), (142, i_newa 0), (144, i_putf 6 20 2), (147, i_ald 0 1), (148, i_push 12 2)]
def k_Mo_init_3 : List (Nat × zI) := [(150, i_newa 0), (152, i_putf 6 21 2), (155, i_ald 0 1), (156, i_push 12 2), (158, i_newa 0), (160, i_putf 6 22 2), (163, i_ald 0 1), (164, i_push 12 2), (166, i_newa 0), (168, i_putf 6 23 2), (171, i_ald 0 1), (172, i_push 12 2), (174, i_newa 1), (176, i_putf 6 24 2), (179, i_ald 0 1), (180, i_push 12 2), (182, i_newa 0), (184, i_putf 6 25 2), (187, i_ald 0 1), (188, i_push 12 2), (190, i_newa 0), (192, i_putf 6 26 2), (195, i_ald 0 1), (196, i_push 12 2)]
def k_Mo_init_4 : List (Nat × zI) := [(198, i_newa 0), (200, i_putf 6 27 2), (203, i_ald 0 1), (204, i_push 12 2), (206, i_newa 0), (208, i_putf 6 28 2), (211, i_ald 0 1), (212, i_push 12 2), (214, i_newa 0), (216, i_putf 6 29 2), (219, i_ald 0 1), (220, i_push 12 2), (222, i_newa 0), (224, i_putf 6 30 2), (227, i_ald 0 1), (228, i_push 3 1), (229, i_newa 0), (231, i_putf 6 40 2), (234, i_vret)]
def k_Mo_init : zCd := [(53, k_Mo_init_0), (102, k_Mo_init_1), (150, k_Mo_init_2), (198, k_Mo_init_3), (100000, k_Mo_init_4)]
def r_Mo_init : zR := (y_Mo_init, prog_8_method_1_code, 1, none, k_Mo_init)
def k_Mo_within_0 : List (Nat × zI) := [(0, i_ild 0 1), (1, i_ild 1 1), (2, i_icmp (fun x y => x < y) (fun x y => ¬ x < y) 14), (5, i_ild 0 1), (6, i_ild 2 1), (7, i_icmp (fun x y => y < x) (fun x y => ¬ y < x) 14), (10, i_push 1 1), (11, i_goto 15), (14, i_push 0 1), (15, i_zret)]
def k_Mo_within : zCd := [(100000, k_Mo_within_0)]
def r_Mo_within : zR := (y_Mo_within, prog_8_method_2_code, 3, (some .boolean), k_Mo_within)
def k_Mo_term_0 : List (Nat × zI) := [(0, i_push 0 1), (1, i_ist 6 2), (3, i_ild 6 2), (5, i_ald 0 1), (6, i_getf 6 0), (9, i_icmp (fun x y => y ≤ x) (fun x y => ¬ y ≤ x) 78), (12, i_ald 0 1), (13, i_getf 6 1), (16, i_ild 6 2), (18, i_nald 2), (19, i_ild 1 1), (20, i_icmp (fun x y => ¬ x = y) (fun x y => x = y) 72), (23, i_ald 0 1), (24, i_getf 6 2), (27, i_ild 6 2), (29, i_nald 0), (30, i_ild 2 1), (31, i_icmp (fun x y => ¬ x = y) (fun x y => x = y) 72), (34, i_ald 0 1), (35, i_getf 6 3), (38, i_ild 6 2), (40, i_nald 3), (41, i_ild 3 1), (42, i_icmp (fun x y => ¬ x = y) (fun x y => x = y) 72)]
def k_Mo_term_1 : List (Nat × zI) := [(45, i_ald 0 1), (46, i_getf 6 4), (49, i_ild 6 2), (51, i_nald 3), (52, i_ild 4 2), (54, i_icmp (fun x y => ¬ x = y) (fun x y => x = y) 72), (57, i_ald 0 1), (58, i_getf 6 5), (61, i_ild 6 2), (63, i_nald 3), (64, i_ild 5 2), (66, i_icmp (fun x y => ¬ x = y) (fun x y => x = y) 72), (69, i_ild 6 2), (71, i_iret), (72, i_inc 6 1), (75, i_goto 3), (78, i_ald 0 1), (79, i_getf 6 1), (82, i_ald 0 1), (83, i_getf 6 0), (86, i_ild 1 1), (87, i_un (fun x => x.toInt8.toInt32)), (88, i_nast 2 (fun x => x.toInt8.toInt32)), (89, i_ald 0 1)]
def k_Mo_term_2 : List (Nat × zI) := [(90, i_getf 6 2), (93, i_ald 0 1), (94, i_getf 6 0), (97, i_ild 2 1), (98, i_nast 0 (fun x => x)), (99, i_ald 0 1), (100, i_getf 6 3), (103, i_ald 0 1), (104, i_getf 6 0), (107, i_ild 3 1), (108, i_un (fun x => x.toInt16.toInt32)), (109, i_nast 3 (fun x => x.toInt16.toInt32)), (110, i_ald 0 1), (111, i_getf 6 4), (114, i_ald 0 1), (115, i_getf 6 0), (118, i_ild 4 2), (120, i_un (fun x => x.toInt16.toInt32)), (121, i_nast 3 (fun x => x.toInt16.toInt32)), (122, i_ald 0 1), (123, i_getf 6 5), (126, i_ald 0 1), (127, i_getf 6 0), (130, i_ild 5 2)]
def k_Mo_term_3 : List (Nat × zI) := [(132, i_un (fun x => x.toInt16.toInt32)), (133, i_nast 3 (fun x => x.toInt16.toInt32)), (134, i_ald 0 1), (135, i_dup), (136, i_getf 6 0), (139, i_push 1 1), (140, i_bin (fun x y => x + y)), (141, i_putf 6 0 0), (144, i_ald 0 1), (145, i_getf 6 0), (148, i_push 1 1), (149, i_bin (fun x y => x - y)), (150, i_iret)]
def k_Mo_term : zCd := [(45, k_Mo_term_0), (90, k_Mo_term_1), (132, k_Mo_term_2), (100000, k_Mo_term_3)]
def r_Mo_term : zR := (y_Mo_term, prog_8_method_3_code, 7, (some .int), k_Mo_term)
def k_Mo_num_0 : List (Nat × zI) := [(0, i_ald 0 1), (1, i_push 1 1), (2, i_ild 1 1), (3, i_push 0 1), (4, i_push 0 1), (5, i_push 0 1), (6, i_callV 6 81 5), (9, i_iret)]
def k_Mo_num : zCd := [(100000, k_Mo_num_0)]
def r_Mo_num : zR := (y_Mo_num, prog_8_method_4_code, 2, (some .int), k_Mo_num)
def k_Mo_pub_0 : List (Nat × zI) := [(0, i_ald 0 1), (1, i_push 2 1), (2, i_ild 1 1), (3, i_push 0 1), (4, i_push 0 1), (5, i_push 0 1), (6, i_callV 6 81 5), (9, i_iret)]
def k_Mo_pub : zCd := [(100000, k_Mo_pub_0)]
def r_Mo_pub : zR := (y_Mo_pub, prog_8_method_5_code, 2, (some .int), k_Mo_pub)
def k_Mo_two_0 : List (Nat × zI) := [(0, i_ald 0 1), (1, i_ild 1 1), (2, i_push 0 1), (3, i_ild 2 1), (4, i_ild 3 1), (5, i_push 0 1), (6, i_callV 6 81 5), (9, i_iret)]
def k_Mo_two : zCd := [(100000, k_Mo_two_0)]
def r_Mo_two : zR := (y_Mo_two, prog_8_method_6_code, 4, (some .int), k_Mo_two)
def k_Mo_workOut_0 : List (Nat × zI) := [(0, i_push 0 1), (1, i_ist 1 1), (2, i_ild 1 1), (3, i_ald 0 1), (4, i_getf 6 0), (7, i_icmp (fun x y => y ≤ x) (fun x y => ¬ y ≤ x) 174), (10, i_ald 0 1), (11, i_getf 6 3), (14, i_ild 1 1), (15, i_nald 3), (16, i_ist 2 1), (17, i_ald 0 1), (18, i_getf 6 4), (21, i_ild 1 1), (22, i_nald 3), (23, i_ist 3 1), (24, i_ald 0 1), (25, i_getf 6 1), (28, i_ild 1 1), (29, i_nald 2), (30, i_tsw 3 [64, 114, 114, 114, 146] 161), (64, i_ald 0 1), (65, i_getf 6 6), (68, i_ild 1 1)]
def k_Mo_workOut_1 : List (Nat × zI) := [(69, i_ald 0 1), (70, i_getf 6 11), (73, i_ald 0 1), (74, i_getf 6 2), (77, i_ild 1 1), (78, i_nald 0), (79, i_push 256 3), (82, i_div (fun x y => x / y)), (83, i_nald 1), (84, i_if (fun x => ¬ x = 0) (fun x => x = 0) 105), (87, i_ald 0 1), (88, i_getf 6 11), (91, i_ald 0 1), (92, i_getf 6 2), (95, i_ild 1 1), (96, i_nald 0), (97, i_push 256 3), (100, i_div (fun x y => x - x / y * y)), (101, i_nald 1), (102, i_if (fun x => x = 0) (fun x => ¬ x = 0) 109), (105, i_push 1 1), (106, i_goto 110), (109, i_push 0 1), (110, i_nast 1 (fun x => x &&& 1))]
def k_Mo_workOut_2 : List (Nat × zI) := [(111, i_goto 168), (114, i_ald 0 1), (115, i_getf 6 6), (118, i_ild 1 1), (119, i_ald 0 1), (120, i_getf 6 6), (123, i_ild 2 1), (124, i_nald 1), (125, i_if (fun x => x = 0) (fun x => ¬ x = 0) 141), (128, i_ald 0 1), (129, i_getf 6 6), (132, i_ild 3 1), (133, i_nald 1), (134, i_if (fun x => x = 0) (fun x => ¬ x = 0) 141), (137, i_push 1 1), (138, i_goto 142), (141, i_push 0 1), (142, i_nast 1 (fun x => x &&& 1)), (143, i_goto 168), (146, i_ald 0 1), (147, i_getf 6 6), (150, i_ild 1 1), (151, i_ald 0 1), (152, i_getf 6 6)]
def k_Mo_workOut_3 : List (Nat × zI) := [(155, i_ild 2 1), (156, i_nald 1), (157, i_nast 1 (fun x => x &&& 1)), (158, i_goto 168), (161, i_ald 0 1), (162, i_getf 6 6), (165, i_ild 1 1), (166, i_push 1 1), (167, i_nast 1 (fun x => x &&& 1)), (168, i_inc 1 1), (171, i_goto 2), (174, i_vret)]
def k_Mo_workOut : zCd := [(69, k_Mo_workOut_0), (111, k_Mo_workOut_1), (155, k_Mo_workOut_2), (100000, k_Mo_workOut_3)]
def r_Mo_workOut : zR := (y_Mo_workOut, prog_8_method_7_code, 4, none, k_Mo_workOut)
def k_Mo_token_0 : List (Nat × zI) := [(0, i_ild 0 1), (1, i_if (fun x => ¬ x = 0) (fun x => x = 0) 28), (4, i_ild 1 1), (5, i_if (fun x => ¬ x = 0) (fun x => x = 0) 12), (8, i_push 1 1), (9, i_goto 41), (12, i_ild 1 1), (13, i_push 1 1), (14, i_icmp (fun x y => ¬ x = y) (fun x y => x = y) 23), (17, i_push 1324 3), (20, i_goto 41), (23, i_push 25 2), (25, i_goto 41), (28, i_ild 1 1), (29, i_if (fun x => ¬ x = 0) (fun x => x = 0) 38), (32, i_push 1426 3), (35, i_goto 41), (38, i_push 135 3), (41, i_ist 3 1), (42, i_ild 3 1), (43, i_push 999 3), (46, i_icmp (fun x y => x ≤ y) (fun x y => ¬ x ≤ y) 53), (49, i_push 4 1), (50, i_goto 74)]
def k_Mo_token_1 : List (Nat × zI) := [(53, i_ild 3 1), (54, i_push 99 2), (56, i_icmp (fun x y => x ≤ y) (fun x y => ¬ x ≤ y) 63), (59, i_push 3 1), (60, i_goto 74), (63, i_ild 3 1), (64, i_push 9 2), (66, i_icmp (fun x y => x ≤ y) (fun x y => ¬ x ≤ y) 73), (69, i_push 2 1), (70, i_goto 74), (73, i_push 1 1), (74, i_ist 4 2), (76, i_ild 3 1), (77, i_ist 5 2), (79, i_ild 4 2), (81, i_push 1 1), (82, i_bin (fun x y => x - y)), (83, i_ist 6 2), (85, i_ild 6 2), (87, i_ild 2 1), (88, i_icmp (fun x y => x ≤ y) (fun x y => ¬ x ≤ y) 104), (91, i_ild 5 2), (93, i_push 10 2), (95, i_div (fun x y => x / y))]
def k_Mo_token_2 : List (Nat × zI) := [(96, i_ist 5 2), (98, i_inc 6 (-1)), (101, i_goto 85), (104, i_ild 2 1), (105, i_ild 4 2), (107, i_icmp (fun x y => y ≤ x) (fun x y => ¬ y ≤ x) 118), (110, i_ild 5 2), (112, i_push 10 2), (114, i_div (fun x y => x - x / y * y)), (115, i_goto 119), (118, i_push 0 1), (119, i_iret)]
def k_Mo_token : zCd := [(53, k_Mo_token_0), (96, k_Mo_token_1), (100000, k_Mo_token_2)]
def r_Mo_token : zR := (y_Mo_token, prog_8_method_8_code, 7, (some .int), k_Mo_token)
def k_Mo_last_0 : List (Nat × zI) := [(0, i_ild 0 1), (1, i_if (fun x => ¬ x = 0) (fun x => x = 0) 8), (4, i_push 3 1), (5, i_goto 9), (8, i_push 2 1), (9, i_iret)]
def k_Mo_last : zCd := [(100000, k_Mo_last_0)]
def r_Mo_last : zR := (y_Mo_last, prog_8_method_9_code, 1, (some .int), k_Mo_last)
def k_Mo_load_0 : List (Nat × zI) := [(0, i_ald 0 1), (1, i_ild 1 1), (2, i_putf 6 31 0), (5, i_ald 0 1), (6, i_ald 0 1), (7, i_getf 6 19), (10, i_ild 1 1), (11, i_nald 0), (12, i_putf 6 32 0), (15, i_ald 0 1), (16, i_ald 0 1), (17, i_getf 6 20), (20, i_ild 1 1), (21, i_nald 0), (22, i_putf 6 33 0), (25, i_ald 0 1), (26, i_ald 0 1), (27, i_getf 6 21), (30, i_ild 1 1), (31, i_nald 0), (32, i_putf 6 34 0), (35, i_ald 0 1), (36, i_ald 0 1), (37, i_getf 6 22)]
def k_Mo_load_1 : List (Nat × zI) := [(40, i_ild 1 1), (41, i_nald 0), (42, i_putf 6 35 0), (45, i_ald 0 1), (46, i_ald 0 1), (47, i_getf 6 16), (50, i_ild 1 1), (51, i_nald 0), (52, i_putf 6 36 0), (55, i_ald 0 1), (56, i_ald 0 1), (57, i_getf 6 17), (60, i_ild 1 1), (61, i_nald 0), (62, i_putf 6 37 0), (65, i_ald 0 1), (66, i_ald 0 1), (67, i_getf 6 18), (70, i_ild 1 1), (71, i_nald 0), (72, i_putf 6 38 0), (75, i_ald 0 1), (76, i_push 0 1), (77, i_putf 6 42 1)]
def k_Mo_load_2 : List (Nat × zI) := [(80, i_ald 0 1), (81, i_push 0 1), (82, i_putf 6 41 0), (85, i_vret)]
def k_Mo_load : zCd := [(40, k_Mo_load_0), (80, k_Mo_load_1), (100000, k_Mo_load_2)]
def r_Mo_load : zR := (y_Mo_load, prog_8_method_10_code, 2, none, k_Mo_load)
def k_Mo_keep_0 : List (Nat × zI) := [(0, i_ald 0 1), (1, i_getf 6 31), (4, i_ist 1 1), (5, i_ald 0 1), (6, i_getf 6 19), (9, i_ild 1 1), (10, i_ald 0 1), (11, i_getf 6 32), (14, i_nast 0 (fun x => x)), (15, i_ald 0 1), (16, i_getf 6 20), (19, i_ild 1 1), (20, i_ald 0 1), (21, i_getf 6 33), (24, i_nast 0 (fun x => x)), (25, i_ald 0 1), (26, i_getf 6 21), (29, i_ild 1 1), (30, i_ald 0 1), (31, i_getf 6 34), (34, i_nast 0 (fun x => x)), (35, i_ald 0 1), (36, i_getf 6 22), (39, i_ild 1 1)]
def k_Mo_keep_1 : List (Nat × zI) := [(40, i_ald 0 1), (41, i_getf 6 35), (44, i_nast 0 (fun x => x)), (45, i_ald 0 1), (46, i_getf 6 16), (49, i_ild 1 1), (50, i_ald 0 1), (51, i_getf 6 36), (54, i_nast 0 (fun x => x)), (55, i_ald 0 1), (56, i_getf 6 17), (59, i_ild 1 1), (60, i_ald 0 1), (61, i_getf 6 37), (64, i_nast 0 (fun x => x)), (65, i_ald 0 1), (66, i_getf 6 18), (69, i_ild 1 1), (70, i_ald 0 1), (71, i_getf 6 38), (74, i_nast 0 (fun x => x)), (75, i_ald 0 1), (76, i_getf 6 23), (79, i_ild 1 1)]
def k_Mo_keep_2 : List (Nat × zI) := [(80, i_ald 0 1), (81, i_getf 6 23), (84, i_ild 1 1), (85, i_nald 0), (86, i_push 1 1), (87, i_bin (fun x y => x + y)), (88, i_nast 0 (fun x => x)), (89, i_ald 0 1), (90, i_getf 6 25), (93, i_ild 1 1), (94, i_ald 0 1), (95, i_getf 6 23), (98, i_ild 1 1), (99, i_nald 0), (100, i_ald 0 1), (101, i_getf 6 13), (104, i_ild 1 1), (105, i_nald 0), (106, i_callS 87 1), (109, i_icmp (fun x y => ¬ x = y) (fun x y => x = y) 116), (112, i_push 0 1), (113, i_goto 122), (116, i_ald 0 1), (117, i_getf 6 25)]
def k_Mo_keep_3 : List (Nat × zI) := [(120, i_ild 1 1), (121, i_nald 0), (122, i_nast 0 (fun x => x)), (123, i_vret)]
def k_Mo_keep : zCd := [(40, k_Mo_keep_0), (80, k_Mo_keep_1), (120, k_Mo_keep_2), (100000, k_Mo_keep_3)]
def r_Mo_keep : zR := (y_Mo_keep, prog_8_method_11_code, 2, none, k_Mo_keep)
def k_Mo_mixHash_0 : List (Nat × zI) := [(0, i_ald 0 1), (1, i_ald 0 1), (2, i_push 4 1), (3, i_ald 0 1), (4, i_getf 6 32), (7, i_ild 1 1), (8, i_callV 6 84 3), (11, i_putf 6 32 0), (14, i_vret)]
def k_Mo_mixHash : zCd := [(100000, k_Mo_mixHash_0)]
def r_Mo_mixHash : zR := (y_Mo_mixHash, prog_8_method_12_code, 2, none, k_Mo_mixHash)
def k_Mo_agree_0 : List (Nat × zI) := [(0, i_ald 0 1), (1, i_getf 6 14), (4, i_ald 0 1), (5, i_getf 6 31), (8, i_nald 1), (9, i_ist 2 1), (10, i_ild 2 1), (11, i_if (fun x => x = 0) (fun x => ¬ x = 0) 21), (14, i_ald 0 1), (15, i_getf 6 36), (18, i_goto 25), (21, i_ald 0 1), (22, i_getf 6 37), (25, i_ist 3 1), (26, i_ild 2 1), (27, i_if (fun x => x = 0) (fun x => ¬ x = 0) 42), (30, i_ald 0 1), (31, i_getf 6 15), (34, i_ald 0 1), (35, i_getf 6 31), (38, i_nald 0), (39, i_goto 46), (42, i_ald 0 1), (43, i_getf 6 38)]
def k_Mo_agree_1 : List (Nat × zI) := [(46, i_ist 4 2), (48, i_ild 2 1), (49, i_if (fun x => x = 0) (fun x => ¬ x = 0) 59), (52, i_ald 0 1), (53, i_getf 6 37), (56, i_goto 63), (59, i_ald 0 1), (60, i_getf 6 36), (63, i_ist 5 2), (65, i_ild 2 1), (66, i_if (fun x => x = 0) (fun x => ¬ x = 0) 76), (69, i_ald 0 1), (70, i_getf 6 38), (73, i_goto 85), (76, i_ald 0 1), (77, i_getf 6 15), (80, i_ald 0 1), (81, i_getf 6 31), (84, i_nald 0), (85, i_ist 6 2), (87, i_ild 1 1), (88, i_push 3 1), (89, i_icmp (fun x y => x = y) (fun x y => ¬ x = y) 97), (92, i_ild 1 1)]
def k_Mo_agree_2 : List (Nat × zI) := [(93, i_push 4 1), (94, i_icmp (fun x y => ¬ x = y) (fun x y => x = y) 101), (97, i_ild 3 1), (98, i_goto 103), (101, i_ild 4 2), (103, i_ist 7 2), (105, i_ild 1 1), (106, i_push 3 1), (107, i_icmp (fun x y => x = y) (fun x y => ¬ x = y) 115), (110, i_ild 1 1), (111, i_push 5 1), (112, i_icmp (fun x y => ¬ x = y) (fun x y => x = y) 120), (115, i_ild 5 2), (117, i_goto 122), (120, i_ild 6 2), (122, i_ist 8 2), (124, i_ald 0 1), (125, i_push 3 1), (126, i_ild 7 2), (128, i_ild 8 2), (130, i_icmp (fun x y => y ≤ x) (fun x y => ¬ y ≤ x) 145), (133, i_push 256 3), (136, i_ild 7 2), (138, i_bin (fun x y => x * y))]
def k_Mo_agree_3 : List (Nat × zI) := [(139, i_ild 8 2), (141, i_bin (fun x y => x + y)), (142, i_goto 154), (145, i_push 256 3), (148, i_ild 8 2), (150, i_bin (fun x y => x * y)), (151, i_ild 7 2), (153, i_bin (fun x y => x + y)), (154, i_push 0 1), (155, i_push 0 1), (156, i_push 0 1), (157, i_callV 6 81 5), (160, i_ist 9 2), (162, i_ald 0 1), (163, i_getf 6 33), (166, i_ist 10 2), (168, i_ald 0 1), (169, i_ald 0 1), (170, i_push 6 2), (172, i_ild 10 2), (174, i_ild 9 2), (176, i_callV 6 84 3), (179, i_putf 6 34 0), (182, i_ald 0 1)]
def k_Mo_agree_4 : List (Nat × zI) := [(183, i_ald 0 1), (184, i_push 5 1), (185, i_ild 10 2), (187, i_ild 9 2), (189, i_callV 6 84 3), (192, i_putf 6 33 0), (195, i_ald 0 1), (196, i_push 0 1), (197, i_putf 6 35 0), (200, i_vret)]
def k_Mo_agree : zCd := [(46, k_Mo_agree_0), (93, k_Mo_agree_1), (139, k_Mo_agree_2), (183, k_Mo_agree_3), (100000, k_Mo_agree_4)]
def r_Mo_agree : zR := (y_Mo_agree, prog_8_method_13_code, 11, none, k_Mo_agree)
def k_Mo_addPart_0 : List (Nat × zI) := [(0, i_ald 0 1), (1, i_getf 6 40), (4, i_ald 0 1), (5, i_getf 6 39), (8, i_ild 1 1), (9, i_nast 0 (fun x => x)), (10, i_ald 0 1), (11, i_dup), (12, i_getf 6 39), (15, i_push 1 1), (16, i_bin (fun x y => x + y)), (17, i_putf 6 39 0), (20, i_ald 0 1), (21, i_ild 1 1), (22, i_callV 6 90 1), (25, i_vret)]
def k_Mo_addPart : zCd := [(100000, k_Mo_addPart_0)]
def r_Mo_addPart : zR := (y_Mo_addPart, prog_8_method_14_code, 2, none, k_Mo_addPart)
def k_Mo_put_0 : List (Nat × zI) := [(0, i_ald 0 1), (1, i_getf 6 34), (4, i_if (fun x => 0 ≤ x) (fun x => ¬ 0 ≤ x) 15), (7, i_ald 0 1), (8, i_ild 1 1), (9, i_callV 6 92 1), (12, i_goto 50), (15, i_ald 0 1), (16, i_push 8 2), (18, i_ald 0 1), (19, i_getf 6 35), (22, i_ald 0 1), (23, i_getf 6 34), (26, i_ald 0 1), (27, i_getf 6 32), (30, i_ild 1 1), (31, i_callV 6 81 5), (34, i_ist 2 1), (35, i_ald 0 1), (36, i_dup), (37, i_getf 6 35), (40, i_push 1 1), (41, i_bin (fun x y => x + y)), (42, i_putf 6 35 0)]
def k_Mo_put_1 : List (Nat × zI) := [(45, i_ald 0 1), (46, i_ild 2 1), (47, i_callV 6 92 1), (50, i_vret)]
def k_Mo_put : zCd := [(45, k_Mo_put_0), (100000, k_Mo_put_1)]
def r_Mo_put : zR := (y_Mo_put, prog_8_method_15_code, 3, none, k_Mo_put)
def k_Mo_nextPart_0 : List (Nat × zI) := [(0, i_ald 0 1), (1, i_dup), (2, i_getf 6 41), (5, i_push 1 1), (6, i_bin (fun x y => x + y)), (7, i_putf 6 41 0), (10, i_ald 0 1), (11, i_getf 6 41), (14, i_ald 0 1), (15, i_getf 6 39), (18, i_icmp (fun x y => y < x) (fun x y => ¬ y < x) 35), (21, i_ald 0 1), (22, i_getf 6 40), (25, i_ald 0 1), (26, i_getf 6 41), (29, i_push 1 1), (30, i_bin (fun x y => x - y)), (31, i_nald 0), (32, i_goto 36), (35, i_push (-1) 1), (36, i_iret)]
def k_Mo_nextPart : zCd := [(100000, k_Mo_nextPart_0)]
def r_Mo_nextPart : zR := (y_Mo_nextPart, prog_8_method_16_code, 1, (some .int), k_Mo_nextPart)
def k_Mo_take_0 : List (Nat × zI) := [(0, i_ald 0 1), (1, i_callV 6 94 0), (4, i_ist 2 1), (5, i_ild 2 1), (6, i_if (fun x => x < 0) (fun x => ¬ x < 0) 66), (9, i_ald 0 1), (10, i_getf 6 34), (13, i_if (fun x => x < 0) (fun x => ¬ x < 0) 73), (16, i_ald 0 1), (17, i_getf 6 1), (20, i_ild 2 1), (21, i_nald 2), (22, i_push 8 2), (24, i_icmp (fun x y => ¬ x = y) (fun x y => x = y) 66), (27, i_ald 0 1), (28, i_getf 6 3), (31, i_ild 2 1), (32, i_nald 3), (33, i_ald 0 1), (34, i_getf 6 34), (37, i_icmp (fun x y => ¬ x = y) (fun x y => x = y) 66), (40, i_ald 0 1), (41, i_getf 6 2), (44, i_ild 2 1)]
def k_Mo_take_1 : List (Nat × zI) := [(45, i_nald 0), (46, i_ald 0 1), (47, i_getf 6 35), (50, i_icmp (fun x y => ¬ x = y) (fun x y => x = y) 66), (53, i_ald 0 1), (54, i_getf 6 4), (57, i_ild 2 1), (58, i_nald 3), (59, i_ald 0 1), (60, i_getf 6 32), (63, i_icmp (fun x y => x = y) (fun x y => ¬ x = y) 73), (66, i_ald 0 1), (67, i_push 1 1), (68, i_putf 6 42 1), (71, i_push (-1) 1), (72, i_iret), (73, i_ald 0 1), (74, i_getf 6 34), (77, i_if (fun x => 0 ≤ x) (fun x => ¬ 0 ≤ x) 84), (80, i_ild 2 1), (81, i_goto 90), (84, i_ald 0 1), (85, i_getf 6 5), (88, i_ild 2 1)]
def k_Mo_take_2 : List (Nat × zI) := [(89, i_nald 3), (90, i_ist 3 1), (91, i_ald 0 1), (92, i_ald 0 1), (93, i_getf 6 34), (96, i_if (fun x => 0 ≤ x) (fun x => ¬ 0 ≤ x) 106), (99, i_ald 0 1), (100, i_getf 6 35), (103, i_goto 112), (106, i_ald 0 1), (107, i_getf 6 35), (110, i_push 1 1), (111, i_bin (fun x y => x + y)), (112, i_putf 6 35 0), (115, i_ald 0 1), (116, i_ild 2 1), (117, i_callV 6 90 1), (120, i_ald 0 1), (121, i_ald 0 1), (122, i_getf 6 42), (125, i_if (fun x => ¬ x = 0) (fun x => x = 0) 138), (128, i_ald 0 1), (129, i_getf 6 1), (132, i_ild 3 1)]
def k_Mo_take_3 : List (Nat × zI) := [(133, i_nald 2), (134, i_ild 1 1), (135, i_icmp (fun x y => x = y) (fun x y => ¬ x = y) 142), (138, i_push 1 1), (139, i_goto 143), (142, i_push 0 1), (143, i_putf 6 42 1), (146, i_ild 3 1), (147, i_iret)]
def k_Mo_take : zCd := [(45, k_Mo_take_0), (89, k_Mo_take_1), (133, k_Mo_take_2), (100000, k_Mo_take_3)]
def r_Mo_take : zR := (y_Mo_take, prog_8_method_17_code, 4, (some .int), k_Mo_take)
def k_Mo_start_0 : List (Nat × zI) := [(0, i_ild 1 1), (1, i_push 0 1), (2, i_push 1 1), (3, i_callS 80 3), (6, i_if (fun x => x = 0) (fun x => ¬ x = 0) 39), (9, i_ild 3 1), (10, i_push 1 1), (11, i_push 8 2), (13, i_callS 80 3), (16, i_if (fun x => x = 0) (fun x => ¬ x = 0) 39), (19, i_ild 2 1), (20, i_if (fun x => x = 0) (fun x => ¬ x = 0) 41), (23, i_ild 1 1), (24, i_push 1 1), (25, i_icmp (fun x y => ¬ x = y) (fun x y => x = y) 41), (28, i_ild 4 2), (30, i_push 1 1), (31, i_push 8 2), (33, i_callS 80 3), (36, i_if (fun x => ¬ x = 0) (fun x => x = 0) 41), (39, i_push (-1) 1), (40, i_iret), (41, i_ald 0 1), (42, i_getf 6 12)]
def k_Mo_start_1 : List (Nat × zI) := [(45, i_push 12 2), (47, i_icmp (fun x y => ¬ x = y) (fun x y => x = y) 53), (50, i_push (-4) 2), (52, i_iret), (53, i_ald 0 1), (54, i_getf 6 12), (57, i_ist 6 2), (59, i_ald 0 1), (60, i_dup), (61, i_getf 6 12), (64, i_push 1 1), (65, i_bin (fun x y => x + y)), (66, i_putf 6 12 0), (69, i_ald 0 1), (70, i_getf 6 13), (73, i_ild 6 2), (75, i_ild 1 1), (76, i_nast 0 (fun x => x)), (77, i_ald 0 1), (78, i_getf 6 14), (81, i_ild 6 2), (83, i_ild 2 1), (84, i_nast 1 (fun x => x &&& 1)), (85, i_ald 0 1)]
def k_Mo_start_2 : List (Nat × zI) := [(86, i_getf 6 15), (89, i_ild 6 2), (91, i_ild 3 1), (92, i_nast 0 (fun x => x)), (93, i_ald 0 1), (94, i_getf 6 18), (97, i_ild 6 2), (99, i_ild 2 1), (100, i_if (fun x => x = 0) (fun x => ¬ x = 0) 113), (103, i_ild 1 1), (104, i_push 1 1), (105, i_icmp (fun x y => ¬ x = y) (fun x y => x = y) 113), (108, i_ild 4 2), (110, i_goto 114), (113, i_push 0 1), (114, i_nast 0 (fun x => x)), (115, i_ald 0 1), (116, i_getf 6 20), (119, i_ild 6 2), (121, i_ald 0 1), (122, i_ild 1 1), (123, i_callV 6 82 1), (126, i_nast 0 (fun x => x)), (127, i_ald 0 1)]
def k_Mo_start_3 : List (Nat × zI) := [(128, i_ild 5 2), (130, i_callV 6 82 1), (133, i_ist 7 2), (135, i_ald 0 1), (136, i_getf 6 19), (139, i_ild 6 2), (141, i_ald 0 1), (142, i_push 4 1), (143, i_ald 0 1), (144, i_getf 6 20), (147, i_ild 6 2), (149, i_nald 0), (150, i_ild 7 2), (152, i_callV 6 84 3), (155, i_nast 0 (fun x => x)), (156, i_ild 1 1), (157, i_push 1 1), (158, i_icmp (fun x y => ¬ x = y) (fun x y => x = y) 198), (161, i_ald 0 1), (162, i_ild 2 1), (163, i_if (fun x => x = 0) (fun x => ¬ x = 0) 171), (166, i_ild 4 2), (168, i_goto 172), (171, i_ild 3 1)]
def k_Mo_start_4 : List (Nat × zI) := [(172, i_callV 6 83 1), (175, i_ist 8 2), (177, i_ald 0 1), (178, i_getf 6 19), (181, i_ild 6 2), (183, i_ald 0 1), (184, i_push 4 1), (185, i_ald 0 1), (186, i_getf 6 19), (189, i_ild 6 2), (191, i_nald 0), (192, i_ild 8 2), (194, i_callV 6 84 3), (197, i_nast 0 (fun x => x)), (198, i_ald 0 1), (199, i_getf 6 21), (202, i_ild 6 2), (204, i_push (-1) 1), (205, i_nast 0 (fun x => x)), (206, i_ald 0 1), (207, i_getf 6 29), (210, i_ild 6 2), (212, i_push (-1) 1), (213, i_nast 0 (fun x => x))]
def k_Mo_start_5 : List (Nat × zI) := [(214, i_ild 6 2), (216, i_iret)]
def k_Mo_start : zCd := [(45, k_Mo_start_0), (86, k_Mo_start_1), (128, k_Mo_start_2), (172, k_Mo_start_3), (214, k_Mo_start_4), (100000, k_Mo_start_5)]
def r_Mo_start : zR := (y_Mo_start, prog_8_method_18_code, 9, (some .int), k_Mo_start)
def k_Mo_isSession_0 : List (Nat × zI) := [(0, i_ild 1 1), (1, i_push 0 1), (2, i_ald 0 1), (3, i_getf 6 12), (6, i_push 1 1), (7, i_bin (fun x y => x - y)), (8, i_callS 80 3), (11, i_zret)]
def k_Mo_isSession : zCd := [(100000, k_Mo_isSession_0)]
def r_Mo_isSession : zR := (y_Mo_isSession, prog_8_method_19_code, 2, (some .boolean), k_Mo_isSession)
def k_Mo_isDone_0 : List (Nat × zI) := [(0, i_ald 0 1), (1, i_getf 6 23), (4, i_ild 1 1), (5, i_nald 0), (6, i_ald 0 1), (7, i_getf 6 13), (10, i_ild 1 1), (11, i_nald 0), (12, i_callS 87 1), (15, i_icmp (fun x y => ¬ x = y) (fun x y => x = y) 22), (18, i_push 1 1), (19, i_goto 23), (22, i_push 0 1), (23, i_zret)]
def k_Mo_isDone : zCd := [(100000, k_Mo_isDone_0)]
def r_Mo_isDone : zR := (y_Mo_isDone, prog_8_method_20_code, 2, (some .boolean), k_Mo_isDone)
def k_Mo_writes_0 : List (Nat × zI) := [(0, i_ald 0 1), (1, i_getf 6 23), (4, i_ild 1 1), (5, i_nald 0), (6, i_push 2 1), (7, i_div (fun x y => x - x / y * y)), (8, i_if (fun x => ¬ x = 0) (fun x => x = 0) 15), (11, i_push 1 1), (12, i_goto 16), (15, i_push 0 1), (16, i_ald 0 1), (17, i_getf 6 14), (20, i_ild 1 1), (21, i_nald 1), (22, i_icmp (fun x y => ¬ x = y) (fun x y => x = y) 29), (25, i_push 1 1), (26, i_goto 30), (29, i_push 0 1), (30, i_zret)]
def k_Mo_writes : zCd := [(100000, k_Mo_writes_0)]
def r_Mo_writes : zR := (y_Mo_writes, prog_8_method_21_code, 2, (some .boolean), k_Mo_writes)
def k_Mo_newMessage_0 : List (Nat × zI) := [(0, i_ald 0 1), (1, i_getf 6 8), (4, i_ald 0 1), (5, i_getf 6 7), (8, i_ild 1 1), (9, i_nast 0 (fun x => x)), (10, i_push 0 1), (11, i_ist 2 1), (12, i_ild 2 1), (13, i_ild 1 1), (14, i_icmp (fun x y => y ≤ x) (fun x y => ¬ y ≤ x) 42), (17, i_ald 0 1), (18, i_getf 6 9), (21, i_push 3 1), (22, i_ald 0 1), (23, i_getf 6 7), (26, i_bin (fun x y => x * y)), (27, i_ild 2 1), (28, i_bin (fun x y => x + y)), (29, i_ald 0 1), (30, i_getf 6 40), (33, i_ild 2 1), (34, i_nald 0), (35, i_nast 0 (fun x => x))]
def k_Mo_newMessage_1 : List (Nat × zI) := [(36, i_inc 2 1), (39, i_goto 12), (42, i_ald 0 1), (43, i_dup), (44, i_getf 6 7), (47, i_push 1 1), (48, i_bin (fun x y => x + y)), (49, i_putf 6 7 0), (52, i_ald 0 1), (53, i_getf 6 7), (56, i_push 1 1), (57, i_bin (fun x y => x - y)), (58, i_iret)]
def k_Mo_newMessage : zCd := [(36, k_Mo_newMessage_0), (100000, k_Mo_newMessage_1)]
def r_Mo_newMessage : zR := (y_Mo_newMessage, prog_8_method_22_code, 3, (some .int), k_Mo_newMessage)
def k_Mo_write_0 : List (Nat × zI) := [(0, i_ald 0 1), (1, i_ild 1 1), (2, i_callV 6 97 1), (5, i_if (fun x => ¬ x = 0) (fun x => x = 0) 10), (8, i_push (-1) 1), (9, i_iret), (10, i_ald 0 1), (11, i_getf 6 24), (14, i_ild 1 1), (15, i_nald 1), (16, i_if (fun x => x = 0) (fun x => ¬ x = 0) 22), (19, i_push (-2) 2), (21, i_iret), (22, i_ald 0 1), (23, i_ild 1 1), (24, i_callV 6 98 1), (27, i_if (fun x => ¬ x = 0) (fun x => x = 0) 38), (30, i_ald 0 1), (31, i_ild 1 1), (32, i_callV 6 99 1), (35, i_if (fun x => ¬ x = 0) (fun x => x = 0) 41), (38, i_push (-3) 2), (40, i_iret), (41, i_ald 0 1)]
def k_Mo_write_1 : List (Nat × zI) := [(42, i_getf 6 7), (45, i_push 60 2), (47, i_icmp (fun x y => ¬ x = y) (fun x y => x = y) 53), (50, i_push (-4) 2), (52, i_iret), (53, i_ald 0 1), (54, i_ild 1 1), (55, i_callV 6 88 1), (58, i_ald 0 1), (59, i_push 0 1), (60, i_putf 6 39 0), (63, i_push 0 1), (64, i_ist 3 1), (65, i_ild 3 1), (66, i_push 4 1), (67, i_icmp (fun x y => y ≤ x) (fun x y => ¬ y ≤ x) 179), (70, i_ald 0 1), (71, i_getf 6 13), (74, i_ild 1 1), (75, i_nald 0), (76, i_ald 0 1), (77, i_getf 6 23), (80, i_ild 1 1), (81, i_nald 0)]
def k_Mo_write_2 : List (Nat × zI) := [(82, i_ild 3 1), (83, i_callS 86 3), (86, i_ist 4 2), (88, i_ild 4 2), (90, i_push 1 1), (91, i_icmp (fun x y => ¬ x = y) (fun x y => x = y) 134), (94, i_ald 0 1), (95, i_dup), (96, i_getf 6 10), (99, i_push 1 1), (100, i_bin (fun x y => x + y)), (101, i_putf 6 10 0), (104, i_ald 0 1), (105, i_push 8 2), (107, i_ald 0 1), (108, i_getf 6 10), (111, i_bin (fun x y => x + y)), (112, i_putf 6 36 0), (115, i_ald 0 1), (116, i_ald 0 1), (117, i_getf 6 36), (120, i_callV 6 83 1), (123, i_ist 5 2), (125, i_ald 0 1)]
def k_Mo_write_3 : List (Nat × zI) := [(126, i_ild 5 2), (128, i_callV 6 92 1), (131, i_goto 173), (134, i_ild 4 2), (136, i_push 2 1), (137, i_icmp (fun x y => ¬ x = y) (fun x y => x = y) 161), (140, i_ald 0 1), (141, i_ald 0 1), (142, i_getf 6 15), (145, i_ild 1 1), (146, i_nald 0), (147, i_callV 6 83 1), (150, i_ist 5 2), (152, i_ald 0 1), (153, i_ild 5 2), (155, i_callV 6 93 1), (158, i_goto 173), (161, i_ild 4 2), (163, i_push 2 1), (164, i_icmp (fun x y => x ≤ y) (fun x y => ¬ x ≤ y) 173), (167, i_ald 0 1), (168, i_ild 4 2), (170, i_callV 6 91 1), (173, i_inc 3 1)]
def k_Mo_write_4 : List (Nat × zI) := [(176, i_goto 65), (179, i_ald 0 1), (180, i_ild 2 1), (181, i_callV 6 82 1), (184, i_ist 3 1), (185, i_ald 0 1), (186, i_ild 3 1), (187, i_callV 6 93 1), (190, i_ald 0 1), (191, i_callV 6 89 0), (194, i_ald 0 1), (195, i_ald 0 1), (196, i_getf 6 39), (199, i_callV 6 100 1), (202, i_iret)]
def k_Mo_write : zCd := [(42, k_Mo_write_0), (82, k_Mo_write_1), (126, k_Mo_write_2), (176, k_Mo_write_3), (100000, k_Mo_write_4)]
def r_Mo_write : zR := (y_Mo_write, prog_8_method_23_code, 6, (some .int), k_Mo_write)
def k_Mo_fetch_0 : List (Nat × zI) := [(0, i_ald 0 1), (1, i_ald 0 1), (2, i_getf 6 8), (5, i_ild 1 1), (6, i_nald 0), (7, i_putf 6 39 0), (10, i_push 0 1), (11, i_ist 2 1), (12, i_ild 2 1), (13, i_ald 0 1), (14, i_getf 6 39), (17, i_icmp (fun x y => y ≤ x) (fun x y => ¬ y ≤ x) 42), (20, i_ald 0 1), (21, i_getf 6 40), (24, i_ild 2 1), (25, i_ald 0 1), (26, i_getf 6 9), (29, i_push 3 1), (30, i_ild 1 1), (31, i_bin (fun x y => x * y)), (32, i_ild 2 1), (33, i_bin (fun x y => x + y)), (34, i_nald 0), (35, i_nast 0 (fun x => x))]
def k_Mo_fetch_1 : List (Nat × zI) := [(36, i_inc 2 1), (39, i_goto 12), (42, i_vret)]
def k_Mo_fetch : zCd := [(36, k_Mo_fetch_0), (100000, k_Mo_fetch_1)]
def r_Mo_fetch : zR := (y_Mo_fetch, prog_8_method_24_code, 3, none, k_Mo_fetch)
def k_Mo_run_0 : List (Nat × zI) := [(0, i_push 0 1), (1, i_ist 2 1), (2, i_ild 2 1), (3, i_push 4 1), (4, i_icmp (fun x y => y ≤ x) (fun x y => ¬ y ≤ x) 164), (7, i_ald 0 1), (8, i_getf 6 42), (11, i_if (fun x => ¬ x = 0) (fun x => x = 0) 164), (14, i_ald 0 1), (15, i_getf 6 13), (18, i_ild 1 1), (19, i_nald 0), (20, i_ald 0 1), (21, i_getf 6 23), (24, i_ild 1 1), (25, i_nald 0), (26, i_ild 2 1), (27, i_callS 86 3), (30, i_ist 3 1), (31, i_ild 3 1), (32, i_push 1 1), (33, i_icmp (fun x y => ¬ x = y) (fun x y => x = y) 108), (36, i_ald 0 1), (37, i_callV 6 94 0)]
def k_Mo_run_1 : List (Nat × zI) := [(40, i_ist 4 2), (42, i_ald 0 1), (43, i_ild 4 2), (45, i_if (fun x => x < 0) (fun x => ¬ x < 0) 59), (48, i_ald 0 1), (49, i_getf 6 1), (52, i_ild 4 2), (54, i_nald 2), (55, i_push 2 1), (56, i_icmp (fun x y => x = y) (fun x y => ¬ x = y) 63), (59, i_push 1 1), (60, i_goto 64), (63, i_push 0 1), (64, i_putf 6 42 1), (67, i_ald 0 1), (68, i_ald 0 1), (69, i_getf 6 42), (72, i_if (fun x => x = 0) (fun x => ¬ x = 0) 82), (75, i_ald 0 1), (76, i_getf 6 37), (79, i_goto 89), (82, i_ald 0 1), (83, i_getf 6 2), (86, i_ild 4 2)]
def k_Mo_run_2 : List (Nat × zI) := [(88, i_nald 0), (89, i_putf 6 37 0), (92, i_ald 0 1), (93, i_getf 6 42), (96, i_if (fun x => ¬ x = 0) (fun x => x = 0) 105), (99, i_ald 0 1), (100, i_ild 4 2), (102, i_callV 6 90 1), (105, i_goto 158), (108, i_ild 3 1), (109, i_push 2 1), (110, i_icmp (fun x y => ¬ x = y) (fun x y => x = y) 148), (113, i_ald 0 1), (114, i_push 2 1), (115, i_callV 6 95 1), (118, i_ist 4 2), (120, i_ald 0 1), (121, i_ald 0 1), (122, i_getf 6 42), (125, i_if (fun x => x = 0) (fun x => ¬ x = 0) 135), (128, i_ald 0 1), (129, i_getf 6 38), (132, i_goto 142), (135, i_ald 0 1)]
def k_Mo_run_3 : List (Nat × zI) := [(136, i_getf 6 2), (139, i_ild 4 2), (141, i_nald 0), (142, i_putf 6 38 0), (145, i_goto 158), (148, i_ild 3 1), (149, i_push 2 1), (150, i_icmp (fun x y => x ≤ y) (fun x y => ¬ x ≤ y) 158), (153, i_ald 0 1), (154, i_ild 3 1), (155, i_callV 6 91 1), (158, i_inc 2 1), (161, i_goto 2), (164, i_ald 0 1), (165, i_getf 6 42), (168, i_if (fun x => x = 0) (fun x => ¬ x = 0) 175), (171, i_push (-1) 1), (172, i_goto 180), (175, i_ald 0 1), (176, i_push 1 1), (177, i_callV 6 95 1), (180, i_ist 2 1), (181, i_ald 0 1), (182, i_getf 6 42)]
def k_Mo_run_4 : List (Nat × zI) := [(185, i_if (fun x => ¬ x = 0) (fun x => x = 0) 199), (188, i_ald 0 1), (189, i_getf 6 41), (192, i_ald 0 1), (193, i_getf 6 39), (196, i_icmp (fun x y => x = y) (fun x y => ¬ x = y) 203), (199, i_push (-1) 1), (200, i_goto 204), (203, i_ild 2 1), (204, i_iret)]
def k_Mo_run : zCd := [(40, k_Mo_run_0), (88, k_Mo_run_1), (136, k_Mo_run_2), (185, k_Mo_run_3), (100000, k_Mo_run_4)]
def r_Mo_run : zR := (y_Mo_run, prog_8_method_25_code, 5, (some .int), k_Mo_run)
def k_Mo_took_0 : List (Nat × zI) := [(0, i_ald 0 1), (1, i_getf 6 26), (4, i_ild 1 1), (5, i_ild 2 1), (6, i_nast 0 (fun x => x)), (7, i_ald 0 1), (8, i_getf 6 27), (11, i_ild 1 1), (12, i_ald 0 1), (13, i_getf 6 27), (16, i_ild 1 1), (17, i_nald 0), (18, i_push 1 1), (19, i_bin (fun x y => x + y)), (20, i_nast 0 (fun x => x)), (21, i_vret)]
def k_Mo_took : zCd := [(100000, k_Mo_took_0)]
def r_Mo_took : zR := (y_Mo_took, prog_8_method_26_code, 3, none, k_Mo_took)
def k_Mo_reads_0 : List (Nat × zI) := [(0, i_ald 0 1), (1, i_getf 6 0), (4, i_ist 2 1), (5, i_ald 0 1), (6, i_ild 1 1), (7, i_callV 6 88 1), (10, i_ald 0 1), (11, i_ild 1 1), (12, i_callV 6 99 1), (15, i_if (fun x => x = 0) (fun x => ¬ x = 0) 22), (18, i_push (-1) 1), (19, i_goto 27), (22, i_ald 0 1), (23, i_ild 1 1), (24, i_callV 6 103 1), (27, i_ist 3 1), (28, i_ild 3 1), (29, i_if (fun x => 0 ≤ x) (fun x => ¬ 0 ≤ x) 39), (32, i_ald 0 1), (33, i_ild 2 1), (34, i_putf 6 0 0), (37, i_push 0 1), (38, i_zret), (39, i_ald 0 1)]
def k_Mo_reads_1 : List (Nat × zI) := [(40, i_callV 6 89 0), (43, i_ald 0 1), (44, i_ild 1 1), (45, i_ald 0 1), (46, i_getf 6 2), (49, i_ild 3 1), (50, i_nald 0), (51, i_callV 6 104 2), (54, i_push 1 1), (55, i_zret)]
def k_Mo_reads : zCd := [(40, k_Mo_reads_0), (100000, k_Mo_reads_1)]
def r_Mo_reads : zR := (y_Mo_reads, prog_8_method_27_code, 4, (some .boolean), k_Mo_reads)
def k_Mo_accepts_0 : List (Nat × zI) := [(0, i_ald 0 1), (1, i_getf 6 39), (4, i_push 2 1), (5, i_icmp (fun x y => ¬ x = y) (fun x y => x = y) 17), (8, i_ald 0 1), (9, i_getf 6 40), (12, i_push 1 1), (13, i_nald 0), (14, i_goto 18), (17, i_push 0 1), (18, i_ist 2 1), (19, i_ald 0 1), (20, i_getf 6 39), (23, i_push 2 1), (24, i_icmp (fun x y => ¬ x = y) (fun x y => x = y) 53), (27, i_ald 0 1), (28, i_getf 6 1), (31, i_ald 0 1), (32, i_getf 6 40), (35, i_push 0 1), (36, i_nald 0), (37, i_nald 2), (38, i_push 1 1), (39, i_icmp (fun x y => ¬ x = y) (fun x y => x = y) 53)]
def k_Mo_accepts_1 : List (Nat × zI) := [(42, i_ald 0 1), (43, i_getf 6 1), (46, i_ild 2 1), (47, i_nald 2), (48, i_push 8 2), (50, i_icmp (fun x y => x = y) (fun x y => ¬ x = y) 55), (53, i_push 0 1), (54, i_zret), (55, i_ald 0 1), (56, i_getf 6 2), (59, i_ald 0 1), (60, i_getf 6 40), (63, i_push 0 1), (64, i_nald 0), (65, i_nald 0), (66, i_ist 3 1), (67, i_ald 0 1), (68, i_getf 6 3), (71, i_ild 2 1), (72, i_nald 3), (73, i_ist 4 2), (75, i_ald 0 1), (76, i_getf 6 4), (79, i_ild 2 1)]
def k_Mo_accepts_2 : List (Nat × zI) := [(80, i_nald 3), (81, i_ist 5 2), (83, i_ald 0 1), (84, i_getf 6 5), (87, i_ild 2 1), (88, i_nald 3), (89, i_ist 6 2), (91, i_ald 0 1), (92, i_getf 6 1), (95, i_ild 4 2), (97, i_nald 2), (98, i_push 7 2), (100, i_icmp (fun x y => ¬ x = y) (fun x y => x = y) 147), (103, i_ald 0 1), (104, i_getf 6 3), (107, i_ild 4 2), (109, i_nald 3), (110, i_ald 0 1), (111, i_getf 6 20), (114, i_ild 1 1), (115, i_nald 0), (116, i_icmp (fun x y => ¬ x = y) (fun x y => x = y) 147), (119, i_ald 0 1), (120, i_getf 6 2)]
def k_Mo_accepts_3 : List (Nat × zI) := [(123, i_ild 4 2), (125, i_nald 0), (126, i_ald 0 1), (127, i_getf 6 14), (130, i_ild 1 1), (131, i_nald 1), (132, i_if (fun x => x = 0) (fun x => ¬ x = 0) 139), (135, i_push 2 1), (136, i_goto 140), (139, i_push 1 1), (140, i_icmp (fun x y => ¬ x = y) (fun x y => x = y) 147), (143, i_push 1 1), (144, i_goto 148), (147, i_push 0 1), (148, i_ist 7 2), (150, i_ild 7 2), (152, i_if (fun x => x = 0) (fun x => ¬ x = 0) 205), (155, i_ald 0 1), (156, i_getf 6 2), (159, i_ild 2 1), (160, i_nald 0), (161, i_ild 3 1), (162, i_icmp (fun x y => ¬ x = y) (fun x y => x = y) 205), (165, i_ald 0 1)]
def k_Mo_accepts_4 : List (Nat × zI) := [(166, i_getf 6 1), (169, i_ild 5 2), (171, i_nald 2), (172, i_push 1 1), (173, i_icmp (fun x y => ¬ x = y) (fun x y => x = y) 205), (176, i_ald 0 1), (177, i_getf 6 2), (180, i_ild 5 2), (182, i_nald 0), (183, i_if (fun x => ¬ x = 0) (fun x => x = 0) 205), (186, i_ald 0 1), (187, i_getf 6 1), (190, i_ild 6 2), (192, i_nald 2), (193, i_push 1 1), (194, i_icmp (fun x y => ¬ x = y) (fun x y => x = y) 205), (197, i_ild 3 1), (198, i_if (fun x => x < 0) (fun x => ¬ x < 0) 205), (201, i_push 1 1), (202, i_goto 206), (205, i_push 0 1), (206, i_ist 7 2), (208, i_ild 7 2), (210, i_if (fun x => x = 0) (fun x => ¬ x = 0) 261)]
def k_Mo_accepts_5 : List (Nat × zI) := [(213, i_ild 3 1), (214, i_ald 0 1), (215, i_getf 6 29), (218, i_ild 1 1), (219, i_nald 0), (220, i_icmp (fun x y => y < x) (fun x y => ¬ y < x) 261), (223, i_ald 0 1), (224, i_getf 6 29), (227, i_ild 1 1), (228, i_nald 0), (229, i_ild 3 1), (230, i_bin (fun x y => x - y)), (231, i_push 7 2), (233, i_icmp (fun x y => y < x) (fun x y => ¬ y < x) 257), (236, i_ald 0 1), (237, i_getf 6 30), (240, i_ild 1 1), (241, i_nald 0), (242, i_ald 0 1), (243, i_getf 6 29), (246, i_ild 1 1), (247, i_nald 0), (248, i_ild 3 1), (249, i_bin (fun x y => x - y))]
def k_Mo_accepts_6 : List (Nat × zI) := [(250, i_bin (fun x y => x >>> (y &&& 31))), (251, i_push 1 1), (252, i_bin (fun x y => x &&& y)), (253, i_push 1 1), (254, i_icmp (fun x y => ¬ x = y) (fun x y => x = y) 261), (257, i_push 1 1), (258, i_goto 262), (261, i_push 0 1), (262, i_ist 8 2), (264, i_ild 7 2), (266, i_if (fun x => x = 0) (fun x => ¬ x = 0) 274), (269, i_ild 8 2), (271, i_if (fun x => x = 0) (fun x => ¬ x = 0) 276), (274, i_push 0 1), (275, i_zret), (276, i_ild 3 1), (277, i_ald 0 1), (278, i_getf 6 29), (281, i_ild 1 1), (282, i_nald 0), (283, i_icmp (fun x y => x ≤ y) (fun x y => ¬ x ≤ y) 297), (286, i_ild 3 1), (287, i_ald 0 1), (288, i_getf 6 29)]
def k_Mo_accepts_7 : List (Nat × zI) := [(291, i_ild 1 1), (292, i_nald 0), (293, i_bin (fun x y => x - y)), (294, i_goto 298), (297, i_push 0 1), (298, i_ist 9 2), (300, i_ald 0 1), (301, i_getf 6 30), (304, i_ild 1 1), (305, i_ild 9 2), (307, i_push 8 2), (309, i_icmp (fun x y => x ≤ y) (fun x y => ¬ x ≤ y) 316), (312, i_push 0 1), (313, i_goto 329), (316, i_ald 0 1), (317, i_getf 6 30), (320, i_ild 1 1), (321, i_nald 0), (322, i_ild 9 2), (324, i_bin (fun x y => x <<< (y &&& 31))), (325, i_push 255 3), (328, i_bin (fun x y => x &&& y)), (329, i_nast 0 (fun x => x)), (330, i_ald 0 1)]
def k_Mo_accepts_8 : List (Nat × zI) := [(331, i_getf 6 29), (334, i_ild 1 1), (335, i_ild 3 1), (336, i_ald 0 1), (337, i_getf 6 29), (340, i_ild 1 1), (341, i_nald 0), (342, i_icmp (fun x y => x ≤ y) (fun x y => ¬ x ≤ y) 349), (345, i_ild 3 1), (346, i_goto 355), (349, i_ald 0 1), (350, i_getf 6 29), (353, i_ild 1 1), (354, i_nald 0), (355, i_nast 0 (fun x => x)), (356, i_ald 0 1), (357, i_getf 6 30), (360, i_ild 1 1), (361, i_ald 0 1), (362, i_getf 6 30), (365, i_ild 1 1), (366, i_nald 0), (367, i_push 1 1), (368, i_ald 0 1)]
def k_Mo_accepts_9 : List (Nat × zI) := [(369, i_getf 6 29), (372, i_ild 1 1), (373, i_nald 0), (374, i_ild 3 1), (375, i_bin (fun x y => x - y)), (376, i_bin (fun x y => x <<< (y &&& 31))), (377, i_bin (fun x y => x ||| y)), (378, i_nast 0 (fun x => x)), (379, i_ald 0 1), (380, i_ild 1 1), (381, i_ald 0 1), (382, i_getf 6 2), (385, i_ild 6 2), (387, i_nald 0), (388, i_callV 6 104 2), (391, i_push 1 1), (392, i_zret)]
def k_Mo_accepts : zCd := [(42, k_Mo_accepts_0), (80, k_Mo_accepts_1), (123, k_Mo_accepts_2), (166, k_Mo_accepts_3), (213, k_Mo_accepts_4), (250, k_Mo_accepts_5), (291, k_Mo_accepts_6), (331, k_Mo_accepts_7), (369, k_Mo_accepts_8), (100000, k_Mo_accepts_9)]
def r_Mo_accepts : zR := (y_Mo_accepts, prog_8_method_28_code, 10, (some .boolean), k_Mo_accepts)
def k_Mo_deliver_0 : List (Nat × zI) := [(0, i_ald 0 1), (1, i_ild 2 1), (2, i_callV 6 97 1), (5, i_if (fun x => x = 0) (fun x => ¬ x = 0) 22), (8, i_ild 1 1), (9, i_push 0 1), (10, i_ald 0 1), (11, i_getf 6 7), (14, i_push 1 1), (15, i_bin (fun x y => x - y)), (16, i_callS 80 3), (19, i_if (fun x => ¬ x = 0) (fun x => x = 0) 24), (22, i_push (-1) 1), (23, i_iret), (24, i_ald 0 1), (25, i_getf 6 24), (28, i_ild 2 1), (29, i_nald 1), (30, i_if (fun x => x = 0) (fun x => ¬ x = 0) 36), (33, i_push (-2) 2), (35, i_iret), (36, i_ald 0 1), (37, i_ild 1 1), (38, i_callV 6 102 1)]
def k_Mo_deliver_1 : List (Nat × zI) := [(41, i_ald 0 1), (42, i_ild 2 1), (43, i_callV 6 98 1), (46, i_if (fun x => x = 0) (fun x => ¬ x = 0) 57), (49, i_ald 0 1), (50, i_ild 2 1), (51, i_callV 6 106 1), (54, i_goto 62), (57, i_ald 0 1), (58, i_ild 2 1), (59, i_callV 6 105 1), (62, i_ist 3 1), (63, i_ild 3 1), (64, i_if (fun x => x = 0) (fun x => ¬ x = 0) 71), (67, i_push 1 1), (68, i_goto 72), (71, i_push 0 1), (72, i_iret)]
def k_Mo_deliver : zCd := [(41, k_Mo_deliver_0), (100000, k_Mo_deliver_1)]
def r_Mo_deliver : zR := (y_Mo_deliver, prog_8_method_29_code, 4, (some .int), k_Mo_deliver)
def k_Mo_send_0 : List (Nat × zI) := [(0, i_ald 0 1), (1, i_ild 1 1), (2, i_callV 6 97 1), (5, i_if (fun x => ¬ x = 0) (fun x => x = 0) 10), (8, i_push (-1) 1), (9, i_iret), (10, i_ald 0 1), (11, i_getf 6 24), (14, i_ild 1 1), (15, i_nald 1), (16, i_if (fun x => x = 0) (fun x => ¬ x = 0) 22), (19, i_push (-2) 2), (21, i_iret), (22, i_ald 0 1), (23, i_ild 1 1), (24, i_callV 6 98 1), (27, i_if (fun x => ¬ x = 0) (fun x => x = 0) 33), (30, i_push (-3) 2), (32, i_iret), (33, i_ald 0 1), (34, i_getf 6 7), (37, i_push 60 2), (39, i_icmp (fun x y => ¬ x = y) (fun x y => x = y) 45), (42, i_push (-4) 2)]
def k_Mo_send_1 : List (Nat × zI) := [(44, i_iret), (45, i_ald 0 1), (46, i_push 7 2), (48, i_ald 0 1), (49, i_getf 6 14), (52, i_ild 1 1), (53, i_nald 1), (54, i_if (fun x => x = 0) (fun x => ¬ x = 0) 61), (57, i_push 1 1), (58, i_goto 62), (61, i_push 2 1), (62, i_ald 0 1), (63, i_getf 6 20), (66, i_ild 1 1), (67, i_nald 0), (68, i_push 0 1), (69, i_push 0 1), (70, i_callV 6 81 5), (73, i_ist 3 1), (74, i_ald 0 1), (75, i_push 0 1), (76, i_callV 6 82 1), (79, i_ist 4 2), (81, i_ald 0 1)]
def k_Mo_send_2 : List (Nat × zI) := [(82, i_ild 2 1), (83, i_callV 6 82 1), (86, i_ist 5 2), (88, i_ald 0 1), (89, i_getf 6 40), (92, i_push 0 1), (93, i_ald 0 1), (94, i_ald 0 1), (95, i_getf 6 28), (98, i_ild 1 1), (99, i_nald 0), (100, i_callV 6 82 1), (103, i_nast 0 (fun x => x)), (104, i_ald 0 1), (105, i_getf 6 40), (108, i_push 1 1), (109, i_ald 0 1), (110, i_push 8 2), (112, i_ald 0 1), (113, i_getf 6 28), (116, i_ild 1 1), (117, i_nald 0), (118, i_ild 3 1), (119, i_ild 4 2)]
def k_Mo_send_3 : List (Nat × zI) := [(121, i_ild 5 2), (123, i_callV 6 81 5), (126, i_nast 0 (fun x => x)), (127, i_ald 0 1), (128, i_getf 6 28), (131, i_ild 1 1), (132, i_ald 0 1), (133, i_getf 6 28), (136, i_ild 1 1), (137, i_nald 0), (138, i_push 1 1), (139, i_bin (fun x y => x + y)), (140, i_nast 0 (fun x => x)), (141, i_ald 0 1), (142, i_push 2 1), (143, i_callV 6 100 1), (146, i_iret)]
def k_Mo_send : zCd := [(44, k_Mo_send_0), (82, k_Mo_send_1), (121, k_Mo_send_2), (100000, k_Mo_send_3)]
def r_Mo_send : zR := (y_Mo_send, prog_8_method_30_code, 6, (some .int), k_Mo_send)
def k_Mo_isPart_0 : List (Nat × zI) := [(0, i_ild 1 1), (1, i_push 0 1), (2, i_ald 0 1), (3, i_getf 6 7), (6, i_push 1 1), (7, i_bin (fun x y => x - y)), (8, i_callS 80 3), (11, i_if (fun x => x = 0) (fun x => ¬ x = 0) 34), (14, i_ild 2 1), (15, i_push 0 1), (16, i_ald 0 1), (17, i_getf 6 8), (20, i_ild 1 1), (21, i_nald 0), (22, i_push 1 1), (23, i_bin (fun x y => x - y)), (24, i_callS 80 3), (27, i_if (fun x => x = 0) (fun x => ¬ x = 0) 34), (30, i_push 1 1), (31, i_goto 35), (34, i_push 0 1), (35, i_zret)]
def k_Mo_isPart : zCd := [(100000, k_Mo_isPart_0)]
def r_Mo_isPart : zR := (y_Mo_isPart, prog_8_method_31_code, 3, (some .boolean), k_Mo_isPart)
def k_Mo_splice_0 : List (Nat × zI) := [(0, i_ald 0 1), (1, i_ild 1 1), (2, i_ild 2 1), (3, i_callV 6 109 2), (6, i_if (fun x => x = 0) (fun x => ¬ x = 0) 19), (9, i_ald 0 1), (10, i_ild 3 1), (11, i_ild 4 2), (13, i_callV 6 109 2), (16, i_if (fun x => ¬ x = 0) (fun x => x = 0) 21), (19, i_push (-1) 1), (20, i_iret), (21, i_ald 0 1), (22, i_getf 6 7), (25, i_push 60 2), (27, i_icmp (fun x y => ¬ x = y) (fun x y => x = y) 33), (30, i_push (-4) 2), (32, i_iret), (33, i_ald 0 1), (34, i_ild 1 1), (35, i_callV 6 102 1), (38, i_ald 0 1), (39, i_getf 6 40), (42, i_ild 2 1)]
def k_Mo_splice_1 : List (Nat × zI) := [(43, i_ald 0 1), (44, i_getf 6 9), (47, i_push 3 1), (48, i_ild 3 1), (49, i_bin (fun x y => x * y)), (50, i_ild 4 2), (52, i_bin (fun x y => x + y)), (53, i_nald 0), (54, i_nast 0 (fun x => x)), (55, i_ald 0 1), (56, i_ald 0 1), (57, i_getf 6 39), (60, i_callV 6 100 1), (63, i_iret)]
def k_Mo_splice : zCd := [(43, k_Mo_splice_0), (100000, k_Mo_splice_1)]
def r_Mo_splice : zR := (y_Mo_splice, prog_8_method_32_code, 5, (some .int), k_Mo_splice)
def k_Mo_replace_0 : List (Nat × zI) := [(0, i_ald 0 1), (1, i_ild 1 1), (2, i_ild 2 1), (3, i_callV 6 109 2), (6, i_if (fun x => ¬ x = 0) (fun x => x = 0) 11), (9, i_push (-1) 1), (10, i_iret), (11, i_ald 0 1), (12, i_getf 6 7), (15, i_push 60 2), (17, i_icmp (fun x y => ¬ x = y) (fun x y => x = y) 23), (20, i_push (-4) 2), (22, i_iret), (23, i_ald 0 1), (24, i_ild 1 1), (25, i_callV 6 102 1), (28, i_ald 0 1), (29, i_getf 6 40), (32, i_ild 2 1), (33, i_ald 0 1), (34, i_ild 3 1), (35, i_callV 6 82 1), (38, i_nast 0 (fun x => x)), (39, i_ald 0 1)]
def k_Mo_replace_1 : List (Nat × zI) := [(40, i_ald 0 1), (41, i_getf 6 39), (44, i_callV 6 100 1), (47, i_iret)]
def k_Mo_replace : zCd := [(40, k_Mo_replace_0), (100000, k_Mo_replace_1)]
def r_Mo_replace : zR := (y_Mo_replace, prog_8_method_33_code, 4, (some .int), k_Mo_replace)
def k_Mo_give_0 : List (Nat × zI) := [(0, i_ild 1 1), (1, i_push 1 1), (2, i_push 8 2), (4, i_ald 0 1), (5, i_getf 6 10), (8, i_bin (fun x y => x + y)), (9, i_callS 80 3), (12, i_if (fun x => x = 0) (fun x => ¬ x = 0) 24), (15, i_ald 0 1), (16, i_getf 6 11), (19, i_ild 1 1), (20, i_nald 1), (21, i_if (fun x => x = 0) (fun x => ¬ x = 0) 26), (24, i_push 0 1), (25, i_zret), (26, i_ald 0 1), (27, i_getf 6 11), (30, i_ild 1 1), (31, i_push 1 1), (32, i_nast 1 (fun x => x &&& 1)), (33, i_push 1 1), (34, i_zret)]
def k_Mo_give : zCd := [(100000, k_Mo_give_0)]
def r_Mo_give : zR := (y_Mo_give, prog_8_method_34_code, 2, (some .boolean), k_Mo_give)
def k_Mo_tick_0 : List (Nat × zI) := [(0, i_push 0 1), (1, i_ist 1 1), (2, i_push 0 1), (3, i_ist 2 1), (4, i_ild 2 1), (5, i_ald 0 1), (6, i_getf 6 12), (9, i_icmp (fun x y => y ≤ x) (fun x y => ¬ y ≤ x) 93), (12, i_ald 0 1), (13, i_getf 6 24), (16, i_ild 2 1), (17, i_nald 1), (18, i_if (fun x => ¬ x = 0) (fun x => x = 0) 87), (21, i_ald 0 1), (22, i_getf 6 25), (25, i_ild 2 1), (26, i_ald 0 1), (27, i_getf 6 25), (30, i_ild 2 1), (31, i_nald 0), (32, i_push 1 1), (33, i_bin (fun x y => x + y)), (34, i_nast 0 (fun x => x)), (35, i_ald 0 1)]
def k_Mo_tick_1 : List (Nat × zI) := [(36, i_getf 6 24), (39, i_ild 2 1), (40, i_ald 0 1), (41, i_getf 6 25), (44, i_ild 2 1), (45, i_nald 0), (46, i_ald 0 1), (47, i_ild 2 1), (48, i_callV 6 98 1), (51, i_if (fun x => x = 0) (fun x => ¬ x = 0) 59), (54, i_push 30 2), (56, i_goto 61), (59, i_push 6 2), (61, i_icmp (fun x y => ¬ x = y) (fun x y => x = y) 68), (64, i_push 1 1), (65, i_goto 69), (68, i_push 0 1), (69, i_nast 1 (fun x => x &&& 1)), (70, i_ald 0 1), (71, i_getf 6 24), (74, i_ild 2 1), (75, i_nald 1), (76, i_if (fun x => x = 0) (fun x => ¬ x = 0) 85), (79, i_ild 1 1)]
def k_Mo_tick_2 : List (Nat × zI) := [(80, i_push 1 1), (81, i_bin (fun x y => x + y)), (82, i_goto 86), (85, i_ild 1 1), (86, i_ist 1 1), (87, i_inc 2 1), (90, i_goto 4), (93, i_ild 1 1), (94, i_iret)]
def k_Mo_tick : zCd := [(36, k_Mo_tick_0), (80, k_Mo_tick_1), (100000, k_Mo_tick_2)]
def r_Mo_tick : zR := (y_Mo_tick, prog_8_method_35_code, 3, (some .int), k_Mo_tick)
def k_Mo_state_0 : List (Nat × zI) := [(0, i_ald 0 1), (1, i_ild 1 1), (2, i_callV 6 97 1), (5, i_if (fun x => ¬ x = 0) (fun x => x = 0) 12), (8, i_push (-1) 1), (9, i_goto 38), (12, i_ald 0 1), (13, i_getf 6 24), (16, i_ild 1 1), (17, i_nald 1), (18, i_if (fun x => x = 0) (fun x => ¬ x = 0) 25), (21, i_push 2 1), (22, i_goto 38), (25, i_ald 0 1), (26, i_ild 1 1), (27, i_callV 6 98 1), (30, i_if (fun x => x = 0) (fun x => ¬ x = 0) 37), (33, i_push 1 1), (34, i_goto 38), (37, i_push 0 1), (38, i_iret)]
def k_Mo_state : zCd := [(100000, k_Mo_state_0)]
def r_Mo_state : zR := (y_Mo_state, prog_8_method_36_code, 2, (some .int), k_Mo_state)
def k_Mo_steps_0 : List (Nat × zI) := [(0, i_ald 0 1), (1, i_ild 1 1), (2, i_callV 6 97 1), (5, i_if (fun x => x = 0) (fun x => ¬ x = 0) 17), (8, i_ald 0 1), (9, i_getf 6 23), (12, i_ild 1 1), (13, i_nald 0), (14, i_goto 18), (17, i_push (-1) 1), (18, i_iret)]
def k_Mo_steps : zCd := [(100000, k_Mo_steps_0)]
def r_Mo_steps : zR := (y_Mo_steps, prog_8_method_37_code, 2, (some .int), k_Mo_steps)
def k_Mo_peer_0 : List (Nat × zI) := [(0, i_ald 0 1), (1, i_ild 1 1), (2, i_callV 6 97 1), (5, i_if (fun x => x = 0) (fun x => ¬ x = 0) 17), (8, i_ald 0 1), (9, i_getf 6 18), (12, i_ild 1 1), (13, i_nald 0), (14, i_goto 18), (17, i_push (-1) 1), (18, i_iret)]
def k_Mo_peer : zCd := [(100000, k_Mo_peer_0)]
def r_Mo_peer : zR := (y_Mo_peer, prog_8_method_38_code, 2, (some .int), k_Mo_peer)
def k_Mo_payload_0 : List (Nat × zI) := [(0, i_ald 0 1), (1, i_ild 1 1), (2, i_callV 6 97 1), (5, i_if (fun x => x = 0) (fun x => ¬ x = 0) 17), (8, i_ald 0 1), (9, i_getf 6 26), (12, i_ild 1 1), (13, i_nald 0), (14, i_goto 18), (17, i_push 0 1), (18, i_iret)]
def k_Mo_payload : zCd := [(100000, k_Mo_payload_0)]
def r_Mo_payload : zR := (y_Mo_payload, prog_8_method_39_code, 2, (some .int), k_Mo_payload)
def k_Mo_accepted_0 : List (Nat × zI) := [(0, i_ald 0 1), (1, i_ild 1 1), (2, i_callV 6 97 1), (5, i_if (fun x => x = 0) (fun x => ¬ x = 0) 17), (8, i_ald 0 1), (9, i_getf 6 27), (12, i_ild 1 1), (13, i_nald 0), (14, i_goto 18), (17, i_push (-1) 1), (18, i_iret)]
def k_Mo_accepted : zCd := [(100000, k_Mo_accepted_0)]
def r_Mo_accepted : zR := (y_Mo_accepted, prog_8_method_40_code, 2, (some .int), k_Mo_accepted)
def k_Mo_match_0 : List (Nat × zI) := [(0, i_ald 0 1), (1, i_ild 1 1), (2, i_callV 6 97 1), (5, i_if (fun x => x = 0) (fun x => ¬ x = 0) 66), (8, i_ald 0 1), (9, i_ild 2 1), (10, i_callV 6 97 1), (13, i_if (fun x => x = 0) (fun x => ¬ x = 0) 66), (16, i_ald 0 1), (17, i_ild 1 1), (18, i_callV 6 98 1), (21, i_if (fun x => x = 0) (fun x => ¬ x = 0) 66), (24, i_ald 0 1), (25, i_ild 2 1), (26, i_callV 6 98 1), (29, i_if (fun x => x = 0) (fun x => ¬ x = 0) 66), (32, i_ald 0 1), (33, i_getf 6 14), (36, i_ild 1 1), (37, i_nald 1), (38, i_ald 0 1), (39, i_getf 6 14), (42, i_ild 2 1), (43, i_nald 1)]
def k_Mo_match_1 : List (Nat × zI) := [(44, i_icmp (fun x y => x = y) (fun x y => ¬ x = y) 66), (47, i_ald 0 1), (48, i_getf 6 20), (51, i_ild 1 1), (52, i_nald 0), (53, i_ald 0 1), (54, i_getf 6 20), (57, i_ild 2 1), (58, i_nald 0), (59, i_icmp (fun x y => ¬ x = y) (fun x y => x = y) 66), (62, i_push 1 1), (63, i_goto 67), (66, i_push 0 1), (67, i_zret)]
def k_Mo_match : zCd := [(44, k_Mo_match_0), (100000, k_Mo_match_1)]
def r_Mo_match : zR := (y_Mo_match, prog_8_method_41_code, 3, (some .boolean), k_Mo_match)
def k_Mo_open_0 : List (Nat × zI) := [(0, i_ald 0 1), (1, i_ild 1 1), (2, i_callV 6 97 1), (5, i_if (fun x => x = 0) (fun x => ¬ x = 0) 16), (8, i_ald 0 1), (9, i_ild 1 1), (10, i_callV 6 98 1), (13, i_if (fun x => ¬ x = 0) (fun x => x = 0) 18), (16, i_push 0 1), (17, i_zret), (18, i_ald 0 1), (19, i_callV 6 85 0), (22, i_ald 0 1), (23, i_getf 6 6), (26, i_ald 0 1), (27, i_getf 6 20), (30, i_ild 1 1), (31, i_nald 0), (32, i_nald 1), (33, i_zret)]
def k_Mo_open : zCd := [(100000, k_Mo_open_0)]
def r_Mo_open : zR := (y_Mo_open, prog_8_method_42_code, 2, (some .boolean), k_Mo_open)
def k_Mo_parts_0 : List (Nat × zI) := [(0, i_ild 1 1), (1, i_push 0 1), (2, i_ald 0 1), (3, i_getf 6 7), (6, i_push 1 1), (7, i_bin (fun x y => x - y)), (8, i_callS 80 3), (11, i_if (fun x => x = 0) (fun x => ¬ x = 0) 23), (14, i_ald 0 1), (15, i_getf 6 8), (18, i_ild 1 1), (19, i_nald 0), (20, i_goto 24), (23, i_push (-1) 1), (24, i_iret)]
def k_Mo_parts : zCd := [(100000, k_Mo_parts_0)]
def r_Mo_parts : zR := (y_Mo_parts, prog_8_method_43_code, 2, (some .int), k_Mo_parts)
def k_Mo_sees_0 : List (Nat × zI) := [(0, i_ald 0 1), (1, i_ild 1 1), (2, i_ild 2 1), (3, i_callV 6 109 2), (6, i_if (fun x => ¬ x = 0) (fun x => x = 0) 11), (9, i_push (-1) 1), (10, i_iret), (11, i_ald 0 1), (12, i_getf 6 9), (15, i_push 3 1), (16, i_ild 1 1), (17, i_bin (fun x y => x * y)), (18, i_ild 2 1), (19, i_bin (fun x y => x + y)), (20, i_nald 0), (21, i_ist 3 1), (22, i_ald 0 1), (23, i_getf 6 1), (26, i_ild 3 1), (27, i_nald 2), (28, i_push 3 1), (29, i_icmp (fun x y => y ≤ x) (fun x y => ¬ y ≤ x) 39), (32, i_ald 0 1), (33, i_getf 6 1)]
def k_Mo_sees_1 : List (Nat × zI) := [(36, i_ild 3 1), (37, i_nald 2), (38, i_iret), (39, i_ald 0 1), (40, i_callV 6 85 0), (43, i_ald 0 1), (44, i_getf 6 6), (47, i_ald 0 1), (48, i_getf 6 3), (51, i_ild 3 1), (52, i_nald 3), (53, i_nald 1), (54, i_if (fun x => x = 0) (fun x => ¬ x = 0) 61), (57, i_push 3 1), (58, i_goto 62), (61, i_push 4 1), (62, i_iret)]
def k_Mo_sees : zCd := [(36, k_Mo_sees_0), (100000, k_Mo_sees_1)]
def r_Mo_sees : zR := (y_Mo_sees, prog_8_method_44_code, 4, (some .int), k_Mo_sees)
def k_Mo_shown_0 : List (Nat × zI) := [(0, i_ald 0 1), (1, i_ild 1 1), (2, i_ild 2 1), (3, i_callV 6 122 2), (6, i_ist 3 1), (7, i_ild 3 1), (8, i_if (fun x => x < 0) (fun x => ¬ x < 0) 16), (11, i_ild 3 1), (12, i_push 4 1), (13, i_icmp (fun x y => ¬ x = y) (fun x y => x = y) 18), (16, i_push 0 1), (17, i_iret), (18, i_ald 0 1), (19, i_getf 6 9), (22, i_push 3 1), (23, i_ild 1 1), (24, i_bin (fun x y => x * y)), (25, i_ild 2 1), (26, i_bin (fun x y => x + y)), (27, i_nald 0), (28, i_ist 4 2), (30, i_ald 0 1), (31, i_getf 6 5), (34, i_ild 4 2)]
def k_Mo_shown_1 : List (Nat × zI) := [(36, i_nald 3), (37, i_ist 5 2), (39, i_ild 3 1), (40, i_push 3 1), (41, i_icmp (fun x y => ¬ x = y) (fun x y => x = y) 54), (44, i_ald 0 1), (45, i_getf 6 2), (48, i_ild 5 2), (50, i_nald 0), (51, i_goto 61), (54, i_ald 0 1), (55, i_getf 6 2), (58, i_ild 4 2), (60, i_nald 0), (61, i_iret)]
def k_Mo_shown : zCd := [(36, k_Mo_shown_0), (100000, k_Mo_shown_1)]
def r_Mo_shown : zR := (y_Mo_shown, prog_8_method_45_code, 6, (some .int), k_Mo_shown)
def k_Mo_same_0 : List (Nat × zI) := [(0, i_ald 0 1), (1, i_ild 1 1), (2, i_ild 2 1), (3, i_callV 6 109 2), (6, i_if (fun x => x = 0) (fun x => ¬ x = 0) 47), (9, i_ald 0 1), (10, i_ild 3 1), (11, i_ild 4 2), (13, i_callV 6 109 2), (16, i_if (fun x => x = 0) (fun x => ¬ x = 0) 47), (19, i_ald 0 1), (20, i_getf 6 9), (23, i_push 3 1), (24, i_ild 1 1), (25, i_bin (fun x y => x * y)), (26, i_ild 2 1), (27, i_bin (fun x y => x + y)), (28, i_nald 0), (29, i_ald 0 1), (30, i_getf 6 9), (33, i_push 3 1), (34, i_ild 3 1), (35, i_bin (fun x y => x * y)), (36, i_ild 4 2)]
def k_Mo_same_1 : List (Nat × zI) := [(38, i_bin (fun x y => x + y)), (39, i_nald 0), (40, i_icmp (fun x y => ¬ x = y) (fun x y => x = y) 47), (43, i_push 1 1), (44, i_goto 48), (47, i_push 0 1), (48, i_zret)]
def k_Mo_same : zCd := [(38, k_Mo_same_0), (100000, k_Mo_same_1)]
def r_Mo_same : zR := (y_Mo_same, prog_8_method_46_code, 5, (some .boolean), k_Mo_same)
def k_La_law_0 : List (Nat × zI) := [(0, i_new 5 4 [.null, .null, .null, .int 0]), (3, i_dup), (4, i_callI 56 0), (7, i_ast 1 1), (8, i_new 6 43 [.int 0, .null, .null, .null, .null, .null, .null, .int 0, .null, .null, .int 0, .null, .int 0, .null, .null, .null, .null, .null, .null, .null, .null, .null, .null, .null, .null, .null, .null, .null, .null, .null, .null, .int 0, .int 0, .int 0, .int 0, .int 0, .int 0, .int 0, .int 0, .int 0, .null, .int 0, .int 0]), (11, i_dup), (12, i_callI 79 0), (15, i_ast 2 1), (16, i_push 0 1), (17, i_ist 3 1), (18, i_ild 3 1), (19, i_ald 0 1), (20, i_alen), (21, i_push 6 2), (23, i_bin (fun x y => x - y)), (24, i_icmp (fun x y => y < x) (fun x y => ¬ y < x) 753), (27, i_ald 0 1), (28, i_ild 3 1), (29, i_nald 0), (30, i_push 31 2), (32, i_bin (fun x y => x &&& y)), (33, i_tsw 0 [124, 203, 236, 269, 302, 355, 398, 421, 434, 457, 480, 503, 526, 549, 582, 605, 628, 661, 694] 747), (124, i_ald 1 1), (125, i_ald 0 1)]
def k_La_law_1 : List (Nat × zI) := [(126, i_ild 3 1), (127, i_push 1 1), (128, i_bin (fun x y => x + y)), (129, i_nald 0), (130, i_ald 0 1), (131, i_ild 3 1), (132, i_push 2 1), (133, i_bin (fun x y => x + y)), (134, i_nald 0), (135, i_if (fun x => x = 0) (fun x => ¬ x = 0) 142), (138, i_push 1 1), (139, i_goto 143), (142, i_push 0 1), (143, i_ald 0 1), (144, i_ild 3 1), (145, i_push 3 1), (146, i_bin (fun x y => x + y)), (147, i_nald 0), (148, i_ald 0 1), (149, i_ild 3 1), (150, i_push 4 1), (151, i_bin (fun x y => x + y)), (152, i_nald 0), (153, i_ald 0 1)]
def k_La_law_2 : List (Nat × zI) := [(154, i_ild 3 1), (155, i_push 5 1), (156, i_bin (fun x y => x + y)), (157, i_nald 0), (158, i_callV 5 57 5), (161, i_ald 2 1), (162, i_ald 0 1), (163, i_ild 3 1), (164, i_push 1 1), (165, i_bin (fun x y => x + y)), (166, i_nald 0), (167, i_ald 0 1), (168, i_ild 3 1), (169, i_push 2 1), (170, i_bin (fun x y => x + y)), (171, i_nald 0), (172, i_if (fun x => x = 0) (fun x => ¬ x = 0) 179), (175, i_push 1 1), (176, i_goto 180), (179, i_push 0 1), (180, i_ald 0 1), (181, i_ild 3 1), (182, i_push 3 1), (183, i_bin (fun x y => x + y))]
def k_La_law_3 : List (Nat × zI) := [(184, i_nald 0), (185, i_ald 0 1), (186, i_ild 3 1), (187, i_push 4 1), (188, i_bin (fun x y => x + y)), (189, i_nald 0), (190, i_ald 0 1), (191, i_ild 3 1), (192, i_push 5 1), (193, i_bin (fun x y => x + y)), (194, i_nald 0), (195, i_callV 6 96 5), (198, i_icmp (fun x y => x = y) (fun x y => ¬ x = y) 747), (201, i_push 0 1), (202, i_zret), (203, i_ald 1 1), (204, i_ald 0 1), (205, i_ild 3 1), (206, i_push 1 1), (207, i_bin (fun x y => x + y)), (208, i_nald 0), (209, i_ald 0 1), (210, i_ild 3 1), (211, i_push 2 1)]
def k_La_law_4 : List (Nat × zI) := [(212, i_bin (fun x y => x + y)), (213, i_nald 0), (214, i_callV 5 58 2), (217, i_ald 2 1), (218, i_ald 0 1), (219, i_ild 3 1), (220, i_push 1 1), (221, i_bin (fun x y => x + y)), (222, i_nald 0), (223, i_ald 0 1), (224, i_ild 3 1), (225, i_push 2 1), (226, i_bin (fun x y => x + y)), (227, i_nald 0), (228, i_callV 6 101 2), (231, i_icmp (fun x y => x = y) (fun x y => ¬ x = y) 747), (234, i_push 0 1), (235, i_zret), (236, i_ald 1 1), (237, i_ald 0 1), (238, i_ild 3 1), (239, i_push 1 1), (240, i_bin (fun x y => x + y)), (241, i_nald 0)]
def k_La_law_5 : List (Nat × zI) := [(242, i_ald 0 1), (243, i_ild 3 1), (244, i_push 2 1), (245, i_bin (fun x y => x + y)), (246, i_nald 0), (247, i_callV 5 59 2), (250, i_ald 2 1), (251, i_ald 0 1), (252, i_ild 3 1), (253, i_push 1 1), (254, i_bin (fun x y => x + y)), (255, i_nald 0), (256, i_ald 0 1), (257, i_ild 3 1), (258, i_push 2 1), (259, i_bin (fun x y => x + y)), (260, i_nald 0), (261, i_callV 6 108 2), (264, i_icmp (fun x y => x = y) (fun x y => ¬ x = y) 747), (267, i_push 0 1), (268, i_zret), (269, i_ald 1 1), (270, i_ald 0 1), (271, i_ild 3 1)]
def k_La_law_6 : List (Nat × zI) := [(272, i_push 1 1), (273, i_bin (fun x y => x + y)), (274, i_nald 0), (275, i_ald 0 1), (276, i_ild 3 1), (277, i_push 2 1), (278, i_bin (fun x y => x + y)), (279, i_nald 0), (280, i_callV 5 60 2), (283, i_ald 2 1), (284, i_ald 0 1), (285, i_ild 3 1), (286, i_push 1 1), (287, i_bin (fun x y => x + y)), (288, i_nald 0), (289, i_ald 0 1), (290, i_ild 3 1), (291, i_push 2 1), (292, i_bin (fun x y => x + y)), (293, i_nald 0), (294, i_callV 6 107 2), (297, i_icmp (fun x y => x = y) (fun x y => ¬ x = y) 747), (300, i_push 0 1), (301, i_zret)]
def k_La_law_7 : List (Nat × zI) := [(302, i_ald 1 1), (303, i_ald 0 1), (304, i_ild 3 1), (305, i_push 1 1), (306, i_bin (fun x y => x + y)), (307, i_nald 0), (308, i_ald 0 1), (309, i_ild 3 1), (310, i_push 2 1), (311, i_bin (fun x y => x + y)), (312, i_nald 0), (313, i_ald 0 1), (314, i_ild 3 1), (315, i_push 3 1), (316, i_bin (fun x y => x + y)), (317, i_nald 0), (318, i_ald 0 1), (319, i_ild 3 1), (320, i_push 4 1), (321, i_bin (fun x y => x + y)), (322, i_nald 0), (323, i_callV 5 61 4), (326, i_ald 2 1), (327, i_ald 0 1)]
def k_La_law_8 : List (Nat × zI) := [(328, i_ild 3 1), (329, i_push 1 1), (330, i_bin (fun x y => x + y)), (331, i_nald 0), (332, i_ald 0 1), (333, i_ild 3 1), (334, i_push 2 1), (335, i_bin (fun x y => x + y)), (336, i_nald 0), (337, i_ald 0 1), (338, i_ild 3 1), (339, i_push 3 1), (340, i_bin (fun x y => x + y)), (341, i_nald 0), (342, i_ald 0 1), (343, i_ild 3 1), (344, i_push 4 1), (345, i_bin (fun x y => x + y)), (346, i_nald 0), (347, i_callV 6 110 4), (350, i_icmp (fun x y => x = y) (fun x y => ¬ x = y) 747), (353, i_push 0 1), (354, i_zret), (355, i_ald 1 1)]
def k_La_law_9 : List (Nat × zI) := [(356, i_ald 0 1), (357, i_ild 3 1), (358, i_push 1 1), (359, i_bin (fun x y => x + y)), (360, i_nald 0), (361, i_ald 0 1), (362, i_ild 3 1), (363, i_push 2 1), (364, i_bin (fun x y => x + y)), (365, i_nald 0), (366, i_ald 0 1), (367, i_ild 3 1), (368, i_push 3 1), (369, i_bin (fun x y => x + y)), (370, i_nald 0), (371, i_callV 5 62 3), (374, i_ald 2 1), (375, i_ald 0 1), (376, i_ild 3 1), (377, i_push 1 1), (378, i_bin (fun x y => x + y)), (379, i_nald 0), (380, i_ald 0 1), (381, i_ild 3 1)]
def k_La_law_10 : List (Nat × zI) := [(382, i_push 2 1), (383, i_bin (fun x y => x + y)), (384, i_nald 0), (385, i_ald 0 1), (386, i_ild 3 1), (387, i_push 3 1), (388, i_bin (fun x y => x + y)), (389, i_nald 0), (390, i_callV 6 111 3), (393, i_icmp (fun x y => x = y) (fun x y => ¬ x = y) 747), (396, i_push 0 1), (397, i_zret), (398, i_ald 1 1), (399, i_ald 0 1), (400, i_ild 3 1), (401, i_push 1 1), (402, i_bin (fun x y => x + y)), (403, i_nald 0), (404, i_callV 5 63 1), (407, i_ald 2 1), (408, i_ald 0 1), (409, i_ild 3 1), (410, i_push 1 1), (411, i_bin (fun x y => x + y))]
def k_La_law_11 : List (Nat × zI) := [(412, i_nald 0), (413, i_callV 6 112 1), (416, i_icmp (fun x y => x = y) (fun x y => ¬ x = y) 747), (419, i_push 0 1), (420, i_zret), (421, i_ald 1 1), (422, i_callV 5 64 0), (425, i_ald 2 1), (426, i_callV 6 113 0), (429, i_icmp (fun x y => x = y) (fun x y => ¬ x = y) 747), (432, i_push 0 1), (433, i_zret), (434, i_ald 1 1), (435, i_ald 0 1), (436, i_ild 3 1), (437, i_push 1 1), (438, i_bin (fun x y => x + y)), (439, i_nald 0), (440, i_callV 5 65 1), (443, i_ald 2 1), (444, i_ald 0 1), (445, i_ild 3 1), (446, i_push 1 1), (447, i_bin (fun x y => x + y))]
def k_La_law_12 : List (Nat × zI) := [(448, i_nald 0), (449, i_callV 6 114 1), (452, i_icmp (fun x y => x = y) (fun x y => ¬ x = y) 747), (455, i_push 0 1), (456, i_zret), (457, i_ald 1 1), (458, i_ald 0 1), (459, i_ild 3 1), (460, i_push 1 1), (461, i_bin (fun x y => x + y)), (462, i_nald 0), (463, i_callV 5 66 1), (466, i_ald 2 1), (467, i_ald 0 1), (468, i_ild 3 1), (469, i_push 1 1), (470, i_bin (fun x y => x + y)), (471, i_nald 0), (472, i_callV 6 115 1), (475, i_icmp (fun x y => x = y) (fun x y => ¬ x = y) 747), (478, i_push 0 1), (479, i_zret), (480, i_ald 1 1), (481, i_ald 0 1)]
def k_La_law_13 : List (Nat × zI) := [(482, i_ild 3 1), (483, i_push 1 1), (484, i_bin (fun x y => x + y)), (485, i_nald 0), (486, i_callV 5 67 1), (489, i_ald 2 1), (490, i_ald 0 1), (491, i_ild 3 1), (492, i_push 1 1), (493, i_bin (fun x y => x + y)), (494, i_nald 0), (495, i_callV 6 116 1), (498, i_icmp (fun x y => x = y) (fun x y => ¬ x = y) 747), (501, i_push 0 1), (502, i_zret), (503, i_ald 1 1), (504, i_ald 0 1), (505, i_ild 3 1), (506, i_push 1 1), (507, i_bin (fun x y => x + y)), (508, i_nald 0), (509, i_callV 5 68 1), (512, i_ald 2 1), (513, i_ald 0 1)]
def k_La_law_14 : List (Nat × zI) := [(514, i_ild 3 1), (515, i_push 1 1), (516, i_bin (fun x y => x + y)), (517, i_nald 0), (518, i_callV 6 117 1), (521, i_icmp (fun x y => x = y) (fun x y => ¬ x = y) 747), (524, i_push 0 1), (525, i_zret), (526, i_ald 1 1), (527, i_ald 0 1), (528, i_ild 3 1), (529, i_push 1 1), (530, i_bin (fun x y => x + y)), (531, i_nald 0), (532, i_callV 5 69 1), (535, i_ald 2 1), (536, i_ald 0 1), (537, i_ild 3 1), (538, i_push 1 1), (539, i_bin (fun x y => x + y)), (540, i_nald 0), (541, i_callV 6 118 1), (544, i_icmp (fun x y => x = y) (fun x y => ¬ x = y) 747), (547, i_push 0 1)]
def k_La_law_15 : List (Nat × zI) := [(548, i_zret), (549, i_ald 1 1), (550, i_ald 0 1), (551, i_ild 3 1), (552, i_push 1 1), (553, i_bin (fun x y => x + y)), (554, i_nald 0), (555, i_ald 0 1), (556, i_ild 3 1), (557, i_push 2 1), (558, i_bin (fun x y => x + y)), (559, i_nald 0), (560, i_callV 5 70 2), (563, i_ald 2 1), (564, i_ald 0 1), (565, i_ild 3 1), (566, i_push 1 1), (567, i_bin (fun x y => x + y)), (568, i_nald 0), (569, i_ald 0 1), (570, i_ild 3 1), (571, i_push 2 1), (572, i_bin (fun x y => x + y)), (573, i_nald 0)]
def k_La_law_16 : List (Nat × zI) := [(574, i_callV 6 119 2), (577, i_icmp (fun x y => x = y) (fun x y => ¬ x = y) 747), (580, i_push 0 1), (581, i_zret), (582, i_ald 1 1), (583, i_ald 0 1), (584, i_ild 3 1), (585, i_push 1 1), (586, i_bin (fun x y => x + y)), (587, i_nald 0), (588, i_callV 5 71 1), (591, i_ald 2 1), (592, i_ald 0 1), (593, i_ild 3 1), (594, i_push 1 1), (595, i_bin (fun x y => x + y)), (596, i_nald 0), (597, i_callV 6 120 1), (600, i_icmp (fun x y => x = y) (fun x y => ¬ x = y) 747), (603, i_push 0 1), (604, i_zret), (605, i_ald 1 1), (606, i_ald 0 1), (607, i_ild 3 1)]
def k_La_law_17 : List (Nat × zI) := [(608, i_push 1 1), (609, i_bin (fun x y => x + y)), (610, i_nald 0), (611, i_callV 5 72 1), (614, i_ald 2 1), (615, i_ald 0 1), (616, i_ild 3 1), (617, i_push 1 1), (618, i_bin (fun x y => x + y)), (619, i_nald 0), (620, i_callV 6 121 1), (623, i_icmp (fun x y => x = y) (fun x y => ¬ x = y) 747), (626, i_push 0 1), (627, i_zret), (628, i_ald 1 1), (629, i_ald 0 1), (630, i_ild 3 1), (631, i_push 1 1), (632, i_bin (fun x y => x + y)), (633, i_nald 0), (634, i_ald 0 1), (635, i_ild 3 1), (636, i_push 2 1), (637, i_bin (fun x y => x + y))]
def k_La_law_18 : List (Nat × zI) := [(638, i_nald 0), (639, i_callV 5 73 2), (642, i_ald 2 1), (643, i_ald 0 1), (644, i_ild 3 1), (645, i_push 1 1), (646, i_bin (fun x y => x + y)), (647, i_nald 0), (648, i_ald 0 1), (649, i_ild 3 1), (650, i_push 2 1), (651, i_bin (fun x y => x + y)), (652, i_nald 0), (653, i_callV 6 122 2), (656, i_icmp (fun x y => x = y) (fun x y => ¬ x = y) 747), (659, i_push 0 1), (660, i_zret), (661, i_ald 1 1), (662, i_ald 0 1), (663, i_ild 3 1), (664, i_push 1 1), (665, i_bin (fun x y => x + y)), (666, i_nald 0), (667, i_ald 0 1)]
def k_La_law_19 : List (Nat × zI) := [(668, i_ild 3 1), (669, i_push 2 1), (670, i_bin (fun x y => x + y)), (671, i_nald 0), (672, i_callV 5 74 2), (675, i_ald 2 1), (676, i_ald 0 1), (677, i_ild 3 1), (678, i_push 1 1), (679, i_bin (fun x y => x + y)), (680, i_nald 0), (681, i_ald 0 1), (682, i_ild 3 1), (683, i_push 2 1), (684, i_bin (fun x y => x + y)), (685, i_nald 0), (686, i_callV 6 123 2), (689, i_icmp (fun x y => x = y) (fun x y => ¬ x = y) 747), (692, i_push 0 1), (693, i_zret), (694, i_ald 1 1), (695, i_ald 0 1), (696, i_ild 3 1), (697, i_push 1 1)]
def k_La_law_20 : List (Nat × zI) := [(698, i_bin (fun x y => x + y)), (699, i_nald 0), (700, i_ald 0 1), (701, i_ild 3 1), (702, i_push 2 1), (703, i_bin (fun x y => x + y)), (704, i_nald 0), (705, i_ald 0 1), (706, i_ild 3 1), (707, i_push 3 1), (708, i_bin (fun x y => x + y)), (709, i_nald 0), (710, i_ald 0 1), (711, i_ild 3 1), (712, i_push 4 1), (713, i_bin (fun x y => x + y)), (714, i_nald 0), (715, i_callV 5 75 4), (718, i_ald 2 1), (719, i_ald 0 1), (720, i_ild 3 1), (721, i_push 1 1), (722, i_bin (fun x y => x + y)), (723, i_nald 0)]
def k_La_law_21 : List (Nat × zI) := [(724, i_ald 0 1), (725, i_ild 3 1), (726, i_push 2 1), (727, i_bin (fun x y => x + y)), (728, i_nald 0), (729, i_ald 0 1), (730, i_ild 3 1), (731, i_push 3 1), (732, i_bin (fun x y => x + y)), (733, i_nald 0), (734, i_ald 0 1), (735, i_ild 3 1), (736, i_push 4 1), (737, i_bin (fun x y => x + y)), (738, i_nald 0), (739, i_callV 6 124 4), (742, i_icmp (fun x y => x = y) (fun x y => ¬ x = y) 747), (745, i_push 0 1), (746, i_zret), (747, i_inc 3 6), (750, i_goto 18), (753, i_push 1 1), (754, i_zret)]
def k_La_law : zCd := [(126, k_La_law_0), (154, k_La_law_1), (184, k_La_law_2), (212, k_La_law_3), (242, k_La_law_4), (272, k_La_law_5), (302, k_La_law_6), (328, k_La_law_7), (356, k_La_law_8), (382, k_La_law_9), (412, k_La_law_10), (448, k_La_law_11), (482, k_La_law_12), (514, k_La_law_13), (548, k_La_law_14), (574, k_La_law_15), (608, k_La_law_16), (638, k_La_law_17), (668, k_La_law_18), (698, k_La_law_19), (724, k_La_law_20), (100000, k_La_law_21)]
def zTab : List zR := [r_Ag_init, r_Ag_begin, r_Ag_copyFrom, r_Ag_isDone, r_Ag_isOwnTurn, r_Ag_writeNext, r_Ag_readNext, r_Ag_tokenAt, r_Ag_partsOfNext, r_Ag_addPart, r_Ag_readKey, r_Ag_closedUp, r_Ag_openedUp, r_Ag_mixKeys, r_Ch_init, r_Ch_setKeys, r_Ch_sendNext, r_Ch_acceptNext, r_Ch_isFresh, r_Me_init, r_Me_isFull, r_Me_has, r_Me_sizeOf, r_Me_partAt, r_Me_addPart, r_Me_finish, r_Se_init, r_Se_writeNext, r_Se_readNext, r_Se_notePayload, r_Se_passTick, r_Se_endAgreement, r_Te_init, r_Te_num, r_Te_pub, r_Te_dh, r_Te_hash, r_Te_chain, r_Te_key, r_Te_half, r_Te_seal, r_Te_isNum, r_Te_isPub, r_Te_isSeal, r_Te_isSealOf, r_Te_valueOf, r_Te_insideOf, r_Te_canWorkOut, r_Te_canOpen, r_Te_makeKey, r_Te_giveAway, r_Te_newest, r_Te_dropBehind, r_Te_make, r_Te_judged, r_Te_bucketOf, r_St_init, r_St_start, r_St_write, r_St_send, r_St_deliver, r_St_splice, r_St_replace, r_St_give, r_St_tick, r_St_state, r_St_steps, r_St_peer, r_St_payload, r_St_accepted, r_St_match, r_St_open, r_St_parts, r_St_sees, r_St_shown, r_St_same, r_St_isStaticKey, r_St_sessionAt, r_St_makeChanged, r_Mo_init, r_Mo_within, r_Mo_term, r_Mo_num, r_Mo_pub, r_Mo_two, r_Mo_workOut, r_Mo_token, r_Mo_last, r_Mo_load, r_Mo_keep, r_Mo_mixHash, r_Mo_agree, r_Mo_addPart, r_Mo_put, r_Mo_nextPart, r_Mo_take, r_Mo_start, r_Mo_isSession, r_Mo_isDone, r_Mo_writes, r_Mo_newMessage, r_Mo_write, r_Mo_fetch, r_Mo_run, r_Mo_took, r_Mo_reads, r_Mo_accepts, r_Mo_deliver, r_Mo_send, r_Mo_isPart, r_Mo_splice, r_Mo_replace, r_Mo_give, r_Mo_tick, r_Mo_state, r_Mo_steps, r_Mo_peer, r_Mo_payload, r_Mo_accepted, r_Mo_match, r_Mo_open, r_Mo_parts, r_Mo_sees, r_Mo_shown, r_Mo_same]
end
section
/-! The small machine's cells in the great one's heap: the cell of place k lies at b + k, b the heap's size at the law's entry. -/
abbrev zG : Type := va_G × (Nat → ClassId) × (Nat × Nat × Nat) × (Nat × (Nat → Int32))
abbrev g_D (g : zG) : va_G := g.1
abbrev g_A (g : zG) : Nat → ClassId := g.2.1
abbrev g_b (g : zG) : Nat := g.2.2.1.1
abbrev g_s (g : zG) : Nat := g.2.2.1.2.1
abbrev g_t (g : zG) : Nat := g.2.2.1.2.2
abbrev g_n (g : zG) : Nat := g.2.2.2.1
abbrev g_x (g : zG) : Nat → Int32 := g.2.2.2.2
def z_tr (g : zG) (v : Value) : Value := match v with
  | .ref i => .ref (g_b g + i)
  | .retAddr k => .ref (if k = 0 then g_s g else g_t g)
  | v => v
theorem z_tr_cat (g : zG) (v : Value) : (z_tr g v).category = v.category := by cases v <;> rfl
def z_ar (g : zG) (a : vp_A) : vp_A := match a with
  | (n, .inr (.inr (.inr (.inr f)))) => (n, .inr (.inr (.inr (.inr (fun j => (f j).map (fun x => g_b g + x))))))
  | a => a
def z_ce (g : zG) (e : va_E) : va_E := match e with
  | .inl a => .inl (g_A g a.1, z_ar g a.2)
  | .inr o => .inr (o.1, o.2.map (z_tr g))
def z_ws (g : zG) (h : zH) : va_W := (List.range h.2).map (fun k => (g_b g + k, z_ce g (h.1 k)))
def z_A (g : zG) : Nat → Prop := fun q => g_b g ≤ q
def z_tys (g : zG) : List (ClassId × FieldType) := [(g_A g 0, .int), (g_A g 1, .boolean), (g_A g 2, .byte), (g_A g 3, .short), (g_A g 4, .object z_RS)]
theorem z_ws_at {g : zG} {h : zH} {k : Nat} (hk : k < h.2) : (z_ws g h)[k]? = some (g_b g + k, z_ce g (h.1 k)) := by
  simp [z_ws, hk]
theorem z_ws_len (g : zG) (h : zH) : (z_ws g h).length = h.2 := by simp [z_ws]
theorem z_ws_set {g : zG} {h : zH} {k : Nat} (e : va_E) (hk : k < h.2) : (z_ws g h).set k (g_b g + k, z_ce g e) = z_ws g (va_up h.1 k e, h.2) := by
  apply List.ext_getElem?
  intro j
  by_cases hj : j < h.2
  · rw [z_ws_at (h := (va_up h.1 k e, h.2)) hj]
    by_cases hjk : k = j
    · subst hjk
      rw [List.getElem?_set_self (by rw [z_ws_len]; exact hk)]
      simp [va_up]
    · rw [List.getElem?_set_ne hjk, z_ws_at hj]
      simp [va_up, Ne.symm hjk]
  · rw [List.getElem?_eq_none (by rw [List.length_set, z_ws_len]; omega), List.getElem?_eq_none (by rw [z_ws_len]; show h.2 ≤ j; omega)]
theorem z_ws_push {g : zG} {h : zH} (e : va_E) : z_ws g h ++ [(g_b g + h.2, z_ce g e)] = z_ws g (va_up h.1 h.2 e, h.2 + 1) := by
  unfold z_ws
  rw [List.range_succ, List.map_append]
  congr 1
  · apply List.map_congr_left
    intro k hk
    have : k < h.2 := List.mem_range.mp hk
    simp [va_up, Nat.ne_of_lt this]
  · simp [va_up]
theorem z_dis (g : zG) (h : zH) : va_D (z_A g) (z_ws g h) := by
  have key : ∀ (k : Nat) (q : Nat × va_E), (z_ws g h)[k]? = some q → k < h.2 ∧ q.1 = g_b g + k := by
    intro k q hq
    have hk : k < h.2 := by
      have := (List.getElem?_eq_some_iff.mp hq).1
      rw [z_ws_len] at this
      exact this
    rw [z_ws_at hk] at hq
    cases hq
    exact ⟨hk, rfl⟩
  refine ⟨fun i j x y hi hj hxy => ?_, fun k q hk => ?_⟩
  · have h1 := (key i x hi).2
    have h2 := (key j y hj).2
    omega
  · have h1 := (key k q hk).2
    show g_b g ≤ q.1
    omega
theorem z_isN_on {w : Cond} (h : z_isN w = true) : w.onTables = true := by
  cases w <;> first | rfl | exact Bool.noConfusion h
theorem z_isN_warm {w : Cond} (h : z_isN w = true) {s U : State} (hW : s.WarmedH U.vm) (hZ : va_Nw w s) : va_Nw w U := by
  cases w <;> first | exact va_Nw.warmF hW hZ | exact va_Nw.warmM hW hZ | exact Bool.noConfusion h
/-- what the tables say, wherever we are -/
def z_Ws (g : zG) (U : State) : Prop := va_K (g_D g) vwCl (z_tys g) U ∧ (∀ w ∈ z_NW, va_Nw w U) ∧ va_AO z_RS U
/-- what lies outside: the tokens, the script -/
def z_Wx (g : zG) (U : State) (H : Heap) : Prop := va_Z z_RA "TOKENS" "[I" (.ref (g_t g)) (z_A g) U H ∧ va_T .int (g_t g) 20 (fun j => .int (z_tok j)) (z_A g) U H ∧ va_X (g_s g) (g_n g) (g_x g) U H ∧ g_s g < g_b g
/-- what lies inside -/
def z_Wh (g : zG) (h : zH) (H : Heap) : Prop := H.size = g_b g + h.2 ∧ va_P (g_D g) vwCl (z_ws g h) H ∧ ∀ a : Nat, h.2 ≤ a → h.1 a = z_def
def z_W (g : zG) (h : zH) (U : State) : Prop := z_Ws g U ∧ z_Wx g U U.heap ∧ z_Wh g h U.heap
theorem z_Ws.warm {g : zG} {s U : State} (hW : s.WarmedH U.vm) (h : z_Ws g s) : z_Ws g U :=
  ⟨va_K.moved hW.alike h.1, fun w hw => z_isN_warm (z_NW_is w hw) hW (h.2.1 w hw), va_AO.moved hW.alike h.2.2⟩
theorem z_Ws.same {g : zG} {s U : State} (hv : s.vm = U.vm) (h : z_Ws g s) : z_Ws g U :=
  ⟨va_K.moved (by rw [hv]; exact Vm.Alike.refl _) h.1, fun w hw => va_Nw.same (z_isN_on (z_NW_is w hw)) hv (h.2.1 w hw), va_AO.moved (by rw [hv]; exact Vm.Alike.refl _) h.2.2⟩
theorem z_Wx.moved {g : zG} {s U : State} {H : Heap} (hv : s.vm.Alike U.vm) (h : z_Wx g s H) : z_Wx g U H :=
  ⟨va_Z.moved hv h.1, va_T.moved hv h.2.1, va_X.moved hv h.2.2.1, h.2.2.2⟩
theorem z_Wx.kept {g : zG} {s : State} {H H1 : Heap} (hb : g_b g ≤ H.size) (hq : ∀ a : Nat, a < H.size → ¬ z_A g a → H1[a]? = H[a]?) (h : z_Wx g s H) : z_Wx g s H1 :=
  ⟨h.1.kept hq, h.2.1.kept hq, h.2.2.1.kept (hq _ (Nat.lt_of_lt_of_le h.2.2.2 hb) (Nat.not_le.mpr h.2.2.2)), h.2.2.2⟩
/-- locals -/
def z_lr (g : zG) (ls : Array Slot) (L : zLc) (nL : Nat) : Prop := ls.size = nL ∧ L.length = nL ∧ lv_wf ls ∧ ∀ (i : Nat) (v : Value), L[i]? = some (some v) → v.category = 1 ∧ ls[i]? = some (.val (z_tr g v))
def z_lv (g : zG) : Nat → zLc → List (Nat × Value)
  | _, [] => []
  | k, none :: r => z_lv g (k + 1) r
  | k, some v :: r => (k, z_tr g v) :: z_lv g (k + 1) r
theorem z_lv_mem (g : zG) : ∀ (L : zLc) (k i : Nat) (v : Value), L[i]? = some (some v) → (k + i, z_tr g v) ∈ z_lv g k L
  | [], _, i, v, h => by simp at h
  | a :: L, k, 0, v, h => by
    rw [List.getElem?_cons_zero] at h
    cases h
    exact List.mem_cons_self
  | a :: L, k, i + 1, v, h => by
    rw [List.getElem?_cons_succ] at h
    have := z_lv_mem g L (k + 1) i v h
    rw [show k + (i + 1) = k + 1 + i by omega]
    cases a with
    | none => exact this
    | some w => exact List.mem_cons_of_mem _ this
theorem z_lv_of (g : zG) : ∀ (L : zLc) (k : Nat) (q : Nat × Value), q ∈ z_lv g k L → ∃ (i : Nat) (v : Value), L[i]? = some (some v) ∧ q = (k + i, z_tr g v)
  | [], _, q, h => by cases h
  | none :: L, k, q, h => by
    obtain ⟨i, v, h1, h2⟩ := z_lv_of g L (k + 1) q h
    exact ⟨i + 1, v, by rw [List.getElem?_cons_succ]; exact h1, by rw [h2]; congr 1; omega⟩
  | some w :: L, k, q, h => by
    rcases List.mem_cons.mp h with h | h
    · exact ⟨0, w, rfl, h⟩
    · obtain ⟨i, v, h1, h2⟩ := z_lv_of g L (k + 1) q h
      exact ⟨i + 1, v, by rw [List.getElem?_cons_succ]; exact h1, by rw [h2]; congr 1; omega⟩
theorem z_lr.has {g : zG} {ls : Array Slot} {L : zLc} {nL : Nat} (h : z_lr g ls L nL) : lv_has ls nL (z_lv g 0 L) := by
  refine ⟨h.1, h.2.2.1, fun q hq => ?_⟩
  obtain ⟨i, v, h1, h2⟩ := z_lv_of g L 0 q hq
  rw [h2, Nat.zero_add]
  exact (h.2.2.2 i v h1).2
theorem z_lr.put {g : zG} {ls ls' : Array Slot} {L : zLc} {nL i : Nat} {v : Value} (h : z_lr g ls L nL) (hv : v.category = 1)
    (h' : lv_has ls' nL ((i, z_tr g v) :: (z_lv g 0 L).filter (fun q => !(q.1 == i) && !(q.1 + 1 == i && q.2.category == 2)))) : z_lr g ls' (L.set i (some v)) nL := by
  refine ⟨h'.1, by rw [List.length_set]; exact h.2.1, h'.2.1, fun j w hj => ?_⟩
  by_cases hji : i = j
  · subst hji
    have hl : i < L.length := by
      have := (List.getElem?_eq_some_iff.mp hj).1
      rw [List.length_set] at this
      exact this
    rw [List.getElem?_set_self hl] at hj
    cases hj
    exact ⟨hv, h'.2.2 _ List.mem_cons_self⟩
  · rw [List.getElem?_set_ne hji] at hj
    have hw := (h.2.2.2 j w hj).1
    refine ⟨hw, h'.2.2 (j, z_tr g w) (List.mem_cons_of_mem _ (List.mem_filter.mpr ⟨?_, ?_⟩))⟩
    · have := z_lv_mem g L 0 j w hj
      rw [Nat.zero_add] at this
      exact this
    · simp [Ne.symm hji, z_tr_cat, hw]
/-- the rooms -/
def z_rm (d mc ms : Nat) : Room := { frames := d, cells := mc, slots := ms, locals := d * 43 }
def z_cw (r : zR) : Cond := .code r.1 r.2.1 r.2.2.1 r.2.2.2.1
def z_Q (g : zG) (P : zP) : Array Value → State → Outcome → State → Prop := fun _ st o t => (∃ (r : Option Value) (h : zH), P r h ∧ o = .returned (r.map (z_tr g)) ∧ z_W g h t) ∧ va_F (z_A g) st t
/-- the callees of depth d keep their contracts -/
def z_ok (tab : List zR) (g : zG) (l : Launch) (d : Nat) : Prop := ∀ (mi : Nat) (as : List Value) (h : zH) (mc ms : Nat) (P : zP) (r : zR), zMt tab (g_n g, g_x g) d mi as h mc ms P → tab[mi]? = some r →
  Met l r.1 (z_cw r :: z_WS) (z_rm d mc ms) (va_Pc (as.map (z_tr g)) (z_W g h)) (z_Q g P) mc ms (z_A g)
def z_cx (tab : List zR) (g : zG) (d : Nat) (p : Program) (l : Launch) (e : Env) (R : Room) (s : State) (m : MethodId) (args : Array Value) (below : List Frame) (meth : Method) (c : Code) (cc : ByteArray) (own : String) (nL : Nat) : Prop := p.tables.exec = Jvm.exec ∧ c.code = cc ∧ c.maxLocals = nL ∧ s.vm.findClass own = some m.cls ∧ (∀ w ∈ z_WS, w.before args s = true) ∧ z_Ws g s ∧ z_Wx g s s.heap ∧ g_b g ≤ s.heap.size ∧ d + 1 ≤ R.frames ∧ (d + 1) * 43 ≤ R.locals ∧ z_ok tab g l d
def z_R (g : zG) (R : Room) (s : State) (nL : Nat) (L : zLc) (h : zH) (uc us : Nat) (H : Heap) (locs : List Loc) (ls : Array Slot) : Prop := z_Wh g h H ∧ va_S (z_A g) s.heap H locs ∧ z_lr g ls L nL ∧ uc ≤ R.cells ∧ us ≤ R.slots
def z_X (g : zG) (p : Program) (l : Launch) (e : Env) (R : Room) (s : State) (m : MethodId) (args : Array Value) (below : List Frame) (meth : Method) (c : Code) (Q : State → Prop) (nL : Nat) (q : zC) : Prop := ∀ (H : Heap) (locs : List Loc) (ls : Array Slot), z_R g R s nL q.2.1 q.2.2.2.1 q.2.2.2.2.1 q.2.2.2.2.2 H locs ls → W p l e R s m args below meth c H locs q.2.2.2.2.1 q.2.2.2.2.2 Q (F0 m q.1 ls (q.2.2.1.map (z_tr g)))
def z_sn (tab : List zR) (g : zG) (d : Nat) (p : Program) (l : Launch) (e : Env) (R : Room) (s : State) (m : MethodId) (args : Array Value) (below : List Frame) (meth : Method) (c : Code) (Q : State → Prop) (nL : Nat) (P : zP) (q : Nat × zI) : Prop := ∀ (L : zLc) (st : List Value) (h : zH) (uc us : Nat) (Y : zC → Prop), q.2 (zMt tab (g_n g, g_x g) d, (R.cells, R.slots), (g_n g, g_x g)) (q.1, L, st, h, uc, us) Y P → (∀ c', Y c' → z_X g p l e R s m args below meth c Q nL c') → z_X g p l e R s m args below meth c Q nL (q.1, L, st, h, uc, us)
/-- the end of a method, by the kind of its answer -/
def z_end (g : zG) (p : Program) (l : Launch) (e : Env) (R : Room) (s : State) (m : MethodId) (args : Array Value) (below : List Frame) (meth : Method) (c : Code) (Q : State → Prop) (cc : ByteArray) (P : zP) (op : Instr) (ok : Option Value → Prop) : Prop := ∀ (r : Option Value) (h : zH) (uc us : Nat) (H : Heap) (locs : List Loc) (ls : Array Slot) (pc : Nat), ok r → P r h → z_Wh g h H → va_S (z_A g) s.heap H locs → uc ≤ R.cells → us ≤ R.slots → decode cc pc = .ok (op, 1) → W p l e R s m args below meth c H locs uc us Q (F0 m pc ls (r.toList.map (z_tr g)))
end
section
/-! Each instruction of the small machine is one of the great one's: from the kit's rows. -/
section ZS1
variable {tab : List zR} {g : zG} {d : Nat} {p : Program} {l : Launch} {e : Env} {R : Room} {s : State} {m : MethodId} {args : Array Value} {below : List Frame} {meth : Method} {c : Code} {Q : State → Prop} {cc : ByteArray} {own : String} {nL : Nat} {P : zP} {pc : Nat}
theorem S_push (cx : z_cx tab g d p l e R s m args below meth c cc own nL) {n : Int} {v : Int32} (hd : decode cc pc = .ok (.iconst n, 1)) (hv : Int32.ofInt n = v) : z_sn tab g d p l e R s m args below meth c Q nL P (pc, i_push v 1) := by
  intro L st h uc us Y hi hY H locs ls hR
  dsimp only at hi hR ⊢
  exact lv_iconst cx.1 cx.2.1 hd hv (hY _ hi H locs ls hR)
theorem S_bipush (cx : z_cx tab g d p l e R s m args below meth c cc own nL) {n : Int} {v : Int32} (hd : decode cc pc = .ok (.bipush n, 2)) (hv : (Int8.ofInt n).toInt32 = v) : z_sn tab g d p l e R s m args below meth c Q nL P (pc, i_push v 2) := by
  intro L st h uc us Y hi hY H locs ls hR
  dsimp only at hi hR ⊢
  exact lv_bipush cx.1 cx.2.1 hd hv (hY _ hi H locs ls hR)
theorem S_sipush (cx : z_cx tab g d p l e R s m args below meth c cc own nL) {n : Int} {v : Int32} (hd : decode cc pc = .ok (.sipush n, 3)) (hv : (Int16.ofInt n).toInt32 = v) : z_sn tab g d p l e R s m args below meth c Q nL P (pc, i_push v 3) := by
  intro L st h uc us Y hi hY H locs ls hR
  dsimp only at hi hR ⊢
  exact lv_sipush cx.1 cx.2.1 hd hv (hY _ hi H locs ls hR)
theorem S_null (cx : z_cx tab g d p l e R s m args below meth c cc own nL) (hd : decode cc pc = .ok (.aconst_null, 1)) : z_sn tab g d p l e R s m args below meth c Q nL P (pc, i_null) := by
  intro L st h uc us Y hi hY H locs ls hR
  dsimp only at hi hR ⊢
  exact lv_null cx.1 cx.2.1 hd (hY _ hi H locs ls hR)
theorem z_ild {E : zE} {L : zLc} {st : List Value} {k : zH × Nat × Nat} {Y : zC → Prop} {i n : Nat} (h : i_ild i n E (pc, L, st, k) Y P) : ∃ v : Int32, L[i]? = some (some (.int v)) ∧ Y (pc + n, L, .int v :: st, k) := by
  unfold i_ild at h
  dsimp only at h
  split at h
  · next v hv => exact ⟨v, hv, h⟩
  · exact h.elim
theorem S_iload (cx : z_cx tab g d p l e R s m args below meth c cc own nL) {i : Nat} (hd : decode cc pc = .ok (.iload i, 2)) : z_sn tab g d p l e R s m args below meth c Q nL P (pc, i_ild i 2) := by
  intro L st h uc us Y hi hY H locs ls hR
  dsimp only at hi hR ⊢
  obtain ⟨v, hv, hi⟩ := z_ild hi
  exact lv_iload cx.1 cx.2.1 hd (hR.2.2.1.2.2.2 _ _ hv).2 (hY _ hi H locs ls hR)
theorem S_iload_n (cx : z_cx tab g d p l e R s m args below meth c cc own nL) {k : Fin 4} {i : Nat} (hd : decode cc pc = .ok (.iload_n k, 1)) (hk : (k : Nat) = i) : z_sn tab g d p l e R s m args below meth c Q nL P (pc, i_ild i 1) := by
  intro L st h uc us Y hi hY H locs ls hR
  dsimp only at hi hR ⊢
  obtain ⟨v, hv, hi⟩ := z_ild hi
  exact lv_iload_n cx.1 cx.2.1 hd hk (hR.2.2.1.2.2.2 _ _ hv).2 (hY _ hi H locs ls hR)
theorem z_ald {E : zE} {L : zLc} {st : List Value} {k : zH × Nat × Nat} {Y : zC → Prop} {i n : Nat} (h : i_ald i n E (pc, L, st, k) Y P) : ∃ v : Value, L[i]? = some (some v) ∧ (v = .null ∨ ∃ a, z_tr g v = .ref a) ∧ Y (pc + n, L, v :: st, k) := by
  unfold i_ald at h
  dsimp only at h
  split at h
  · next v hv => exact ⟨_, hv, Or.inr ⟨_, rfl⟩, h⟩
  · next v hv => exact ⟨_, hv, Or.inr ⟨_, rfl⟩, h⟩
  · next hv => exact ⟨_, hv, Or.inl rfl, h⟩
  · exact h.elim
theorem S_aload (cx : z_cx tab g d p l e R s m args below meth c cc own nL) {i : Nat} (hd : decode cc pc = .ok (.aload i, 2)) : z_sn tab g d p l e R s m args below meth c Q nL P (pc, i_ald i 2) := by
  intro L st h uc us Y hi hY H locs ls hR
  dsimp only at hi hR ⊢
  obtain ⟨v, hv, hc, hi⟩ := z_ald (g := g) hi
  have h1 := (hR.2.2.1.2.2.2 _ _ hv).2
  have h2 := hY _ hi H locs ls hR
  rcases hc with rfl | ⟨a, ha⟩
  · exact lv_aloadN cx.1 cx.2.1 hd h1 h2
  · rw [ha] at h1
    refine lv_aload cx.1 cx.2.1 hd h1 ?_
    rw [← ha]
    exact h2
theorem S_aload_n (cx : z_cx tab g d p l e R s m args below meth c cc own nL) {k : Fin 4} {i : Nat} (hd : decode cc pc = .ok (.aload_n k, 1)) (hk : (k : Nat) = i) : z_sn tab g d p l e R s m args below meth c Q nL P (pc, i_ald i 1) := by
  intro L st h uc us Y hi hY H locs ls hR
  dsimp only at hi hR ⊢
  obtain ⟨v, hv, hc, hi⟩ := z_ald (g := g) hi
  have h1 := (hR.2.2.1.2.2.2 _ _ hv).2
  have h2 := hY _ hi H locs ls hR
  rcases hc with rfl | ⟨a, ha⟩
  · exact lv_aload_nN cx.1 cx.2.1 hd hk h1 h2
  · rw [ha] at h1
    refine lv_aload_n cx.1 cx.2.1 hd hk h1 ?_
    rw [← ha]
    exact h2
theorem S_istore (cx : z_cx tab g d p l e R s m args below meth c cc own nL) {i : Nat} (hn : i < nL) (hd : decode cc pc = .ok (.istore i, 2)) : z_sn tab g d p l e R s m args below meth c Q nL P (pc, i_ist i 2) := by
  intro L st h uc us Y hi hY H locs ls hR
  dsimp only at hi hR ⊢
  unfold i_ist at hi
  dsimp only at hi
  split at hi
  · next v r => exact lv_istore cx.1 cx.2.1 hd hR.2.2.1.has hn rfl (fun ls' h' => hY _ hi H locs ls' ⟨hR.1, hR.2.1, hR.2.2.1.put (v := .int v) rfl h', hR.2.2.2⟩)
  · exact hi.elim
theorem S_istore_n (cx : z_cx tab g d p l e R s m args below meth c cc own nL) {k : Fin 4} {i : Nat} (hn : i < nL) (hd : decode cc pc = .ok (.istore_n k, 1)) (hk : (k : Nat) = i) : z_sn tab g d p l e R s m args below meth c Q nL P (pc, i_ist i 1) := by
  intro L st h uc us Y hi hY H locs ls hR
  dsimp only at hi hR ⊢
  unfold i_ist at hi
  dsimp only at hi
  split at hi
  · next v r => exact lv_istore_n cx.1 cx.2.1 hd hk hR.2.2.1.has hn rfl (fun ls' h' => hY _ hi H locs ls' ⟨hR.1, hR.2.1, hR.2.2.1.put (v := .int v) rfl h', hR.2.2.2⟩)
  · exact hi.elim
theorem S_astore (cx : z_cx tab g d p l e R s m args below meth c cc own nL) {i : Nat} (hn : i < nL) (hd : decode cc pc = .ok (.astore i, 2)) : z_sn tab g d p l e R s m args below meth c Q nL P (pc, i_ast i 2) := by
  intro L st h uc us Y hi hY H locs ls hR
  dsimp only at hi hR ⊢
  unfold i_ast at hi
  dsimp only at hi
  split at hi
  · next v r => exact lv_astore cx.1 cx.2.1 hd hR.2.2.1.has hn rfl (fun ls' h' => hY _ hi H locs ls' ⟨hR.1, hR.2.1, hR.2.2.1.put (v := .ref v) rfl h', hR.2.2.2⟩)
  · next r => exact lv_astoreN cx.1 cx.2.1 hd hR.2.2.1.has hn rfl (fun ls' h' => hY _ hi H locs ls' ⟨hR.1, hR.2.1, hR.2.2.1.put (v := .null) rfl h', hR.2.2.2⟩)
  · exact hi.elim
theorem S_astore_n (cx : z_cx tab g d p l e R s m args below meth c cc own nL) {k : Fin 4} {i : Nat} (hn : i < nL) (hd : decode cc pc = .ok (.astore_n k, 1)) (hk : (k : Nat) = i) : z_sn tab g d p l e R s m args below meth c Q nL P (pc, i_ast i 1) := by
  intro L st h uc us Y hi hY H locs ls hR
  dsimp only at hi hR ⊢
  unfold i_ast at hi
  dsimp only at hi
  split at hi
  · next v r => exact lv_astore_n cx.1 cx.2.1 hd hk hR.2.2.1.has hn rfl (fun ls' h' => hY _ hi H locs ls' ⟨hR.1, hR.2.1, hR.2.2.1.put (v := .ref v) rfl h', hR.2.2.2⟩)
  · next r => exact lv_astore_nN cx.1 cx.2.1 hd hk hR.2.2.1.has hn rfl (fun ls' h' => hY _ hi H locs ls' ⟨hR.1, hR.2.1, hR.2.2.1.put (v := .null) rfl h', hR.2.2.2⟩)
  · exact hi.elim
theorem S_iinc (cx : z_cx tab g d p l e R s m args below meth c cc own nL) {i : Nat} {n : Int} {k : Int32} (hn : i < nL) (hd : decode cc pc = .ok (.iinc i n, 3)) (hk : Int32.ofInt n = k) : z_sn tab g d p l e R s m args below meth c Q nL P (pc, i_inc i k) := by
  intro L st h uc us Y hi hY H locs ls hR
  dsimp only at hi hR ⊢
  unfold i_inc at hi
  dsimp only at hi
  split at hi
  · next v hv =>
    have hm := z_lv_mem g L 0 i (.int v) hv
    rw [Nat.zero_add] at hm
    obtain ⟨j, hj⟩ := List.getElem?_of_mem hm
    subst hk
    exact lv_iinc cx.1 cx.2.1 hd hR.2.2.1.has hj rfl hn rfl (fun ls' h' => hY _ hi H locs ls' ⟨hR.1, hR.2.1, hR.2.2.1.put (v := .int (v + Int32.ofInt n)) rfl h', hR.2.2.2⟩)
  · exact hi.elim
theorem z_bin {E : zE} {L : zLc} {st : List Value} {k : zH × Nat × Nat} {Y : zC → Prop} {f : Int32 → Int32 → Int32} (h : i_bin f E (pc, L, st, k) Y P) : ∃ (x y : Int32) (r : List Value), st = .int y :: .int x :: r ∧ Y (pc + 1, L, .int (f x y) :: r, k) := by
  unfold i_bin at h
  dsimp only at h
  split at h
  · next y x r => exact ⟨x, y, r, rfl, h⟩
  · exact h.elim
theorem S_iadd (cx : z_cx tab g d p l e R s m args below meth c cc own nL) (hd : decode cc pc = .ok (.iadd, 1)) : z_sn tab g d p l e R s m args below meth c Q nL P (pc, i_bin (fun x y => x + y)) := by
  intro L st h uc us Y hi hY H locs ls hR
  dsimp only at hi hR ⊢
  obtain ⟨x, y, r, rfl, hi⟩ := z_bin hi
  exact lv_iadd cx.1 cx.2.1 hd (hY _ hi H locs ls hR)
theorem S_isub (cx : z_cx tab g d p l e R s m args below meth c cc own nL) (hd : decode cc pc = .ok (.isub, 1)) : z_sn tab g d p l e R s m args below meth c Q nL P (pc, i_bin (fun x y => x - y)) := by
  intro L st h uc us Y hi hY H locs ls hR
  dsimp only at hi hR ⊢
  obtain ⟨x, y, r, rfl, hi⟩ := z_bin hi
  exact lv_isub cx.1 cx.2.1 hd (hY _ hi H locs ls hR)
theorem S_imul (cx : z_cx tab g d p l e R s m args below meth c cc own nL) (hd : decode cc pc = .ok (.imul, 1)) : z_sn tab g d p l e R s m args below meth c Q nL P (pc, i_bin (fun x y => x * y)) := by
  intro L st h uc us Y hi hY H locs ls hR
  dsimp only at hi hR ⊢
  obtain ⟨x, y, r, rfl, hi⟩ := z_bin hi
  exact lv_imul cx.1 cx.2.1 hd (hY _ hi H locs ls hR)
theorem S_iand (cx : z_cx tab g d p l e R s m args below meth c cc own nL) (hd : decode cc pc = .ok (.iand, 1)) : z_sn tab g d p l e R s m args below meth c Q nL P (pc, i_bin (fun x y => x &&& y)) := by
  intro L st h uc us Y hi hY H locs ls hR
  dsimp only at hi hR ⊢
  obtain ⟨x, y, r, rfl, hi⟩ := z_bin hi
  exact lv_iand cx.1 cx.2.1 hd (hY _ hi H locs ls hR)
theorem S_ior (cx : z_cx tab g d p l e R s m args below meth c cc own nL) (hd : decode cc pc = .ok (.ior, 1)) : z_sn tab g d p l e R s m args below meth c Q nL P (pc, i_bin (fun x y => x ||| y)) := by
  intro L st h uc us Y hi hY H locs ls hR
  dsimp only at hi hR ⊢
  obtain ⟨x, y, r, rfl, hi⟩ := z_bin hi
  exact lv_ior cx.1 cx.2.1 hd (hY _ hi H locs ls hR)
theorem S_ixor (cx : z_cx tab g d p l e R s m args below meth c cc own nL) (hd : decode cc pc = .ok (.ixor, 1)) : z_sn tab g d p l e R s m args below meth c Q nL P (pc, i_bin (fun x y => x ^^^ y)) := by
  intro L st h uc us Y hi hY H locs ls hR
  dsimp only at hi hR ⊢
  obtain ⟨x, y, r, rfl, hi⟩ := z_bin hi
  exact lv_ixor cx.1 cx.2.1 hd (hY _ hi H locs ls hR)
theorem S_ishl (cx : z_cx tab g d p l e R s m args below meth c cc own nL) (hd : decode cc pc = .ok (.ishl, 1)) : z_sn tab g d p l e R s m args below meth c Q nL P (pc, i_bin (fun x y => x <<< (y &&& 31))) := by
  intro L st h uc us Y hi hY H locs ls hR
  dsimp only at hi hR ⊢
  obtain ⟨x, y, r, rfl, hi⟩ := z_bin hi
  exact lv_ishl cx.1 cx.2.1 hd (hY _ hi H locs ls hR)
theorem S_ishr (cx : z_cx tab g d p l e R s m args below meth c cc own nL) (hd : decode cc pc = .ok (.ishr, 1)) : z_sn tab g d p l e R s m args below meth c Q nL P (pc, i_bin (fun x y => x >>> (y &&& 31))) := by
  intro L st h uc us Y hi hY H locs ls hR
  dsimp only at hi hR ⊢
  obtain ⟨x, y, r, rfl, hi⟩ := z_bin hi
  exact lv_ishr cx.1 cx.2.1 hd (hY _ hi H locs ls hR)
theorem S_iushr (cx : z_cx tab g d p l e R s m args below meth c cc own nL) (hd : decode cc pc = .ok (.iushr, 1)) : z_sn tab g d p l e R s m args below meth c Q nL P (pc, i_bin (fun x y => (x.toUInt32 >>> (y.toUInt32 &&& Int32.toUInt32 31)).toInt32)) := by
  intro L st h uc us Y hi hY H locs ls hR
  dsimp only at hi hR ⊢
  obtain ⟨x, y, r, rfl, hi⟩ := z_bin hi
  exact lv_iushr cx.1 cx.2.1 hd rfl (hY _ hi H locs ls hR)
theorem z_div {E : zE} {L : zLc} {st : List Value} {k : zH × Nat × Nat} {Y : zC → Prop} {f : Int32 → Int32 → Int32} (h : i_div f E (pc, L, st, k) Y P) : ∃ (x y : Int32) (r : List Value), st = .int y :: .int x :: r ∧ ¬ y = 0 ∧ Y (pc + 1, L, .int (f x y) :: r, k) := by
  unfold i_div at h
  dsimp only at h
  split at h
  · next y x r => exact ⟨x, y, r, rfl, h.1, h.2⟩
  · exact h.elim
theorem S_idiv (cx : z_cx tab g d p l e R s m args below meth c cc own nL) (hd : decode cc pc = .ok (.idiv, 1)) : z_sn tab g d p l e R s m args below meth c Q nL P (pc, i_div (fun x y => x / y)) := by
  intro L st h uc us Y hi hY H locs ls hR
  dsimp only at hi hR ⊢
  obtain ⟨x, y, r, rfl, hne, hi⟩ := z_div hi
  exact lv_idiv cx.1 cx.2.1 hd hne (hY _ hi H locs ls hR)
theorem S_irem (cx : z_cx tab g d p l e R s m args below meth c cc own nL) (hd : decode cc pc = .ok (.irem, 1)) : z_sn tab g d p l e R s m args below meth c Q nL P (pc, i_div (fun x y => x - x / y * y)) := by
  intro L st h uc us Y hi hY H locs ls hR
  dsimp only at hi hR ⊢
  obtain ⟨x, y, r, rfl, hne, hi⟩ := z_div hi
  exact lv_irem cx.1 cx.2.1 hd hne (hY _ hi H locs ls hR)
theorem z_un {E : zE} {L : zLc} {st : List Value} {k : zH × Nat × Nat} {Y : zC → Prop} {f : Int32 → Int32} (h : i_un f E (pc, L, st, k) Y P) : ∃ (x : Int32) (r : List Value), st = .int x :: r ∧ Y (pc + 1, L, .int (f x) :: r, k) := by
  unfold i_un at h
  dsimp only at h
  split at h
  · next x r => exact ⟨x, r, rfl, h⟩
  · exact h.elim
theorem S_i2b (cx : z_cx tab g d p l e R s m args below meth c cc own nL) (hd : decode cc pc = .ok (.i2b, 1)) : z_sn tab g d p l e R s m args below meth c Q nL P (pc, i_un (fun x => x.toInt8.toInt32)) := by
  intro L st h uc us Y hi hY H locs ls hR
  dsimp only at hi hR ⊢
  obtain ⟨x, r, rfl, hi⟩ := z_un hi
  exact lv_i2b cx.1 cx.2.1 hd rfl (hY _ hi H locs ls hR)
theorem S_i2s (cx : z_cx tab g d p l e R s m args below meth c cc own nL) (hd : decode cc pc = .ok (.i2s, 1)) : z_sn tab g d p l e R s m args below meth c Q nL P (pc, i_un (fun x => x.toInt16.toInt32)) := by
  intro L st h uc us Y hi hY H locs ls hR
  dsimp only at hi hR ⊢
  obtain ⟨x, r, rfl, hi⟩ := z_un hi
  exact lv_i2s cx.1 cx.2.1 hd rfl (hY _ hi H locs ls hR)
theorem S_dup (cx : z_cx tab g d p l e R s m args below meth c cc own nL) (hd : decode cc pc = .ok (.dup, 1)) : z_sn tab g d p l e R s m args below meth c Q nL P (pc, i_dup) := by
  intro L st h uc us Y hi hY H locs ls hR
  dsimp only at hi hR ⊢
  unfold i_dup at hi
  dsimp only at hi
  split at hi
  · exact lv_dup cx.1 cx.2.1 hd (by rw [z_tr_cat]; exact hi.1) (hY _ hi.2 H locs ls hR)
  · exact hi.elim
theorem S_pop (cx : z_cx tab g d p l e R s m args below meth c cc own nL) (hd : decode cc pc = .ok (.pop, 1)) : z_sn tab g d p l e R s m args below meth c Q nL P (pc, i_pop) := by
  intro L st h uc us Y hi hY H locs ls hR
  dsimp only at hi hR ⊢
  unfold i_pop at hi
  dsimp only at hi
  split at hi
  · exact lv_pop cx.1 cx.2.1 hd (by rw [z_tr_cat]; exact hi.1) (hY _ hi.2 H locs ls hR)
  · exact hi.elim
theorem S_dupx1 (cx : z_cx tab g d p l e R s m args below meth c cc own nL) (hd : decode cc pc = .ok (.dup_x1, 1)) : z_sn tab g d p l e R s m args below meth c Q nL P (pc, i_dupx1) := by
  intro L st h uc us Y hi hY H locs ls hR
  dsimp only at hi hR ⊢
  unfold i_dupx1 at hi
  dsimp only at hi
  split at hi
  · exact lv_dup_x1 cx.1 cx.2.1 hd (by rw [z_tr_cat]; exact hi.1) (by rw [z_tr_cat]; exact hi.2.1) (hY _ hi.2.2 H locs ls hR)
  · exact hi.elim
theorem S_dupx2 (cx : z_cx tab g d p l e R s m args below meth c cc own nL) (hd : decode cc pc = .ok (.dup_x2, 1)) : z_sn tab g d p l e R s m args below meth c Q nL P (pc, i_dupx2) := by
  intro L st h uc us Y hi hY H locs ls hR
  dsimp only at hi hR ⊢
  unfold i_dupx2 at hi
  dsimp only at hi
  split at hi
  · exact lv_dup_x2 cx.1 cx.2.1 hd (by rw [z_tr_cat]; exact hi.1) (by rw [z_tr_cat]; exact hi.2.1) (by rw [z_tr_cat]; exact hi.2.2.1) (hY _ hi.2.2.2 H locs ls hR)
  · exact hi.elim
theorem S_dup2 (cx : z_cx tab g d p l e R s m args below meth c cc own nL) (hd : decode cc pc = .ok (.dup2, 1)) : z_sn tab g d p l e R s m args below meth c Q nL P (pc, i_dup2) := by
  intro L st h uc us Y hi hY H locs ls hR
  dsimp only at hi hR ⊢
  unfold i_dup2 at hi
  dsimp only at hi
  split at hi
  · exact lv_dup2_11 cx.1 cx.2.1 hd (by rw [z_tr_cat]; exact hi.1) (by rw [z_tr_cat]; exact hi.2.1) (hY _ hi.2.2 H locs ls hR)
  · exact hi.elim
theorem z_if {E : zE} {L : zLc} {st : List Value} {k : zH × Nat × Nat} {Y : zC → Prop} {f f2 : Int32 → Prop} {t : Nat} (h : i_if f f2 t E (pc, L, st, k) Y P) : ∃ (x : Int32) (r : List Value), st = .int x :: r ∧ (f x → Y (t, L, r, k)) ∧ (f2 x → Y (pc + 3, L, r, k)) := by
  unfold i_if at h
  dsimp only at h
  split at h
  · next x r => exact ⟨x, r, rfl, h.1, h.2⟩
  · exact h.elim
theorem z_icmp {E : zE} {L : zLc} {st : List Value} {k : zH × Nat × Nat} {Y : zC → Prop} {f f2 : Int32 → Int32 → Prop} {t : Nat} (h : i_icmp f f2 t E (pc, L, st, k) Y P) : ∃ (x y : Int32) (r : List Value), st = .int y :: .int x :: r ∧ (f x y → Y (t, L, r, k)) ∧ (f2 x y → Y (pc + 3, L, r, k)) := by
  unfold i_icmp at h
  dsimp only at h
  split at h
  · next y x r => exact ⟨x, y, r, rfl, h.1, h.2⟩
  · exact h.elim
theorem S_if_eq (cx : z_cx tab g d p l e R s m args below meth c cc own nL) {off : Int} {t : Nat} (hd : decode cc pc = .ok (.ifCond .eq off, 3)) (ht : (pc : Int) + off = (t : Int)) : z_sn tab g d p l e R s m args below meth c Q nL P (pc, i_if (fun x => x = 0) (fun x => ¬ x = 0) t) := by
  intro L st h uc us Y hi hY H locs ls hR
  dsimp only at hi hR ⊢
  obtain ⟨x, r, rfl, h1, h2⟩ := z_if hi
  exact lv_if_eq cx.1 cx.2.1 hd ht (fun q => hY _ (h1 q) H locs ls hR) (fun q => hY _ (h2 q) H locs ls hR)
theorem S_if_ne (cx : z_cx tab g d p l e R s m args below meth c cc own nL) {off : Int} {t : Nat} (hd : decode cc pc = .ok (.ifCond .ne off, 3)) (ht : (pc : Int) + off = (t : Int)) : z_sn tab g d p l e R s m args below meth c Q nL P (pc, i_if (fun x => ¬ x = 0) (fun x => x = 0) t) := by
  intro L st h uc us Y hi hY H locs ls hR
  dsimp only at hi hR ⊢
  obtain ⟨x, r, rfl, h1, h2⟩ := z_if hi
  exact lv_if_ne cx.1 cx.2.1 hd ht (fun q => hY _ (h1 q) H locs ls hR) (fun q => hY _ (h2 q) H locs ls hR)
theorem S_if_lt (cx : z_cx tab g d p l e R s m args below meth c cc own nL) {off : Int} {t : Nat} (hd : decode cc pc = .ok (.ifCond .lt off, 3)) (ht : (pc : Int) + off = (t : Int)) : z_sn tab g d p l e R s m args below meth c Q nL P (pc, i_if (fun x => x < 0) (fun x => ¬ x < 0) t) := by
  intro L st h uc us Y hi hY H locs ls hR
  dsimp only at hi hR ⊢
  obtain ⟨x, r, rfl, h1, h2⟩ := z_if hi
  exact lv_if_lt cx.1 cx.2.1 hd ht (fun q => hY _ (h1 q) H locs ls hR) (fun q => hY _ (h2 q) H locs ls hR)
theorem S_if_ge (cx : z_cx tab g d p l e R s m args below meth c cc own nL) {off : Int} {t : Nat} (hd : decode cc pc = .ok (.ifCond .ge off, 3)) (ht : (pc : Int) + off = (t : Int)) : z_sn tab g d p l e R s m args below meth c Q nL P (pc, i_if (fun x => 0 ≤ x) (fun x => ¬ 0 ≤ x) t) := by
  intro L st h uc us Y hi hY H locs ls hR
  dsimp only at hi hR ⊢
  obtain ⟨x, r, rfl, h1, h2⟩ := z_if hi
  exact lv_if_ge cx.1 cx.2.1 hd ht (fun q => hY _ (h1 q) H locs ls hR) (fun q => hY _ (h2 q) H locs ls hR)
theorem S_if_gt (cx : z_cx tab g d p l e R s m args below meth c cc own nL) {off : Int} {t : Nat} (hd : decode cc pc = .ok (.ifCond .gt off, 3)) (ht : (pc : Int) + off = (t : Int)) : z_sn tab g d p l e R s m args below meth c Q nL P (pc, i_if (fun x => 0 < x) (fun x => ¬ 0 < x) t) := by
  intro L st h uc us Y hi hY H locs ls hR
  dsimp only at hi hR ⊢
  obtain ⟨x, r, rfl, h1, h2⟩ := z_if hi
  exact lv_if_gt cx.1 cx.2.1 hd ht (fun q => hY _ (h1 q) H locs ls hR) (fun q => hY _ (h2 q) H locs ls hR)
theorem S_if_le (cx : z_cx tab g d p l e R s m args below meth c cc own nL) {off : Int} {t : Nat} (hd : decode cc pc = .ok (.ifCond .le off, 3)) (ht : (pc : Int) + off = (t : Int)) : z_sn tab g d p l e R s m args below meth c Q nL P (pc, i_if (fun x => x ≤ 0) (fun x => ¬ x ≤ 0) t) := by
  intro L st h uc us Y hi hY H locs ls hR
  dsimp only at hi hR ⊢
  obtain ⟨x, r, rfl, h1, h2⟩ := z_if hi
  exact lv_if_le cx.1 cx.2.1 hd ht (fun q => hY _ (h1 q) H locs ls hR) (fun q => hY _ (h2 q) H locs ls hR)
theorem S_icmp_eq (cx : z_cx tab g d p l e R s m args below meth c cc own nL) {off : Int} {t : Nat} (hd : decode cc pc = .ok (.if_icmp .eq off, 3)) (ht : (pc : Int) + off = (t : Int)) : z_sn tab g d p l e R s m args below meth c Q nL P (pc, i_icmp (fun x y => x = y) (fun x y => ¬ x = y) t) := by
  intro L st h uc us Y hi hY H locs ls hR
  dsimp only at hi hR ⊢
  obtain ⟨x, y, r, rfl, h1, h2⟩ := z_icmp hi
  exact lv_icmp_eq cx.1 cx.2.1 hd ht (fun q => hY _ (h1 q) H locs ls hR) (fun q => hY _ (h2 q) H locs ls hR)
theorem S_icmp_ne (cx : z_cx tab g d p l e R s m args below meth c cc own nL) {off : Int} {t : Nat} (hd : decode cc pc = .ok (.if_icmp .ne off, 3)) (ht : (pc : Int) + off = (t : Int)) : z_sn tab g d p l e R s m args below meth c Q nL P (pc, i_icmp (fun x y => ¬ x = y) (fun x y => x = y) t) := by
  intro L st h uc us Y hi hY H locs ls hR
  dsimp only at hi hR ⊢
  obtain ⟨x, y, r, rfl, h1, h2⟩ := z_icmp hi
  exact lv_icmp_ne cx.1 cx.2.1 hd ht (fun q => hY _ (h1 q) H locs ls hR) (fun q => hY _ (h2 q) H locs ls hR)
theorem S_icmp_lt (cx : z_cx tab g d p l e R s m args below meth c cc own nL) {off : Int} {t : Nat} (hd : decode cc pc = .ok (.if_icmp .lt off, 3)) (ht : (pc : Int) + off = (t : Int)) : z_sn tab g d p l e R s m args below meth c Q nL P (pc, i_icmp (fun x y => x < y) (fun x y => ¬ x < y) t) := by
  intro L st h uc us Y hi hY H locs ls hR
  dsimp only at hi hR ⊢
  obtain ⟨x, y, r, rfl, h1, h2⟩ := z_icmp hi
  exact lv_icmp_lt cx.1 cx.2.1 hd ht (fun q => hY _ (h1 q) H locs ls hR) (fun q => hY _ (h2 q) H locs ls hR)
theorem S_icmp_ge (cx : z_cx tab g d p l e R s m args below meth c cc own nL) {off : Int} {t : Nat} (hd : decode cc pc = .ok (.if_icmp .ge off, 3)) (ht : (pc : Int) + off = (t : Int)) : z_sn tab g d p l e R s m args below meth c Q nL P (pc, i_icmp (fun x y => y ≤ x) (fun x y => ¬ y ≤ x) t) := by
  intro L st h uc us Y hi hY H locs ls hR
  dsimp only at hi hR ⊢
  obtain ⟨x, y, r, rfl, h1, h2⟩ := z_icmp hi
  exact lv_icmp_ge cx.1 cx.2.1 hd ht (fun q => hY _ (h1 q) H locs ls hR) (fun q => hY _ (h2 q) H locs ls hR)
theorem S_icmp_gt (cx : z_cx tab g d p l e R s m args below meth c cc own nL) {off : Int} {t : Nat} (hd : decode cc pc = .ok (.if_icmp .gt off, 3)) (ht : (pc : Int) + off = (t : Int)) : z_sn tab g d p l e R s m args below meth c Q nL P (pc, i_icmp (fun x y => y < x) (fun x y => ¬ y < x) t) := by
  intro L st h uc us Y hi hY H locs ls hR
  dsimp only at hi hR ⊢
  obtain ⟨x, y, r, rfl, h1, h2⟩ := z_icmp hi
  exact lv_icmp_gt cx.1 cx.2.1 hd ht (fun q => hY _ (h1 q) H locs ls hR) (fun q => hY _ (h2 q) H locs ls hR)
theorem S_icmp_le (cx : z_cx tab g d p l e R s m args below meth c cc own nL) {off : Int} {t : Nat} (hd : decode cc pc = .ok (.if_icmp .le off, 3)) (ht : (pc : Int) + off = (t : Int)) : z_sn tab g d p l e R s m args below meth c Q nL P (pc, i_icmp (fun x y => x ≤ y) (fun x y => ¬ x ≤ y) t) := by
  intro L st h uc us Y hi hY H locs ls hR
  dsimp only at hi hR ⊢
  obtain ⟨x, y, r, rfl, h1, h2⟩ := z_icmp hi
  exact lv_icmp_le cx.1 cx.2.1 hd ht (fun q => hY _ (h1 q) H locs ls hR) (fun q => hY _ (h2 q) H locs ls hR)
theorem S_ifnull (cx : z_cx tab g d p l e R s m args below meth c cc own nL) {off : Int} {t : Nat} (hd : decode cc pc = .ok (.ifnull off, 3)) (ht : (pc : Int) + off = (t : Int)) : z_sn tab g d p l e R s m args below meth c Q nL P (pc, i_nul t) := by
  intro L st h uc us Y hi hY H locs ls hR
  dsimp only at hi hR ⊢
  unfold i_nul at hi
  dsimp only at hi
  split at hi
  · exact lv_ifnullN cx.1 cx.2.1 hd ht (hY _ hi H locs ls hR)
  · exact lv_ifnull cx.1 cx.2.1 hd (hY _ hi H locs ls hR)
  · exact hi.elim
theorem S_ifnonnull (cx : z_cx tab g d p l e R s m args below meth c cc own nL) {off : Int} {t : Nat} (hd : decode cc pc = .ok (.ifnonnull off, 3)) (ht : (pc : Int) + off = (t : Int)) : z_sn tab g d p l e R s m args below meth c Q nL P (pc, i_nnl t) := by
  intro L st h uc us Y hi hY H locs ls hR
  dsimp only at hi hR ⊢
  unfold i_nnl at hi
  dsimp only at hi
  split at hi
  · exact lv_ifnonnullN cx.1 cx.2.1 hd (hY _ hi H locs ls hR)
  · exact lv_ifnonnull cx.1 cx.2.1 hd ht (hY _ hi H locs ls hR)
  · exact hi.elim
theorem S_goto (cx : z_cx tab g d p l e R s m args below meth c cc own nL) {off : Int} {t : Nat} (hd : decode cc pc = .ok (.goto off, 3)) (ht : (pc : Int) + off = (t : Int)) : z_sn tab g d p l e R s m args below meth c Q nL P (pc, i_goto t) := by
  intro L st h uc us Y hi hY H locs ls hR
  dsimp only at hi hR ⊢
  exact lv_goto cx.1 cx.2.1 hd ht (hY _ hi H locs ls hR)
theorem S_tsw (cx : z_cx tab g d p l e R s m args below meth c cc own nL) {df lo hi0 : Int} {offs : Array Int} {len dt : Nat} {ts : List Nat} (hd : decode cc pc = .ok (.tableswitch df lo hi0 offs, len)) (ht : (pc : Int) + df = (dt : Int)) (hn : hi0 = lo + ts.length - 1) (ho : offs.toList.map (fun o => (pc : Int) + o) = ts.map (fun t : Nat => (t : Int))) : z_sn tab g d p l e R s m args below meth c Q nL P (pc, i_tsw lo ts dt) := by
  intro L st h uc us Y hi hY H locs ls hR
  dsimp only at hi hR ⊢
  unfold i_tsw at hi
  dsimp only at hi
  split at hi
  · next x r =>
    by_cases h1 : x.toInt < lo
    · exact lv_tableOut cx.1 cx.2.1 hd (Or.inl h1) ht (hY _ (hi.2 (Or.inl h1)) H locs ls hR)
    · by_cases h2 : hi0 < x.toInt
      · exact lv_tableOut cx.1 cx.2.1 hd (Or.inr h2) ht (hY _ (hi.2 (Or.inr (by omega))) H locs ls hR)
      · have hk : (x.toInt - lo).toNat < ts.length := by omega
        have e1 : (ts.map (fun t : Nat => (t : Int)))[(x.toInt - lo).toNat]? = some ((ts[(x.toInt - lo).toNat] : Nat) : Int) := by simp [hk]
        rw [← ho, List.getElem?_map] at e1
        cases e2 : offs.toList[(x.toInt - lo).toNat]? with
        | none => rw [e2] at e1; cases e1
        | some off =>
          rw [e2] at e1
          have e3 : (pc : Int) + off = ((ts[(x.toInt - lo).toNat] : Nat) : Int) := Option.some.inj e1
          exact lv_tableIn cx.1 cx.2.1 hd h1 h2 (by rw [← Array.getElem?_toList]; exact e2) e3 (hY _ (hi.1 (x.toInt - lo).toNat _ (List.getElem?_eq_getElem hk) (by omega)) H locs ls hR)
  · exact hi.elim
end ZS1
end
section
/-! Cells: fields, arrays, what is made. -/
theorem z_tyk (g : zG) (k : Nat) (hk : k < 5) : ∃ ty, (z_tys g)[k]? = some (g_A g k, ty) := by
  rcases (show k = 0 ∨ k = 1 ∨ k = 2 ∨ k = 3 ∨ k = 4 by omega) with rfl | rfl | rfl | rfl | rfl <;> exact ⟨_, rfl⟩
theorem z_ltR {h : zH} {a : Nat} {o : Nat × List Value} (hz : ∀ q : Nat, h.2 ≤ q → h.1 q = z_def) (ha : h.1 a = .inr o) : a < h.2 := by
  by_cases hl : a < h.2
  · exact hl
  · have e := (hz a (Nat.not_lt.mp hl)).symm.trans ha
    unfold z_def at e
    cases e
theorem z_ltL {h : zH} {a k n : Nat} {x : (Nat → Int32) ⊕ (Nat → Int64) ⊕ (Nat → UInt32) ⊕ (Nat → UInt64) ⊕ (Nat → Option Nat)} (hz : ∀ q : Nat, h.2 ≤ q → h.1 q = z_def) (ha : h.1 a = .inl (k, n, x)) (hn : 0 < n) : a < h.2 := by
  by_cases hl : a < h.2
  · exact hl
  · have e := (hz a (Nat.not_lt.mp hl)).symm.trans ha
    unfold z_def at e
    cases e
    exact absurd hn (Nat.lt_irrefl 0)
theorem z_inpos {i : Int32} {n : Nat} (h : vp_in i n) : 0 < n := by
  by_cases hn : n = 0
  · exact absurd (Or.inr (by rw [hn]; exact Nat.zero_le _)) h
  · omega
theorem z_up_z {h : zH} {a : Nat} {e : va_E} (hl : a < h.2) (hz : ∀ q : Nat, h.2 ≤ q → h.1 q = z_def) : ∀ q : Nat, h.2 ≤ q → va_up h.1 a e q = z_def := by
  intro q hq
  unfold va_up
  rw [if_neg (by omega)]
  exact hz q hq
/-- a cell is changed -/
theorem z_Wh.cell {g : zG} {h : zH} {H H1 : Heap} {a : Nat} {e : va_E} (hw : z_Wh g h H) (hl : a < h.2) (hz1 : H1.size = H.size) (hat : va_at (g_D g) vwCl (g_b g + a, z_ce g e) H1) (oq : ∀ q : Nat, q ≠ g_b g + a → H1[q]? = H[q]?) : z_Wh g (va_up h.1 a e, h.2) H1 :=
  ⟨hz1.trans hw.1, by rw [← z_ws_set e hl]; exact hw.2.1.set (z_dis g h) (z_ws_at hl) hat oq, z_up_z hl hw.2.2⟩
/-- a cell is made -/
theorem z_Wh.make {g : zG} {h : zH} {H H1 : Heap} {e : va_E} (hw : z_Wh g h H) (hz1 : H1.size = H.size + 1) (hat : va_at (g_D g) vwCl (H.size, z_ce g e) H1) (oq : ∀ q : Nat, q < H.size → H1[q]? = H[q]?) : z_Wh g (va_up h.1 h.2 e, h.2 + 1) H1 := by
  refine ⟨by rw [hz1, hw.1]; rfl, ?_, fun q hq => ?_⟩
  · rw [← z_ws_push e]
    refine (hw.2.1.kept (fun k q hk => oq q.1 (hw.2.1 k q hk).lt)).app (fun k q hk => ?_)
    have hz : k < 1 := (List.getElem?_eq_some_iff.mp hk).1
    rw [show k = 0 by omega] at hk
    cases hk
    rw [← hw.1]
    exact hat
  · have h1 : h.2 + 1 ≤ q := hq
    show va_up h.1 h.2 e q = z_def
    unfold va_up
    rw [if_neg (by omega)]
    exact hw.2.2 q (by omega)
theorem z_S_make {A : Nat → Prop} {H0 H H1 : Heap} {locs : List Loc} (hS : va_S A H0 H locs) (hz1 : H1.size = H.size + 1) (oq : ∀ q : Nat, q < H.size → H1[q]? = H[q]?) : va_S A H0 H1 locs :=
  ⟨Nat.le_trans hS.1 (by omega), fun q h1 h2 => (oq q (Nat.lt_of_lt_of_le h1 hS.1)).trans (hS.2.1 q h1 h2), hS.2.2⟩
section ZS2
variable {tab : List zR} {g : zG} {d : Nat} {p : Program} {l : Launch} {e : Env} {R : Room} {s : State} {m : MethodId} {args : Array Value} {below : List Frame} {meth : Method} {c : Code} {Q : State → Prop} {cc : ByteArray} {own : String} {nL : Nat} {P : zP} {pc : Nat}
theorem z_getf {E : zE} {L : zLc} {st : List Value} {q : zH × Nat × Nat} {Y : zC → Prop} {ci k : Nat} (h : i_getf ci k E (pc, L, st, q) Y P) : ∃ (a : Nat) (r fs : List Value) (v : Value), st = .ref a :: r ∧ q.1.1 a = .inr (ci, fs) ∧ fs[k]? = some v ∧ Y (pc + 3, L, v :: r, q) := by
  unfold i_getf at h
  dsimp only at h
  split at h
  · next a r =>
    split at h
    · next o ho =>
      obtain ⟨h1, h2⟩ := h
      split at h2
      · next v hv => exact ⟨a, r, o.2, v, rfl, by rw [ho, ← h1], hv, h2⟩
      · exact h2.elim
    · exact h.elim
  · exact h.elim
theorem S_getf (cx : z_cx tab g d p l e R s m args below meth c cc own nL) {ci k ix N : Nat} {C : String} {T : u_T} (hc : vwCl[ci]? = some (C, T, N)) (hin : ∀ w ∈ u_ws C T N, w ∈ z_WS) (hk : k < N) (hT : (T k).1 = C) (hl : Cond.fieldLink own ix C (T k).2.1 (T k).2.2.1 ∈ z_WS) (hd : decode cc pc = .ok (.getfield ix, 3)) : z_sn tab g d p l e R s m args below meth c Q nL P (pc, i_getf ci k) := by
  intro L st h uc us Y hi hY H locs ls hR
  dsimp only at hi hR ⊢
  obtain ⟨a, r, fs, v, rfl, ha, hv, hi⟩ := z_getf hi
  have hlt := z_ltR hR.1.2.2 ha
  have he : (z_ws g h)[a]? = some (g_b g + a, .inr (ci, fs.map (z_tr g))) := by rw [z_ws_at hlt, ha]; rfl
  exact va_get (D := g_D g) cx.1 cx.2.1 cx.2.2.2.2.1 hin cx.2.2.2.1 cx.2.2.2.2.2.1.1 hR.1.2.1 a he hc k hk (cx.2.2.2.2.1 _ hl) (fun x hx => by rw [hT] at hx; exact hx) (v := z_tr g v) (by rw [List.getElem?_map, hv]; rfl) hd (hY _ hi H locs ls hR)
theorem S_getfN (cx : z_cx tab g d p l e R s m args below meth c cc own nL) {ci k ix N : Nat} {C host : String} {T : u_T} (hc : vwCl[ci]? = some (C, T, N)) (hin : ∀ w ∈ u_ws C T N, w ∈ z_WS) (hk : k < N) (hT : (T k).1 = C) (hl : Cond.fieldLinkNest own ix C (T k).2.1 (T k).2.2.1 host ∈ z_NW) (hd : decode cc pc = .ok (.getfield ix, 3)) : z_sn tab g d p l e R s m args below meth c Q nL P (pc, i_getf ci k) := by
  intro L st h uc us Y hi hY H locs ls hR
  dsimp only at hi hR ⊢
  obtain ⟨a, r, fs, v, rfl, ha, hv, hi⟩ := z_getf hi
  have hlt := z_ltR hR.1.2.2 ha
  have he : (z_ws g h)[a]? = some (g_b g + a, .inr (ci, fs.map (z_tr g))) := by rw [z_ws_at hlt, ha]; rfl
  exact va_getN (D := g_D g) cx.1 cx.2.1 cx.2.2.2.2.1 hin cx.2.2.2.1 cx.2.2.2.2.2.1.1 hR.1.2.1 a he hc k hk (va_Nw.use rfl (cx.2.2.2.2.2.1.2.1 _ hl)) (fun x hx => by rw [hT] at hx; exact hx) (v := z_tr g v) (by rw [List.getElem?_map, hv]; rfl) hd (hY _ hi H locs ls hR)
def z_zty (z : Nat) (ty : FieldType) : Prop := (z = 0 ∧ ty = .int) ∨ (z = 1 ∧ ty = .boolean) ∨ (z = 2 ∧ ((∃ n, ty = .object n) ∨ ∃ t, ty = .array t))
theorem z_fit_ok {z : Nat} {ty : FieldType} {v : Value} (hz : z_zty z ty) (hf : z_fit z v) : narrow ty (z_tr g v) = z_tr g v ∧ fits ty (z_tr g v) = true := by
  cases v with
  | int x =>
    rcases hz with ⟨rfl, rfl⟩ | ⟨rfl, rfl⟩ | ⟨rfl, hz⟩
    · exact ⟨rfl, rfl⟩
    · rcases hf with hf | ⟨-, rfl | rfl⟩
      · cases hf
      · show narrow .boolean (.int 0) = .int 0 ∧ fits .boolean (.int 0) = true
        decide
      · show narrow .boolean (.int 1) = .int 1 ∧ fits .boolean (.int 1) = true
        decide
    · rcases hf with hf | ⟨hf, -⟩ <;> cases hf
  | ref a =>
    rcases hz with ⟨rfl, rfl⟩ | ⟨rfl, rfl⟩ | ⟨rfl, ⟨n, rfl⟩ | ⟨t, rfl⟩⟩
    · cases hf
    · cases hf
    · exact ⟨rfl, rfl⟩
    · exact ⟨rfl, rfl⟩
  | null =>
    rcases hz with ⟨rfl, rfl⟩ | ⟨rfl, rfl⟩ | ⟨rfl, ⟨n, rfl⟩ | ⟨t, rfl⟩⟩
    · cases hf
    · cases hf
    · exact ⟨rfl, rfl⟩
    · exact ⟨rfl, rfl⟩
  | _ => exact hf.elim
theorem z_putf {E : zE} {L : zLc} {st : List Value} {q : zH × Nat × Nat} {Y : zC → Prop} {ci k z : Nat} (h : i_putf ci k z E (pc, L, st, q) Y P) : ∃ (v : Value) (a : Nat) (r fs : List Value), st = v :: .ref a :: r ∧ q.1.1 a = .inr (ci, fs) ∧ k < fs.length ∧ z_fit z v ∧ Y (pc + 3, L, r, (va_up q.1.1 a (.inr (ci, fs.set k v)), q.1.2), q.2) := by
  unfold i_putf at h
  dsimp only at h
  split at h
  · next v a r =>
    split at h
    · next o ho =>
      obtain ⟨h1, h2, h3, h4⟩ := h
      rw [h1] at h4
      exact ⟨v, a, r, o.2, rfl, by rw [ho, ← h1], h2, h3, h4⟩
    · exact h.elim
  · exact h.elim

theorem S_putf (cx : z_cx tab g d p l e R s m args below meth c cc own nL) {ci k z ix N : Nat} {C : String} {T : u_T} {ty : Nat → FieldType} (hc : vwCl[ci]? = some (C, T, N)) (hin : ∀ w ∈ u_ws C T N, w ∈ z_WS) (hty : ∀ k, k < N → parseFieldDescriptor (T k).2.2.1 = some (ty k)) (hnm : ∀ a, a < N → ∀ b, b < N → a ≠ b → (T a).2.1 ≠ (T b).2.1) (hk : k < N) (hT : (T k).1 = C) (hl : Cond.fieldLink own ix C (T k).2.1 (T k).2.2.1 ∈ z_WS) (hfin : (T k).2.2.2 = false) (hz : z_zty z (ty k)) (hd : decode cc pc = .ok (.putfield ix, 3)) : z_sn tab g d p l e R s m args below meth c Q nL P (pc, i_putf ci k z) := by
  intro L st h uc us Y hi hY H locs ls hR
  dsimp only at hi hR ⊢
  obtain ⟨v, a, r, fs, rfl, ha, hkl, hf, hi⟩ := z_putf hi
  have hlt := z_ltR hR.1.2.2 ha
  have he : (z_ws g h)[a]? = some (g_b g + a, .inr (ci, fs.map (z_tr g))) := by rw [z_ws_at hlt, ha]; rfl
  have hf2 := z_fit_ok (g := g) hz hf
  have hts := cx.2.2.2.2.1
  have hK := cx.2.2.2.2.2.1.1
  have hap := va_apart (own := own) hts hin ty hty hnm hK hc
  obtain ⟨r0, h1, cell, q1, q2, q3, q4⟩ := hR.1.2.1 a _ he
  have hr0 : r0 = (C, T, N) := Option.some.inj (h1.symm.trans hc)
  subst hr0
  obtain ⟨hSl, hfc, kC, hkC, hkind⟩ := hK.1 ci _ hc
  obtain ⟨cf, kf, fi, f, hfi, hsl⟩ := hSl k hk
  have hst := (u_facts hfc hkC (u_lays hts hin hk) hfi).1
  have hlay := hts _ (hin _ (u_in_lay hk))
  unfold u_lay at hlay
  have hfi2 : s.fieldFound? C (T k).2.1 (T k).2.2.1 = some (cf, kf, fi, f) := by rw [← hT]; exact hfi
  rw [if_neg (by rw [hfin]; decide)] at hlay
  have h6 := u_store hfc hkC hkind hlay hfi (hty k hk) hf2.1 hf2.2
  refine W.putK cx.1 cx.2.1 (f := f) ⟨cx.2.2.2.1, hts _ hl, ⟨_, _, _, hfi2⟩, hst⟩ (v := z_tr g v) (by rw [q2]; exact h6) q1 q3 (by rw [hsl]; exact k2_hasslot (q4 k hk)) rfl rfl hd fun H1 e1 e2 e3 => ?_
  rw [hsl] at e1
  refine hY _ hi H1 _ ls ⟨hR.1.cell hlt e2 ?_ e3, hR.2.1.put e2 e3 (Nat.le_add_right _ _), hR.2.2⟩
  refine ⟨_, hc, t_OB.to (V := updV (vp_V (fs.map (z_tr g))) k (z_tr g v)) ⟨_, e1, q2, q3, t_set q4 hap hk (z_tr g v)⟩ (fun j _ => ?_)⟩
  show _ = vp_V ((fs.set k v).map (z_tr g)) j
  rw [List.map_set]
  exact vp_updV_set (by rw [List.length_map]; exact hkl) (z_tr g v) j
theorem S_putfN (cx : z_cx tab g d p l e R s m args below meth c cc own nL) {ci k z ix N : Nat} {C : String} {T : u_T} {ty : Nat → FieldType} (hc : vwCl[ci]? = some (C, T, N)) (hin : ∀ w ∈ u_ws C T N, w ∈ z_WS) (hty : ∀ k, k < N → parseFieldDescriptor (T k).2.2.1 = some (ty k)) (hnm : ∀ a, a < N → ∀ b, b < N → a ≠ b → (T a).2.1 ≠ (T b).2.1) (hk : k < N) (hT : (T k).1 = C) {host : String} (hl : Cond.fieldLinkNest own ix C (T k).2.1 (T k).2.2.1 host ∈ z_NW) (hfin : (T k).2.2.2 = false) (hz : z_zty z (ty k)) (hd : decode cc pc = .ok (.putfield ix, 3)) : z_sn tab g d p l e R s m args below meth c Q nL P (pc, i_putf ci k z) := by
  intro L st h uc us Y hi hY H locs ls hR
  dsimp only at hi hR ⊢
  obtain ⟨v, a, r, fs, rfl, ha, hkl, hf, hi⟩ := z_putf hi
  have hlt := z_ltR hR.1.2.2 ha
  have he : (z_ws g h)[a]? = some (g_b g + a, .inr (ci, fs.map (z_tr g))) := by rw [z_ws_at hlt, ha]; rfl
  have hf2 := z_fit_ok (g := g) hz hf
  have hts := cx.2.2.2.2.1
  have hK := cx.2.2.2.2.2.1.1
  have hap := va_apart (own := own) hts hin ty hty hnm hK hc
  obtain ⟨r0, h1, cell, q1, q2, q3, q4⟩ := hR.1.2.1 a _ he
  have hr0 : r0 = (C, T, N) := Option.some.inj (h1.symm.trans hc)
  subst hr0
  obtain ⟨hSl, hfc, kC, hkC, hkind⟩ := hK.1 ci _ hc
  obtain ⟨cf, kf, fi, f, hfi, hsl⟩ := hSl k hk
  have hst := (u_facts hfc hkC (u_lays hts hin hk) hfi).1
  have hlay := hts _ (hin _ (u_in_lay hk))
  unfold u_lay at hlay
  have hfi2 : s.fieldFound? C (T k).2.1 (T k).2.2.1 = some (cf, kf, fi, f) := by rw [← hT]; exact hfi
  rw [if_neg (by rw [hfin]; decide)] at hlay
  have h6 := u_store hfc hkC hkind hlay hfi (hty k hk) hf2.1 hf2.2
  refine va_WputK cx.1 cx.2.1 (f := f) cx.2.2.2.1 (va_Nw.use rfl (cx.2.2.2.2.2.1.2.1 _ hl)) hfi2 hst (v := z_tr g v) (by rw [q2]; exact h6) q1 q3 (by rw [hsl]; exact k2_hasslot (q4 k hk)) rfl rfl hd fun H1 e1 e2 e3 => ?_
  rw [hsl] at e1
  refine hY _ hi H1 _ ls ⟨hR.1.cell hlt e2 ?_ e3, hR.2.1.put e2 e3 (Nat.le_add_right _ _), hR.2.2⟩
  refine ⟨_, hc, t_OB.to (V := updV (vp_V (fs.map (z_tr g))) k (z_tr g v)) ⟨_, e1, q2, q3, t_set q4 hap hk (z_tr g v)⟩ (fun j _ => ?_)⟩
  show _ = vp_V ((fs.set k v).map (z_tr g)) j
  rw [List.map_set]
  exact vp_updV_set (by rw [List.length_map]; exact hkl) (z_tr g v) j
theorem S_putF (cx : z_cx tab g d p l e R s m args below meth c cc own nL) {ci k z ix N : Nat} {C : String} {T : u_T} {ty : Nat → FieldType} (hc : vwCl[ci]? = some (C, T, N)) (hin : ∀ w ∈ u_ws C T N, w ∈ z_WS) (hty : ∀ k, k < N → parseFieldDescriptor (T k).2.2.1 = some (ty k)) (hnm : ∀ a, a < N → ∀ b, b < N → a ≠ b → (T a).2.1 ≠ (T b).2.1) (hk : k < N) (hT : (T k).1 = C) (hl : Cond.fieldLink own ix C (T k).2.1 (T k).2.2.1 ∈ z_WS) (hfin : (T k).2.2.2 = true) (hini : meth.name = "<init>") (hdecl : (T k).1 = own) (hz : z_zty z (ty k)) (hd : decode cc pc = .ok (.putfield ix, 3)) : z_sn tab g d p l e R s m args below meth c Q nL P (pc, i_putf ci k z) := by
  intro L st h uc us Y hi hY H locs ls hR
  dsimp only at hi hR ⊢
  obtain ⟨v, a, r, fs, rfl, ha, hkl, hf, hi⟩ := z_putf hi
  have hlt := z_ltR hR.1.2.2 ha
  have he : (z_ws g h)[a]? = some (g_b g + a, .inr (ci, fs.map (z_tr g))) := by rw [z_ws_at hlt, ha]; rfl
  have hf2 := z_fit_ok (g := g) hz hf
  have hts := cx.2.2.2.2.1
  have hK := cx.2.2.2.2.2.1.1
  have hap := va_apart (own := own) hts hin ty hty hnm hK hc
  obtain ⟨r0, h1, cell, q1, q2, q3, q4⟩ := hR.1.2.1 a _ he
  have hr0 : r0 = (C, T, N) := Option.some.inj (h1.symm.trans hc)
  subst hr0
  obtain ⟨hSl, hfc, kC, hkC, hkind⟩ := hK.1 ci _ hc
  obtain ⟨cf, kf, fi, f, hfi, hsl⟩ := hSl k hk
  have hst := (u_facts hfc hkC (u_lays hts hin hk) hfi).1
  have hlay := hts _ (hin _ (u_in_lay hk))
  unfold u_lay at hlay
  have hfi2 : s.fieldFound? C (T k).2.1 (T k).2.2.1 = some (cf, kf, fi, f) := by rw [← hT]; exact hfi
  rw [if_pos hfin] at hlay
  have hcf : m.cls = cf := by
    obtain ⟨_, _, c', _, _, _, -, -, hf', -, -, -, hown2, -⟩ := Cond.laysFinal_spec hlay
    have e9 : c' = cf := by have := hfi.symm.trans hf'; simp at this; exact this.1.symm
    rw [hdecl] at hown2
    rw [← e9]; exact Option.some.inj (cx.2.2.2.1.symm.trans hown2)
  have h6 := u_fits hfc hkC hkind (Or.inr hlay) hfi (hty k hk) hf2.1 hf2.2
  refine W.putFinK cx.1 cx.2.1 cx.2.2.2.1 (hts _ hl) hfi2 hst hcf hini (v := z_tr g v) (by rw [q2]; exact h6) q1 q3 (by rw [hsl]; exact k2_hasslot (q4 k hk)) rfl rfl hd fun H1 e1 e2 e3 => ?_
  rw [hsl] at e1
  refine hY _ hi H1 _ ls ⟨hR.1.cell hlt e2 ?_ e3, hR.2.1.put e2 e3 (Nat.le_add_right _ _), hR.2.2⟩
  refine ⟨_, hc, t_OB.to (V := updV (vp_V (fs.map (z_tr g))) k (z_tr g v)) ⟨_, e1, q2, q3, t_set q4 hap hk (z_tr g v)⟩ (fun j _ => ?_)⟩
  show _ = vp_V ((fs.set k v).map (z_tr g)) j
  rw [List.map_set]
  exact vp_updV_set (by rw [List.length_map]; exact hkl) (z_tr g v) j
theorem S_gets (cx : z_cx tab g d p l e R s m args below meth c cc own nL) {ix : Nat} (hl : Cond.fieldLink own ix z_RA "TOKENS" "[I" ∈ z_WS) (hd : decode cc pc = .ok (.getstatic ix, 3)) : z_sn tab g d p l e R s m args below meth c Q nL P (pc, i_gets) := by
  intro L st h uc us Y hi hY H locs ls hR
  dsimp only at hi hR ⊢
  exact va_gets cx.1 cx.2.1 cx.2.2.2.2.2.2.1.1 hR.2.1 cx.2.2.2.1 (cx.2.2.2.2.1 _ hl) (fun _ h9 => h9) hd (hY _ hi H locs ls hR)
theorem z_nald {E : zE} {L : zLc} {st : List Value} {q : zH × Nat × Nat} {Y : zC → Prop} {kd : Nat} (h : i_nald kd E (pc, L, st, q) Y P) : (∃ (i : Int32) (a n : Nat) (r : List Value) (f : Nat → Int32), st = .int i :: .ref a :: r ∧ q.1.1 a = .inl (kd, n, .inl f) ∧ vp_in i n ∧ Y (pc + 1, L, .int (f i.toNatClampNeg) :: r, q)) ∨ (kd = 0 ∧ ∃ (i : Int32) (r : List Value), (st = .int i :: .retAddr 0 :: r ∧ vp_in i E.2.2.1 ∧ Y (pc + 1, L, .int (E.2.2.2 i.toNatClampNeg) :: r, q)) ∨ (st = .int i :: .retAddr 1 :: r ∧ vp_in i 20 ∧ Y (pc + 1, L, .int (z_tok i.toNatClampNeg) :: r, q))) := by
  unfold i_nald at h
  dsimp only at h
  split at h
  · next i a r =>
    split at h
    · next k n f hf =>
      obtain ⟨h1, h2, h3⟩ := h
      rw [h1] at hf
      exact Or.inl ⟨i, a, n, r, f, rfl, hf, h2, h3⟩
    · exact h.elim
  · next i j r =>
    obtain ⟨h0, ⟨rfl, h1, h2⟩ | ⟨rfl, h1, h2⟩⟩ := h
    · exact Or.inr ⟨h0, i, r, Or.inl ⟨rfl, h1, h2⟩⟩
    · exact Or.inr ⟨h0, i, r, Or.inr ⟨rfl, h1, h2⟩⟩
  · exact h.elim
theorem S_iald (cx : z_cx tab g d p l e R s m args below meth c cc own nL) (hd : decode cc pc = .ok (.iaload, 1)) : z_sn tab g d p l e R s m args below meth c Q nL P (pc, i_nald 0) := by
  intro L st h uc us Y hi hY H locs ls hR
  dsimp only at hi hR ⊢
  rcases z_nald hi with ⟨i, a, n, r, f, rfl, ha, hin, hi⟩ | ⟨-, i, r, ⟨rfl, hin, hi⟩ | ⟨rfl, hin, hi⟩⟩
  · have hlt := z_ltL hR.1.2.2 ha (z_inpos hin)
    have he : (z_ws g h)[a]? = some (g_b g + a, .inl (g_A g 0, n, .inl f)) := by rw [z_ws_at hlt, ha]; rfl
    exact va_iald cx.1 cx.2.1 cx.2.2.2.2.2.1.1 hR.1.2.1 a 0 he rfl hin hd (hY _ hi H locs ls hR)
  · exact va_sld cx.1 cx.2.1 cx.2.2.2.2.2.2.1.2.2.1 (Nat.lt_of_lt_of_le cx.2.2.2.2.2.2.1.2.2.2 cx.2.2.2.2.2.2.2.1) (Nat.not_le.mpr cx.2.2.2.2.2.2.1.2.2.2) hR.2.1 hin hd (hY _ hi H locs ls hR)
  · exact va_ti cx.1 cx.2.1 cx.2.2.2.2.2.2.1.2.1 hR.2.1 hin rfl hd (hY _ hi H locs ls hR)
theorem S_zald (cx : z_cx tab g d p l e R s m args below meth c cc own nL) (hd : decode cc pc = .ok (.baload, 1)) : z_sn tab g d p l e R s m args below meth c Q nL P (pc, i_nald 1) := by
  intro L st h uc us Y hi hY H locs ls hR
  dsimp only at hi hR ⊢
  rcases z_nald hi with ⟨i, a, n, r, f, rfl, ha, hin, hi⟩ | ⟨h0, -⟩
  · have hlt := z_ltL hR.1.2.2 ha (z_inpos hin)
    have he : (z_ws g h)[a]? = some (g_b g + a, .inl (g_A g 1, n, .inl f)) := by rw [z_ws_at hlt, ha]; rfl
    exact va_zald cx.1 cx.2.1 cx.2.2.2.2.2.1.1 hR.1.2.1 a 1 he rfl hin hd (hY _ hi H locs ls hR)
  · cases h0
theorem S_bald (cx : z_cx tab g d p l e R s m args below meth c cc own nL) (hd : decode cc pc = .ok (.baload, 1)) : z_sn tab g d p l e R s m args below meth c Q nL P (pc, i_nald 2) := by
  intro L st h uc us Y hi hY H locs ls hR
  dsimp only at hi hR ⊢
  rcases z_nald hi with ⟨i, a, n, r, f, rfl, ha, hin, hi⟩ | ⟨h0, -⟩
  · have hlt := z_ltL hR.1.2.2 ha (z_inpos hin)
    have he : (z_ws g h)[a]? = some (g_b g + a, .inl (g_A g 2, n, .inl f)) := by rw [z_ws_at hlt, ha]; rfl
    exact va_bald cx.1 cx.2.1 cx.2.2.2.2.2.1.1 hR.1.2.1 a 2 he rfl hin hd (hY _ hi H locs ls hR)
  · cases h0
theorem S_sald (cx : z_cx tab g d p l e R s m args below meth c cc own nL) (hd : decode cc pc = .ok (.saload, 1)) : z_sn tab g d p l e R s m args below meth c Q nL P (pc, i_nald 3) := by
  intro L st h uc us Y hi hY H locs ls hR
  dsimp only at hi hR ⊢
  rcases z_nald hi with ⟨i, a, n, r, f, rfl, ha, hin, hi⟩ | ⟨h0, -⟩
  · have hlt := z_ltL hR.1.2.2 ha (z_inpos hin)
    have he : (z_ws g h)[a]? = some (g_b g + a, .inl (g_A g 3, n, .inl f)) := by rw [z_ws_at hlt, ha]; rfl
    exact va_sald cx.1 cx.2.1 cx.2.2.2.2.2.1.1 hR.1.2.1 a 3 he rfl hin hd (hY _ hi H locs ls hR)
  · cases h0
theorem z_nast {E : zE} {L : zLc} {st : List Value} {q : zH × Nat × Nat} {Y : zC → Prop} {kd : Nat} {F : Int32 → Int32} (h : i_nast kd F E (pc, L, st, q) Y P) : ∃ (x i : Int32) (a n : Nat) (r : List Value) (f : Nat → Int32), st = .int x :: .int i :: .ref a :: r ∧ q.1.1 a = .inl (kd, n, .inl f) ∧ vp_in i n ∧ Y (pc + 1, L, r, (va_up q.1.1 a (.inl (kd, n, .inl (upd f i.toNatClampNeg (F x)))), q.1.2), q.2) := by
  unfold i_nast at h
  dsimp only at h
  split at h
  · next x i a r =>
    split at h
    · next k n f hf =>
      obtain ⟨h1, h2, h3⟩ := h
      rw [h1] at hf h3
      exact ⟨x, i, a, n, r, f, rfl, hf, h2, h3⟩
    · exact h.elim
  · exact h.elim
theorem z_stored {cA : ClassId} {n k : Nat} {f : Nat → Int32} {w : Value} {y : Int32} (hw : w = .int y) : (vp_cell cA (n, .inl f)).setSlot k w = vp_cell cA (n, .inl (upd f k y)) := by
  rw [vp_cell_i, vp_cell_i, arrV_store]
  congr 1
  funext q
  by_cases hq : q = k
  · subst hq
    simp [updV, upd, hw]
  · simp [updV, upd, hq]
theorem S_iast (cx : z_cx tab g d p l e R s m args below meth c cc own nL) (hd : decode cc pc = .ok (.iastore, 1)) : z_sn tab g d p l e R s m args below meth c Q nL P (pc, i_nast 0 (fun x => x)) := by
  intro L st h uc us Y hi hY H locs ls hR
  dsimp only at hi hR ⊢
  obtain ⟨x, i, a, n, r, f, rfl, ha, hin, hi⟩ := z_nast hi
  have hlt := z_ltL hR.1.2.2 ha (z_inpos hin)
  have he : (z_ws g h)[a]? = some (g_b g + a, .inl (g_A g 0, n, .inl f)) := by rw [z_ws_at hlt, ha]; rfl
  refine W.iast cx.1 cx.2.1 (hR.1.2.1 a _ he) ((cx.2.2.2.2.2.1.1.2 0 _ rfl).1 n (fun j => .int (f j))) (fun q => by cases q) (by show ¬ (i < 0 ∨ (arrV _ _ _).slots.size ≤ _); rw [arrV_size]; exact hin) rfl rfl hd fun H1 e1 e2 e3 => ?_
  refine hY _ hi H1 _ ls ⟨hR.1.cell hlt e2 ?_ e3, hR.2.1.put e2 e3 (Nat.le_add_right _ _), hR.2.2⟩
  show H1[g_b g + a]? = some (vp_cell (g_A g 0) (n, .inl (upd f i.toNatClampNeg _)))
  rw [e1]
  exact congrArg some (z_stored rfl)
theorem S_zast (cx : z_cx tab g d p l e R s m args below meth c cc own nL) (hd : decode cc pc = .ok (.bastore, 1)) : z_sn tab g d p l e R s m args below meth c Q nL P (pc, i_nast 1 (fun x => x &&& 1)) := by
  intro L st h uc us Y hi hY H locs ls hR
  dsimp only at hi hR ⊢
  obtain ⟨x, i, a, n, r, f, rfl, ha, hin, hi⟩ := z_nast hi
  have hlt := z_ltL hR.1.2.2 ha (z_inpos hin)
  have he : (z_ws g h)[a]? = some (g_b g + a, .inl (g_A g 1, n, .inl f)) := by rw [z_ws_at hlt, ha]; rfl
  refine W.zast cx.1 cx.2.1 (hR.1.2.1 a _ he) ((cx.2.2.2.2.2.1.1.2 1 _ rfl).1 n (fun j => .int (f j))) (fun q => by cases q) (by show ¬ (i < 0 ∨ (arrV _ _ _).slots.size ≤ _); rw [arrV_size]; exact hin) rfl rfl hd fun H1 e1 e2 e3 => ?_
  refine hY _ hi H1 _ ls ⟨hR.1.cell hlt e2 ?_ e3, hR.2.1.put e2 e3 (Nat.le_add_right _ _), hR.2.2⟩
  show H1[g_b g + a]? = some (vp_cell (g_A g 1) (n, .inl (upd f i.toNatClampNeg _)))
  rw [e1]
  exact congrArg some (z_stored rfl)
theorem S_bast (cx : z_cx tab g d p l e R s m args below meth c cc own nL) (hd : decode cc pc = .ok (.bastore, 1)) : z_sn tab g d p l e R s m args below meth c Q nL P (pc, i_nast 2 (fun x => x.toInt8.toInt32)) := by
  intro L st h uc us Y hi hY H locs ls hR
  dsimp only at hi hR ⊢
  obtain ⟨x, i, a, n, r, f, rfl, ha, hin, hi⟩ := z_nast hi
  have hlt := z_ltL hR.1.2.2 ha (z_inpos hin)
  have he : (z_ws g h)[a]? = some (g_b g + a, .inl (g_A g 2, n, .inl f)) := by rw [z_ws_at hlt, ha]; rfl
  refine W.bast cx.1 cx.2.1 (hR.1.2.1 a _ he) ((cx.2.2.2.2.2.1.1.2 2 _ rfl).1 n (fun j => .int (f j))) (fun q => by cases q) (by show ¬ (i < 0 ∨ (arrV _ _ _).slots.size ≤ _); rw [arrV_size]; exact hin) rfl rfl hd fun H1 e1 e2 e3 => ?_
  refine hY _ hi H1 _ ls ⟨hR.1.cell hlt e2 ?_ e3, hR.2.1.put e2 e3 (Nat.le_add_right _ _), hR.2.2⟩
  show H1[g_b g + a]? = some (vp_cell (g_A g 2) (n, .inl (upd f i.toNatClampNeg _)))
  rw [e1]
  exact congrArg some (z_stored rfl)
theorem S_sast (cx : z_cx tab g d p l e R s m args below meth c cc own nL) (hd : decode cc pc = .ok (.sastore, 1)) : z_sn tab g d p l e R s m args below meth c Q nL P (pc, i_nast 3 (fun x => x.toInt16.toInt32)) := by
  intro L st h uc us Y hi hY H locs ls hR
  dsimp only at hi hR ⊢
  obtain ⟨x, i, a, n, r, f, rfl, ha, hin, hi⟩ := z_nast hi
  have hlt := z_ltL hR.1.2.2 ha (z_inpos hin)
  have he : (z_ws g h)[a]? = some (g_b g + a, .inl (g_A g 3, n, .inl f)) := by rw [z_ws_at hlt, ha]; rfl
  refine W.sast cx.1 cx.2.1 (hR.1.2.1 a _ he) ((cx.2.2.2.2.2.1.1.2 3 _ rfl).1 n (fun j => .int (f j))) (fun q => by cases q) (by show ¬ (i < 0 ∨ (arrV _ _ _).slots.size ≤ _); rw [arrV_size]; exact hin) rfl rfl hd fun H1 e1 e2 e3 => ?_
  refine hY _ hi H1 _ ls ⟨hR.1.cell hlt e2 ?_ e3, hR.2.1.put e2 e3 (Nat.le_add_right _ _), hR.2.2⟩
  show H1[g_b g + a]? = some (vp_cell (g_A g 3) (n, .inl (upd f i.toNatClampNeg _)))
  rw [e1]
  exact congrArg some (z_stored rfl)
theorem S_aald (cx : z_cx tab g d p l e R s m args below meth c cc own nL) (hd : decode cc pc = .ok (.aaload, 1)) : z_sn tab g d p l e R s m args below meth c Q nL P (pc, i_aald) := by
  intro L st h uc us Y hi hY H locs ls hR
  dsimp only at hi hR ⊢
  unfold i_aald at hi
  dsimp only at hi
  split at hi
  · next i a r =>
    split at hi
    · next k n f ha =>
      obtain ⟨rfl, hin, hi⟩ := hi
      have hlt := z_ltL hR.1.2.2 ha (z_inpos hin)
      have he : (z_ws g h)[a]? = some (g_b g + a, .inl (g_A g 4, n, .inr (.inr (.inr (.inr (fun j => (f j).map (fun x => g_b g + x))))))) := by rw [z_ws_at hlt, ha]; rfl
      refine va_aldq cx.1 cx.2.1 cx.2.2.2.2.2.1.1 hR.1.2.1 a 4 he rfl hin hd ?_
      have e9 : va_rf ((f i.toNatClampNeg).map (fun x => g_b g + x)) = z_tr g (va_rf (f i.toNatClampNeg)) := by
        cases f i.toNatClampNeg <;> rfl
      rw [e9]
      exact hY _ hi H locs ls hR
    · exact hi.elim
  · exact hi.elim
theorem S_aast (cx : z_cx tab g d p l e R s m args below meth c cc own nL) {ci N : Nat} {T : u_T} (hc : vwCl[ci]? = some (z_RS, T, N)) (hd : decode cc pc = .ok (.aastore, 1)) : z_sn tab g d p l e R s m args below meth c Q nL P (pc, i_aast ci) := by
  intro L st h uc us Y hi hY H locs ls hR
  dsimp only at hi hR ⊢
  unfold i_aast at hi
  dsimp only at hi
  split at hi
  · next v i a r =>
    split at hi
    · next k n f ha =>
      obtain ⟨rfl, hin, hv, hi⟩ := hi
      split at hv
      · next o ho =>
        have hlt := z_ltL hR.1.2.2 ha (z_inpos hin)
        have hltv := z_ltR hR.1.2.2 ho
        have hi0 : i.toNatClampNeg < n := Nat.not_le.mp fun q => hin (Or.inr q)
        have he : (z_ws g h)[a]? = some (g_b g + a, .inl (g_A g 4, n, .inr (.inr (.inr (.inr (fun j => (f j).map (fun x => g_b g + x))))))) := by rw [z_ws_at hlt, ha]; rfl
        have hev : (z_ws g h)[v]? = some (g_b g + v, .inr (ci, o.2.map (z_tr g))) := by rw [z_ws_at hltv, ho, ← hv]; rfl
        obtain ⟨r', hr', cellV, g1, g2, g3, -⟩ := hR.1.2.1 v _ hev
        have hcls := (cx.2.2.2.2.2.1.1.1 ci _ hc).2
        obtain ⟨kA, comp, k1, k2, k3, -⟩ := (cx.2.2.2.2.2.1.1.2 4 _ rfl).2
        have hcomp : comp = (g_D g).1 ci := Option.some.inj (k3.symm.trans hcls.1)
        subst hcomp
        obtain ⟨kC, hkC, -⟩ := hcls.2
        refine W.aast cx.1 cx.2.1 (hR.1.2.1 a _ he) (fun q h => by cases h) (fun h => by cases h) k1 k2 rfl hkC ⟨fun q => hin (Or.inl q), by show _ < (arrV _ _ _).slots.size; rw [arrV_size]; exact hi0⟩ g1 (fun q h => by rw [g3] at h; cases h) (by rw [g2]; exact hkC) (by rw [g2]; exact va_assign hcls) rfl rfl hd fun H1 e1 e2 e3 => ?_
        refine hY _ hi H1 _ ls ⟨hR.1.cell hlt e2 ?_ e3, hR.2.1.put e2 e3 (Nat.le_add_right _ _), hR.2.2⟩
        show H1[g_b g + a]? = some (vp_cell (g_A g 4) (n, .inr (.inr (.inr (.inr (fun j => (va_up f i.toNatClampNeg (some v) j).map (fun x => g_b g + x)))))))
        rw [e1, vp_cell_q, vp_cell_q, arrV_store]
        congr 2
        funext q
        by_cases hq : q = i.toNatClampNeg
        · subst hq
          simp [updV, va_up, va_rf]
        · simp [updV, va_up, hq]
      · exact hv.elim
    · exact hi.elim
  · exact hi.elim
theorem S_alen (cx : z_cx tab g d p l e R s m args below meth c cc own nL) (hd : decode cc pc = .ok (.arraylength, 1)) : z_sn tab g d p l e R s m args below meth c Q nL P (pc, i_alen) := by
  intro L st h uc us Y hi hY H locs ls hR
  dsimp only at hi hR ⊢
  unfold i_alen at hi
  dsimp only at hi
  split at hi
  · next a r =>
    split at hi
    · next k n x ha =>
      obtain ⟨hk, hn, hi⟩ := hi
      have hlt := z_ltL hR.1.2.2 ha hn
      have he : (z_ws g h)[a]? = some (g_b g + a, .inl (g_A g k, z_ar g (n, x))) := by rw [z_ws_at hlt, ha]; rfl
      have hx : (z_ar g (n, x)).1 = n := by
        rcases x with f | f | f | f | f <;> rfl
      obtain ⟨ty, ht⟩ := z_tyk g k hk
      exact va_alen cx.1 cx.2.1 cx.2.2.2.2.2.1.1 hR.1.2.1 a k he ht (by rw [hx]) hd (hY _ hi H locs ls hR)
    · exact hi.elim
  · next j r =>
    rcases hi with ⟨rfl, hi⟩ | ⟨rfl, hi⟩
    · exact va_slen cx.1 cx.2.1 cx.2.2.2.2.2.2.1.2.2.1 (Nat.lt_of_lt_of_le cx.2.2.2.2.2.2.1.2.2.2 cx.2.2.2.2.2.2.2.1) (Nat.not_le.mpr cx.2.2.2.2.2.2.1.2.2.2) hR.2.1 hd (hY _ hi H locs ls hR)
    · exact va_tlen cx.1 cx.2.1 cx.2.2.2.2.2.2.1.2.1 hR.2.1 rfl hd (hY _ hi H locs ls hR)
  · exact hi.elim
theorem S_new (cx : z_cx tab g d p l e R s m args below meth c cc own nL) {ci ix N : Nat} {C : String} {T : u_T} {ty : Nat → FieldType} {fs : List Value} (hc : vwCl[ci]? = some (C, T, N)) (hin : ∀ w ∈ u_ws C T N, w ∈ z_WS) (hty : ∀ k, k < N → parseFieldDescriptor (T k).2.2.1 = some (ty k)) (hcl : Cond.classLink own ix C ∈ z_WS) (hin2 : Cond.instantiable C N ∈ z_WS) (hini : Cond.initialized C ∈ z_WS) (hfs : ∀ j, j < N → fs[j]? = some (defaultValue (ty j)) ∧ (defaultValue (ty j) = .int 0 ∨ defaultValue (ty j) = .null)) (hd : decode cc pc = .ok (.new ix, 3)) : z_sn tab g d p l e R s m args below meth c Q nL P (pc, i_new ci N fs) := by
  intro L st h uc us Y hi hY H locs ls hR
  dsimp only at hi hR ⊢
  unfold i_new at hi
  dsimp only at hi
  obtain ⟨hc1, hs1, hi⟩ := hi
  have hts := cx.2.2.2.2.1
  have hKn := cx.2.2.2.2.2.1.1.1 ci _ hc
  refine W.newcK cx.1 cx.2.1 cx.2.2.2.1 (hts _ hcl) (hts _ hin2) (hts _ hini) rfl hd hc1 hs1 hKn.2.1 rfl fun H1 kC hkC e1 z1 o1 => ?_
  have hw : z_Wh g (va_up h.1 h.2 (.inr (ci, fs)), h.2 + 1) H1 := hR.1.make z1 ⟨_, hc, (u_born ty hts hin hKn hkC e1 hty).to (fun j hj => by
    obtain ⟨f1, f2⟩ := hfs j hj
    show defaultValue (ty j) = ((fs.map (z_tr g)).getD j .null)
    rw [List.getD_eq_getElem?_getD, List.getElem?_map, f1]
    rcases f2 with f2 | f2 <;> rw [f2] <;> rfl)⟩ o1
  have h9 := hY _ hi H1 locs ls ⟨hw, z_S_make hR.2.1 z1 o1, hR.2.2.1, hc1, hs1⟩
  rw [hR.1.1]
  exact h9
theorem z_newa {E : zE} {L : zLc} {st : List Value} {h : zH} {uc us : Nat} {Y : zC → Prop} {kd : Nat} (q : i_newa kd E (pc, L, st, h, uc, us) Y P) : ∃ (n : Int32) (r : List Value), st = .int n :: r ∧ ¬ n < 0 ∧ n.toNatClampNeg ≤ 65536 ∧ uc + 1 ≤ E.2.1.1 ∧ us + n.toNatClampNeg ≤ E.2.1.2 ∧ Y (pc + 2, L, .ref h.2 :: r, (va_up h.1 h.2 (.inl (kd, n.toNatClampNeg, .inl (fun _ => 0))), h.2 + 1), uc + 1, us + n.toNatClampNeg) := by
  unfold i_newa at q
  dsimp only at q
  split at q
  · next n r => exact ⟨n, r, rfl, q⟩
  · exact q.elim
theorem S_newa (cx : z_cx tab g d p l e R s m args below meth c cc own nL) {kd : Nat} {at0 : ArrayType} {ty : FieldType} (hty : newarray.typeOf at0 = ty) (hk : (z_tys g)[kd]? = some (g_A g kd, ty)) (hw0 : Cond.arrayClass ty ∈ z_WS) (hby : componentBytes ty ≤ 8) (hdv : defaultValue ty = .int 0) (hnm : ∀ U cA, va_RA U cA ty → U.vm.findClass ("[" ++ ty.toString) = some cA) (hd : decode cc pc = .ok (.newarray at0, 2)) : z_sn tab g d p l e R s m args below meth c Q nL P (pc, i_newa kd) := by
  intro L st h uc us Y hi hY H locs ls hR
  dsimp only at hi hR ⊢
  obtain ⟨n, r, rfl, hn, hle, hc1, hs1, hi⟩ := z_newa hi
  subst hty
  have hts := cx.2.2.2.2.1
  have hby2 : n.toNatClampNeg * componentBytes (newarray.typeOf at0) ≤ 536870912 := by
    have := Nat.mul_le_mul hle hby
    omega
  refine va_newaK cx.1 cx.2.1 (hts _ hw0) rfl hd rfl hn rfl hby2 hc1 hs1 rfl fun H1 cA e1 z1 o1 hAr hNm => ?_
  have hcA : cA = g_A g kd := Option.some.inj (hNm.symm.trans (hnm _ _ (cx.2.2.2.2.2.1.1.2 kd _ hk).2))
  have hw : z_Wh g (va_up h.1 h.2 (.inl (kd, n.toNatClampNeg, .inl (fun _ => 0))), h.2 + 1) H1 := hR.1.make z1 (by
    show H1[H.size]? = some (vp_cell (g_A g kd) (n.toNatClampNeg, .inl (fun _ => 0)))
    rw [vp_cell_i, e1, hcA, hdv]) o1
  have h9 := hY _ hi H1 locs ls ⟨hw, z_S_make hR.2.1 z1 o1, hR.2.2.1, hc1, hs1⟩
  rw [hR.1.1]
  exact h9
theorem z_newq {E : zE} {L : zLc} {st : List Value} {h : zH} {uc us : Nat} {Y : zC → Prop} (q : i_newq E (pc, L, st, h, uc, us) Y P) : ∃ (n : Int32) (r : List Value), st = .int n :: r ∧ ¬ n < 0 ∧ n.toNatClampNeg ≤ 65536 ∧ uc + 1 ≤ E.2.1.1 ∧ us + n.toNatClampNeg ≤ E.2.1.2 ∧ Y (pc + 3, L, .ref h.2 :: r, (va_up h.1 h.2 (.inl (4, n.toNatClampNeg, .inr (.inr (.inr (.inr (fun _ => none)))))), h.2 + 1), uc + 1, us + n.toNatClampNeg) := by
  unfold i_newq at q
  dsimp only at q
  split at q
  · next n r => exact ⟨n, r, rfl, q⟩
  · exact q.elim
theorem S_newq (cx : z_cx tab g d p l e R s m args below meth c cc own nL) {ix : Nat} (hcl : Cond.classLink own ix z_RS ∈ z_WS) (hd : decode cc pc = .ok (.anewarray ix, 3)) : z_sn tab g d p l e R s m args below meth c Q nL P (pc, i_newq) := by
  intro L st h uc us Y hi hY H locs ls hR
  dsimp only at hi hR ⊢
  obtain ⟨n, r, rfl, hn, hle, hc1, hs1, hi⟩ := z_newq hi
  have hts := cx.2.2.2.2.1
  refine W.anew cx.1 cx.2.1 cx.2.2.2.1 (hts _ hcl) (va_AO.use cx.2.2.2.2.2.1.2.2) rfl hd rfl hn (by omega) hc1 hs1 fun cA kA comp f1 f2 f3 f4 => ?_
  generalize hH1 : H.push ({ cls := cA, slots := Array.replicate n.toNatClampNeg .null, vm := .none } : Cell) = H1
  have z1 : H1.size = H.size + 1 := by rw [← hH1, Array.size_push]
  have e1 : H1[H.size]? = some (arrV cA n.toNatClampNeg (fun _ => .null)) := by rw [← hH1, Array.getElem?_push_size, ← arrV_new]
  have o1 : ∀ q : Nat, q < H.size → H1[q]? = H[q]? := fun q hq => by rw [← hH1, Array.getElem?_push, if_neg (Nat.ne_of_lt hq)]
  obtain ⟨kA', comp', -, -, -, k4⟩ := (cx.2.2.2.2.2.1.1.2 4 _ rfl).2
  have hcA : cA = g_A g 4 := Option.some.inj (f1.symm.trans k4)
  have hw : z_Wh g (va_up h.1 h.2 (.inl (4, n.toNatClampNeg, .inr (.inr (.inr (.inr (fun _ => none)))))), h.2 + 1) H1 := hR.1.make z1 (by
    show H1[H.size]? = some (vp_cell (g_A g 4) (n.toNatClampNeg, .inr (.inr (.inr (.inr (fun _ => (none : Option Nat).map (fun x => g_b g + x)))))))
    rw [vp_cell_q, e1, hcA]
    rfl) o1
  have h9 := hY _ hi H1 locs ls ⟨hw, z_S_make hR.2.1 z1 o1, hR.2.2.1, hc1, hs1⟩
  rw [hR.1.1]
  exact h9
end ZS2
end
section
/-! Calls, ends, and the whole: what the small machine does, the great one does. -/
theorem z_good {r : zR} (hcw : z_cw r ∈ z_WS) : GoodIn z_WS (z_cw r :: z_WS) := fun w hw => by
  rcases List.mem_cons.mp hw with rfl | hw
  · exact ⟨hcw, z_WS_ok _ hcw⟩
  · exact ⟨hw, z_WS_ok _ hw⟩
theorem z_W.calling {g : zG} {h : zH} {U : State} (g' : JFrame) (mk : MethodId) (a : Array Value) (hw : z_W g h U) : z_W g h (U.calling g' mk a) :=
  ⟨z_Ws.same (s := U) (U := U.calling g' mk a) rfl hw.1, z_Wx.moved (s := U) (U := U.calling g' mk a) (Vm.Alike.refl U.vm) hw.2.1, hw.2.2⟩
theorem z_blind (g : zG) (h : zH) (av : List Value) : FrameBlind (va_Pc av (z_W g h)) := fun a U g' mk q => ⟨q.1, q.2.calling g' mk a⟩
theorem z_args {st : List Value} {n : Nat} {v : Value} (hn : n + 1 ≤ st.length) (h : (st.take (n + 1)).reverse[0]? = some v) : ∃ As : List Value, (st.take (n + 1)).reverse = v :: As ∧ As.length = n ∧ st = As.reverse ++ v :: st.drop (n + 1) := by
  cases hr : (st.take (n + 1)).reverse with
  | nil => rw [hr] at h; cases h
  | cons a As =>
    rw [hr] at h
    cases h
    have hl : (v :: As).length = n + 1 := by rw [← hr, List.length_reverse, List.length_take]; omega
    have ht : st.take (n + 1) = As.reverse ++ [v] := by
      have := congrArg List.reverse hr
      rw [List.reverse_reverse, List.reverse_cons] at this
      exact this
    refine ⟨As, rfl, by simpa using hl, ?_⟩
    conv => lhs; rw [← List.take_append_drop (n + 1) st]
    rw [ht, List.append_assoc]
    rfl
section ZS3
variable {tab : List zR} {g : zG} {d : Nat} {p : Program} {l : Launch} {e : Env} {R : Room} {s : State} {m : MethodId} {args : Array Value} {below : List Frame} {meth : Method} {c : Code} {Q : State → Prop} {cc : ByteArray} {own : String} {nL : Nat} {P : zP} {pc : Nat}
theorem z_callg {H : Heap} {locs : List Loc} {cells slots mc ms : Nat} {ls : Array Slot} {rest st0 : List Value} {a : Array Value} {P1 : zP} (hr : va_Run p l e R s m args below meth c H locs cells slots mc ms (F0 m pc ls st0) rest (z_Q g P1 a) (z_A g)) (hS : va_S (z_A g) s.heap H locs)
    (kk : ∀ (r : Option Value) (h' : zH) (H1 : Heap) (locs1 : List Loc), P1 r h' → z_Wh g h' H1 → va_S (z_A g) s.heap H1 locs1 → W p l e R s m args below meth c H1 locs1 (cells + mc) (slots + ms) Q (F0 m (pc + 3) ls ((r.map (z_tr g)).toList ++ rest))) : W p l e R s m args below meth c H locs cells slots Q (F0 m pc ls st0) := by
  intro T hT X
  obtain ⟨v, st₀, t, T', L, h0, X', hL, e1, e2, ⟨⟨r, h', hp, hv, hw⟩, hz, hk⟩, st⟩ := hr T hT X
  cases hv
  rw [h0] at hz hk
  obtain ⟨t2, a1, b1⟩ := kk r h' T'.heap (locs ++ L) hp (by rw [e1]; exact hw.2.2)
    ⟨Nat.le_trans hS.1 (by rw [e1]; exact hz), fun q h1 h2 => by rw [e1, hk q (Nat.lt_of_lt_of_le h1 hS.1) h2]; exact hS.2.1 q h1 h2, fun q hq => by
      rcases List.mem_append.mp hq with h | h
      · exact hS.2.2 q h
      · exact hL q h⟩ T' rfl X'
  exact ⟨t2, st t2 a1, b1⟩
theorem z_pre (cx : z_cx tab g d p l e R s m args below meth c cc own nL) {h : zH} {H : Heap} {locs : List Loc} (hw : z_Wh g h H) (hS : va_S (z_A g) s.heap H locs) {U : State} (hU : U.heap = H) (hW : s.WarmedH U.vm) : z_W g h U :=
  ⟨cx.2.2.2.2.2.1.warm hW, by rw [hU]; exact (cx.2.2.2.2.2.2.1.kept cx.2.2.2.2.2.2.2.1 hS.2.1).moved hW.alike, by rw [hU]; exact hw⟩
theorem z_toL (r : Option Value) (rest : List Value) : (r.map (z_tr g)).toList ++ rest.map (z_tr g) = (r.toList ++ rest).map (z_tr g) := by
  cases r <;> rfl
theorem z_cats {rest : List Value} (h : (rest.map fun v => v.category).sum ≤ 8) : ((rest.map (z_tr g)).map fun v => v.category).sum ≤ 8 := by
  rw [List.map_map]
  have : ((fun v : Value => v.category) ∘ z_tr g) = (fun v : Value => v.category) := funext fun v => z_tr_cat g v
  rw [this]
  exact h
/-- what a call needs of the callee's row -/
def z_cr (own : String) (r : zR) (n : Nat) : Prop := z_cw r ∈ z_WS ∧ Cond.initialized r.1.cls ∈ z_WS ∧ r.2.2.1 ≤ 24 ∧ (r.1.cls ≠ "java/lang/invoke/MethodHandle" ∧ r.1.cls ≠ "java/lang/invoke/VarHandle" ∧ (parseMethodDescriptor r.1.desc).map (fun d => d.parameters.length) = some n)
theorem z_cb (cx : z_cx tab g d p l e R s m args below meth c cc own nL) {r : zR} {n ix mc ms : Nat} (hr : z_cr own r n) (hl : Cond.methodLink own ix r.1 ∈ z_WS) : CallB R s args own ix r.1 r.2.1 r.2.2.1 r.2.2.2.1 (z_cw r :: z_WS) (z_rm d mc ms) mc ms n := by
  obtain ⟨h1, h2, h3, h4⟩ := hr
  have e1 := cx.2.2.2.2.2.2.2.2.1
  have e2 := cx.2.2.2.2.2.2.2.2.2.1
  exact callB_of n cx.2.2.2.2.1 (z_good h1) rfl rfl rfl (cx.2.2.2.2.1 _ h2) (cx.2.2.2.2.1 _ hl) h4 ⟨e1, by show 8 + (r.2.2.1 + 11) + d * 43 ≤ R.locals; omega⟩
theorem z_cn (cx : z_cx tab g d p l e R s m args below meth c cc own nL) {r : zR} {n ix mc ms : Nat} {host : String} (hr : z_cr own r n) (hl : Cond.methodLinkNest own ix r.1 host ∈ z_NW) : va_CN R s args own ix r.1 host r.2.1 r.2.2.1 r.2.2.2.1 (z_cw r :: z_WS) (z_rm d mc ms) mc ms n := by
  obtain ⟨h1, h2, h3, h4⟩ := hr
  have e1 := cx.2.2.2.2.2.2.2.2.1
  have e2 := cx.2.2.2.2.2.2.2.2.2.1
  exact va_cnB n cx.2.2.2.2.1 (z_good h1) rfl rfl rfl (cx.2.2.2.2.2.1.2.1 _ hl) (cx.2.2.2.2.1 _ h2) h4 ⟨e1, by show 8 + (r.2.2.1 + 11) + d * 43 ≤ R.locals; omega⟩
theorem S_callV (cx : z_cx tab g d p l e R s m args below meth c cc own nL) {ci mi n ix N : Nat} {T : u_T} {r : zR} (ht : tab[mi]? = some r) (hr : z_cr own r n) (hl : Cond.methodLink own ix r.1 ∈ z_WS) (hi1 : Cond.instanceMethod r.1 ∈ z_WS) (hs1 : Cond.selects r.1.cls r.1 r.1 ∈ z_WS) (hc : vwCl[ci]? = some (r.1.cls, T, N)) (hd : decode cc pc = .ok (.invokevirtual ix, 3)) : z_sn tab g d p l e R s m args below meth c Q nL P (pc, i_callV ci mi n) := by
  intro L st h uc us Y hi hY H locs ls hR
  dsimp only at hi hR ⊢
  unfold i_callV z_call at hi
  dsimp only at hi
  obtain ⟨⟨v, hv, hrv⟩, hn, hcat, mc, ms, P1, hM, hc1, hs2, hi⟩ := hi
  obtain ⟨As, hA, hAl, hst⟩ := z_args hn hv
  rw [hA] at hM
  have hmet := cx.2.2.2.2.2.2.2.2.2.2 mi (v :: As) h mc ms P1 r hM ht
  cases v with
  | ref a =>
    unfold z_recv at hrv
    dsimp only at hrv
    split at hrv
    · next o ho =>
      have hlt := z_ltR hR.1.2.2 ho
      have he : (z_ws g h)[a]? = some (g_b g + a, .inr (ci, o.2.map (z_tr g))) := by rw [z_ws_at hlt, ho, ← hrv]; rfl
      have hrc := va_recv cx.2.2.2.2.2.1.1 hR.1.2.1 hc he
      have hstk : st.map (z_tr g) = (As.map (z_tr g)).reverse ++ .ref (g_b g + a) :: (st.drop (n + 1)).map (z_tr g) := by
        conv => lhs; rw [hst]
        rw [List.map_append, List.map_reverse, List.map_cons]
        rfl
      refine z_callg (va_runV (C := r.1.cls) (b := g_b g + a) (As := As.map (z_tr g)) (rest := (st.drop (n + 1)).map (z_tr g)) ⟨cx.1, cx.2.1, cx.2.2.1, cx.2.2.2.1, cx.2.2.2.2.1⟩ hmet ⟨z_cb cx hr hl, cx.2.2.2.2.1 _ hi1, cx.2.2.2.2.1 _ hs1⟩ ⟨z_blind g h _, hrc, fun U hU hW => ⟨rfl, z_pre cx hR.1 hR.2.1 hU hW⟩⟩ rfl (by rw [List.length_map]; exact hAl) hR.2.2.1.1 hstk (lv_room (z_cats hcat)) hd ⟨hc1, hs2⟩) hR.2.1 (fun r' h' H1 locs1 hp hw1 hS1 => ?_)
      rw [z_toL]
      exact hY _ (hi r' h' hp) H1 locs1 ls ⟨hw1, hS1, hR.2.2.1, hc1, hs2⟩
    · exact hrv.elim
  | _ => exact hrv.elim
theorem S_callVN (cx : z_cx tab g d p l e R s m args below meth c cc own nL) {ci mi n ix N : Nat} {T : u_T} {r : zR} (ht : tab[mi]? = some r) (hr : z_cr own r n) {host : String} (hl : Cond.methodLinkNest own ix r.1 host ∈ z_NW) (hi1 : Cond.instanceMethod r.1 ∈ z_WS) (hs1 : Cond.selects r.1.cls r.1 r.1 ∈ z_WS) (hc : vwCl[ci]? = some (r.1.cls, T, N)) (hd : decode cc pc = .ok (.invokevirtual ix, 3)) : z_sn tab g d p l e R s m args below meth c Q nL P (pc, i_callV ci mi n) := by
  intro L st h uc us Y hi hY H locs ls hR
  dsimp only at hi hR ⊢
  unfold i_callV z_call at hi
  dsimp only at hi
  obtain ⟨⟨v, hv, hrv⟩, hn, hcat, mc, ms, P1, hM, hc1, hs2, hi⟩ := hi
  obtain ⟨As, hA, hAl, hst⟩ := z_args hn hv
  rw [hA] at hM
  have hmet := cx.2.2.2.2.2.2.2.2.2.2 mi (v :: As) h mc ms P1 r hM ht
  cases v with
  | ref a =>
    unfold z_recv at hrv
    dsimp only at hrv
    split at hrv
    · next o ho =>
      have hlt := z_ltR hR.1.2.2 ho
      have he : (z_ws g h)[a]? = some (g_b g + a, .inr (ci, o.2.map (z_tr g))) := by rw [z_ws_at hlt, ho, ← hrv]; rfl
      have hrc := va_recv cx.2.2.2.2.2.1.1 hR.1.2.1 hc he
      have hstk : st.map (z_tr g) = (As.map (z_tr g)).reverse ++ .ref (g_b g + a) :: (st.drop (n + 1)).map (z_tr g) := by
        conv => lhs; rw [hst]
        rw [List.map_append, List.map_reverse, List.map_cons]
        rfl
      refine z_callg (va_runVN (C := r.1.cls) (b := g_b g + a) (As := As.map (z_tr g)) (rest := (st.drop (n + 1)).map (z_tr g)) ⟨cx.1, cx.2.1, cx.2.2.1, cx.2.2.2.1, cx.2.2.2.2.1⟩ hmet ⟨z_cn cx hr hl, cx.2.2.2.2.1 _ hi1, cx.2.2.2.2.1 _ hs1⟩ ⟨z_blind g h _, hrc, fun U hU hW => ⟨rfl, z_pre cx hR.1 hR.2.1 hU hW⟩⟩ rfl (by rw [List.length_map]; exact hAl) hR.2.2.1.1 hstk (lv_room (z_cats hcat)) hd ⟨hc1, hs2⟩) hR.2.1 (fun r' h' H1 locs1 hp hw1 hS1 => ?_)
      rw [z_toL]
      exact hY _ (hi r' h' hp) H1 locs1 ls ⟨hw1, hS1, hR.2.2.1, hc1, hs2⟩
    · exact hrv.elim
  | _ => exact hrv.elim
theorem S_callS (cx : z_cx tab g d p l e R s m args below meth c cc own nL) {mi n ix : Nat} {r : zR} (ht : tab[mi]? = some r) (hr : z_cr own r n) (hl : Cond.methodLink own ix r.1 ∈ z_WS) (hs1 : Cond.static r.1 ∈ z_WS) (hd : decode cc pc = .ok (.invokestatic ix, 3)) : z_sn tab g d p l e R s m args below meth c Q nL P (pc, i_callS mi n) := by
  intro L st h uc us Y hi hY H locs ls hR
  dsimp only at hi hR ⊢
  unfold i_callS z_call at hi
  dsimp only at hi
  obtain ⟨hn, hcat, mc, ms, P1, hM, hc1, hs2, hi⟩ := hi
  have hmet := cx.2.2.2.2.2.2.2.2.2.2 mi _ h mc ms P1 r hM ht
  have hstk : st.map (z_tr g) = (((st.take n).reverse).map (z_tr g)).reverse ++ (st.drop n).map (z_tr g) := by
    rw [List.map_reverse, List.reverse_reverse, ← List.map_append, List.take_append_drop]
  refine z_callg (va_runS (As := ((st.take n).reverse).map (z_tr g)) (rest := (st.drop n).map (z_tr g)) ⟨cx.1, cx.2.1, cx.2.2.1, cx.2.2.2.1, cx.2.2.2.2.1⟩ hmet ⟨z_cb cx hr hl, cx.2.2.2.2.1 _ hs1⟩ ⟨z_blind g h _, fun U hU hW => ⟨rfl, z_pre cx hR.1 hR.2.1 hU hW⟩⟩ rfl (by rw [List.length_map, List.length_reverse, List.length_take]; omega) hR.2.2.1.1 hstk (lv_room (z_cats hcat)) hd ⟨hc1, hs2⟩) hR.2.1 (fun r' h' H1 locs1 hp hw1 hS1 => ?_)
  rw [z_toL]
  exact hY _ (hi r' h' hp) H1 locs1 ls ⟨hw1, hS1, hR.2.2.1, hc1, hs2⟩
theorem S_callSN (cx : z_cx tab g d p l e R s m args below meth c cc own nL) {mi n ix : Nat} {r : zR} (ht : tab[mi]? = some r) (hr : z_cr own r n) {host : String} (hl : Cond.methodLinkNest own ix r.1 host ∈ z_NW) (hs1 : Cond.static r.1 ∈ z_WS) (hd : decode cc pc = .ok (.invokestatic ix, 3)) : z_sn tab g d p l e R s m args below meth c Q nL P (pc, i_callS mi n) := by
  intro L st h uc us Y hi hY H locs ls hR
  dsimp only at hi hR ⊢
  unfold i_callS z_call at hi
  dsimp only at hi
  obtain ⟨hn, hcat, mc, ms, P1, hM, hc1, hs2, hi⟩ := hi
  have hmet := cx.2.2.2.2.2.2.2.2.2.2 mi _ h mc ms P1 r hM ht
  have hstk : st.map (z_tr g) = (((st.take n).reverse).map (z_tr g)).reverse ++ (st.drop n).map (z_tr g) := by
    rw [List.map_reverse, List.reverse_reverse, ← List.map_append, List.take_append_drop]
  refine z_callg (va_runSN (As := ((st.take n).reverse).map (z_tr g)) (rest := (st.drop n).map (z_tr g)) ⟨cx.1, cx.2.1, cx.2.2.1, cx.2.2.2.1, cx.2.2.2.2.1⟩ hmet ⟨z_cn cx hr hl, cx.2.2.2.2.1 _ hs1, trivial⟩ ⟨z_blind g h _, fun U hU hW => ⟨rfl, z_pre cx hR.1 hR.2.1 hU hW⟩⟩ rfl (by rw [List.length_map, List.length_reverse, List.length_take]; omega) hR.2.2.1.1 hstk (lv_room (z_cats hcat)) hd ⟨hc1, hs2⟩) hR.2.1 (fun r' h' H1 locs1 hp hw1 hS1 => ?_)
  rw [z_toL]
  exact hY _ (hi r' h' hp) H1 locs1 ls ⟨hw1, hS1, hR.2.2.1, hc1, hs2⟩
theorem S_callI (cx : z_cx tab g d p l e R s m args below meth c cc own nL) {mi n ix : Nat} {r : zR} (ht : tab[mi]? = some r) (hr : z_cr own r n) (hl : Cond.methodLink own ix r.1 ∈ z_WS) (hi1 : Cond.instanceMethod r.1 ∈ z_WS) (hy : r.1.name = "<init>") (hrt : r.2.2.2.1 = none) (hd : decode cc pc = .ok (.invokespecial ix, 3)) : z_sn tab g d p l e R s m args below meth c Q nL P (pc, i_callI mi n) := by
  intro L st h uc us Y hi hY H locs ls hR
  dsimp only at hi hR ⊢
  unfold i_callI z_call at hi
  dsimp only at hi
  obtain ⟨⟨a, hv⟩, hn, hcat, mc, ms, P1, hM, hc1, hs2, hi⟩ := hi
  obtain ⟨As, hA, hAl, hst⟩ := z_args hn hv
  rw [hA] at hM
  have hmet := cx.2.2.2.2.2.2.2.2.2.2 mi (.ref a :: As) h mc ms P1 r hM ht
  have hstk : st.map (z_tr g) = (As.map (z_tr g)).reverse ++ .ref (g_b g + a) :: (st.drop (n + 1)).map (z_tr g) := by
    conv => lhs; rw [hst]
    rw [List.map_append, List.map_reverse, List.map_cons]
    rfl
  have hcw := z_cb (mc := mc) (ms := ms) cx hr hl
  rw [hrt] at hcw
  refine z_callg (va_runI (b := g_b g + a) (As := As.map (z_tr g)) (rest := (st.drop (n + 1)).map (z_tr g)) ⟨cx.1, cx.2.1, cx.2.2.1, cx.2.2.2.1, cx.2.2.2.2.1⟩ hmet ⟨hcw, hy, cx.2.2.2.2.1 _ hi1⟩ ⟨z_blind g h _, fun U hU hW => ⟨rfl, z_pre cx hR.1 hR.2.1 hU hW⟩⟩ rfl (by rw [List.length_map]; exact hAl) hR.2.2.1.1 hstk (lv_room (z_cats hcat)) hd ⟨hc1, hs2⟩) hR.2.1 (fun r' h' H1 locs1 hp hw1 hS1 => ?_)
  rw [z_toL]
  exact hY _ (hi r' h' hp) H1 locs1 ls ⟨hw1, hS1, hR.2.2.1, hc1, hs2⟩
theorem S_callIN (cx : z_cx tab g d p l e R s m args below meth c cc own nL) {mi n ix : Nat} {r : zR} (ht : tab[mi]? = some r) (hr : z_cr own r n) {host : String} (hl : Cond.methodLinkNest own ix r.1 host ∈ z_NW) (hi1 : Cond.instanceMethod r.1 ∈ z_WS) (hy : r.1.name = "<init>") (hrt : r.2.2.2.1 = none) (hd : decode cc pc = .ok (.invokespecial ix, 3)) : z_sn tab g d p l e R s m args below meth c Q nL P (pc, i_callI mi n) := by
  intro L st h uc us Y hi hY H locs ls hR
  dsimp only at hi hR ⊢
  unfold i_callI z_call at hi
  dsimp only at hi
  obtain ⟨⟨a, hv⟩, hn, hcat, mc, ms, P1, hM, hc1, hs2, hi⟩ := hi
  obtain ⟨As, hA, hAl, hst⟩ := z_args hn hv
  rw [hA] at hM
  have hmet := cx.2.2.2.2.2.2.2.2.2.2 mi (.ref a :: As) h mc ms P1 r hM ht
  have hstk : st.map (z_tr g) = (As.map (z_tr g)).reverse ++ .ref (g_b g + a) :: (st.drop (n + 1)).map (z_tr g) := by
    conv => lhs; rw [hst]
    rw [List.map_append, List.map_reverse, List.map_cons]
    rfl
  have hcw := z_cn (mc := mc) (ms := ms) cx hr hl
  rw [hrt] at hcw
  refine z_callg (va_runIN (b := g_b g + a) (As := As.map (z_tr g)) (rest := (st.drop (n + 1)).map (z_tr g)) ⟨cx.1, cx.2.1, cx.2.2.1, cx.2.2.2.1, cx.2.2.2.2.1⟩ hmet ⟨hcw, hy, cx.2.2.2.2.1 _ hi1⟩ ⟨z_blind g h _, fun U hU hW => ⟨rfl, z_pre cx hR.1 hR.2.1 hU hW⟩⟩ rfl (by rw [List.length_map]; exact hAl) hR.2.2.1.1 hstk (lv_room (z_cats hcat)) hd ⟨hc1, hs2⟩) hR.2.1 (fun r' h' H1 locs1 hp hw1 hS1 => ?_)
  rw [z_toL]
  exact hY _ (hi r' h' hp) H1 locs1 ls ⟨hw1, hS1, hR.2.2.1, hc1, hs2⟩
theorem S_mmax (cx : z_cx tab g d p l e R s m args below meth c cc own nL) {ix : Nat} (hl : Cond.methodLink own ix Lib.Math.max.name ∈ z_WS) (h1 : Cond.static Lib.Math.max.name ∈ z_WS) (h2 : Cond.initialized "java/lang/Math" ∈ z_WS) (h3 : Cond.code Lib.Math.max.name Lib.Math.max.code 2 (some .int) ∈ z_WS) (hd : decode cc pc = .ok (.invokestatic ix, 3)) : z_sn tab g d p l e R s m args below meth c Q nL P (pc, i_math (fun x y => if x < y then y else x)) := by
  intro L st h uc us Y hi hY H locs ls hR
  dsimp only at hi hR ⊢
  unfold i_math at hi
  dsimp only at hi
  have hts := cx.2.2.2.2.1
  have e1 := cx.2.2.2.2.2.2.2.2.1
  have e2 := cx.2.2.2.2.2.2.2.2.2.1
  split at hi
  · next y x r =>
    have hk := z_cats (g := g) hi.1
    exact va_mmax cx.1 cx.2.1 (cx.2.2.1.trans hR.2.2.1.1.symm) cx.2.2.2.1 (hts _ hl) (hts _ h1) (hts _ h2) (hts _ h3) (by omega) (by omega) hR.2.2.2.1 hR.2.2.2.2 hd (hY _ hi.2 H locs ls hR)
  · exact hi.elim
theorem S_mmin (cx : z_cx tab g d p l e R s m args below meth c cc own nL) {ix : Nat} (hl : Cond.methodLink own ix Lib.Math.min.name ∈ z_WS) (h1 : Cond.static Lib.Math.min.name ∈ z_WS) (h2 : Cond.initialized "java/lang/Math" ∈ z_WS) (h3 : Cond.code Lib.Math.min.name Lib.Math.min.code 2 (some .int) ∈ z_WS) (hd : decode cc pc = .ok (.invokestatic ix, 3)) : z_sn tab g d p l e R s m args below meth c Q nL P (pc, i_math (fun x y => if y < x then y else x)) := by
  intro L st h uc us Y hi hY H locs ls hR
  dsimp only at hi hR ⊢
  unfold i_math at hi
  dsimp only at hi
  have hts := cx.2.2.2.2.1
  have e1 := cx.2.2.2.2.2.2.2.2.1
  have e2 := cx.2.2.2.2.2.2.2.2.2.1
  split at hi
  · next y x r =>
    have hk := z_cats (g := g) hi.1
    exact va_mmin cx.1 cx.2.1 (cx.2.2.1.trans hR.2.2.1.1.symm) cx.2.2.2.1 (hts _ hl) (hts _ h1) (hts _ h2) (hts _ h3) (by omega) (by omega) hR.2.2.2.1 hR.2.2.2.2 hd (hY _ hi.2 H locs ls hR)
  · exact hi.elim
theorem S_oini (cx : z_cx tab g d p l e R s m args below meth c cc own nL) {ix : Nat} (hl : Cond.methodLink own ix objectInit ∈ z_WS) (h1 : Cond.instanceMethod objectInit ∈ z_WS) (h2 : Cond.code objectInit ⟨#[0xb1]⟩ 1 none ∈ z_WS) (hd : decode cc pc = .ok (.invokespecial ix, 3)) : z_sn tab g d p l e R s m args below meth c Q nL P (pc, i_oini) := by
  intro L st h uc us Y hi hY H locs ls hR
  dsimp only at hi hR ⊢
  unfold i_oini at hi
  dsimp only at hi
  have hts := cx.2.2.2.2.1
  have e1 := cx.2.2.2.2.2.2.2.2.1
  have e2 := cx.2.2.2.2.2.2.2.2.2.1
  split at hi
  · next a r =>
    have hk := z_cats (g := g) hi.1
    exact W.objInit cx.1 cx.2.1 cx.2.2.2.1 (hts _ hl) (hts _ h1) (hts _ h2) rfl (hR.2.2.1.1.trans cx.2.2.1.symm) rfl hd (by omega) (by show 2 * 0 + _ + 12 ≤ _; omega) (hY _ hi.2 H locs ls hR)
  · exact hi.elim
def z_okI (r : Option Value) : Prop := ∃ v, r = some (.int v)
def z_okZ (r : Option Value) : Prop := ∃ v, r = some (.int v) ∧ (v = 0 ∨ v = 1)
def z_okA (r : Option Value) : Prop := r = some .null ∨ ∃ a, r = some (.ref a)
def z_okV (r : Option Value) : Prop := r = none
theorem S_iret (he : z_end g p l e R s m args below meth c Q cc P .ireturn z_okI) (hd : decode cc pc = .ok (.ireturn, 1)) : z_sn tab g d p l e R s m args below meth c Q nL P (pc, i_iret) := by
  intro L st h uc us Y hi hY H locs ls hR
  dsimp only at hi hR ⊢
  unfold i_iret at hi
  dsimp only at hi
  split at hi
  · exact he _ h uc us H locs ls pc ⟨_, rfl⟩ hi hR.1 hR.2.1 hR.2.2.2.1 hR.2.2.2.2 hd
  · exact hi.elim
theorem S_zret (he : z_end g p l e R s m args below meth c Q cc P .ireturn z_okZ) (hd : decode cc pc = .ok (.ireturn, 1)) : z_sn tab g d p l e R s m args below meth c Q nL P (pc, i_zret) := by
  intro L st h uc us Y hi hY H locs ls hR
  dsimp only at hi hR ⊢
  unfold i_zret at hi
  dsimp only at hi
  split at hi
  · exact he _ h uc us H locs ls pc ⟨_, rfl, hi.1⟩ hi.2 hR.1 hR.2.1 hR.2.2.2.1 hR.2.2.2.2 hd
  · exact hi.elim
theorem S_aret (he : z_end g p l e R s m args below meth c Q cc P .areturn z_okA) (hd : decode cc pc = .ok (.areturn, 1)) : z_sn tab g d p l e R s m args below meth c Q nL P (pc, i_aret) := by
  intro L st h uc us Y hi hY H locs ls hR
  dsimp only at hi hR ⊢
  unfold i_aret at hi
  dsimp only at hi
  split at hi
  · exact he _ h uc us H locs ls pc (Or.inr ⟨_, rfl⟩) hi hR.1 hR.2.1 hR.2.2.2.1 hR.2.2.2.2 hd
  · exact he _ h uc us H locs ls pc (Or.inl rfl) hi hR.1 hR.2.1 hR.2.2.2.1 hR.2.2.2.2 hd
  · exact hi.elim
theorem S_vret (he : z_end g p l e R s m args below meth c Q cc P .return_ z_okV) (hd : decode cc pc = .ok (.return_, 1)) : z_sn tab g d p l e R s m args below meth c Q nL P (pc, i_vret) := by
  intro L st h uc us Y hi hY H locs ls hR
  dsimp only at hi hR ⊢
  unfold i_vret at hi
  dsimp only at hi
  split at hi
  · exact he _ h uc us H locs ls pc rfl hi hR.1 hR.2.1 hR.2.2.2.1 hR.2.2.2.2 hd
  · exact hi.elim
theorem z_lk1_mem : ∀ (c1 : List (Nat × zI)) (pc : Nat) (ins : zI), z_lk1 c1 pc = some ins → (pc, ins) ∈ c1
  | [], _, _, h => by cases h
  | q :: r, pc, ins, h => by
    unfold z_lk1 at h
    cases hb : Nat.beq q.1 pc with
    | true =>
      rw [hb] at h
      have e1 : q.1 = pc := Nat.eq_of_beq_eq_true hb
      have e2 : q.2 = ins := Option.some.inj h
      rw [← e1, ← e2]
      exact List.mem_cons_self
    | false =>
      rw [hb] at h
      exact List.mem_cons_of_mem _ (z_lk1_mem r pc ins h)
theorem z_lk_mem : ∀ (cd : zCd) (pc : Nat) (ins : zI), z_lk cd pc = some ins → ∃ q ∈ cd, (pc, ins) ∈ q.2
  | [], _, _, h => by cases h
  | q :: r, pc, ins, h => by
    unfold z_lk at h
    cases hb : Nat.blt pc q.1 with
    | true =>
      rw [hb] at h
      exact ⟨q, List.mem_cons_self, z_lk1_mem _ _ _ h⟩
    | false =>
      rw [hb] at h
      obtain ⟨x, h1, h2⟩ := z_lk_mem r pc ins h
      exact ⟨x, List.mem_cons_of_mem _ h1, h2⟩
/-- a body's run -/
theorem z_run {cd : zCd} {c0 : zC} (hs : ∀ q ∈ cd, ∀ x ∈ q.2, z_sn tab g d p l e R s m args below meth c Q nL P x) (h : zS (zMt tab (g_n g, g_x g) d, (R.cells, R.slots), (g_n g, g_x g)) cd P c0) : z_X g p l e R s m args below meth c Q nL c0 := by
  refine h _ (fun c' ins Y hl hi hY => ?_)
  obtain ⟨pc, L, st, h, uc, us⟩ := c'
  obtain ⟨q, hq, hx⟩ := z_lk_mem cd pc ins hl
  exact hs q hq _ hx L st h uc us Y hi hY
/-- the ends that a method has, by what it answers -/
def z_fin (g : zG) (p : Program) (l : Launch) (e : Env) (R : Room) (s : State) (m : MethodId) (args : Array Value) (below : List Frame) (meth : Method) (c : Code) (Q : State → Prop) (cc : ByteArray) (P : zP) (ret : Option FieldType) : Prop :=
  (ret = none → z_end g p l e R s m args below meth c Q cc P .return_ z_okV) ∧ (ret = some .int → z_end g p l e R s m args below meth c Q cc P .ireturn z_okI) ∧ (ret = some .boolean → z_end g p l e R s m args below meth c Q cc P .ireturn z_okZ) ∧ (∀ n, ret = some (.object n) → z_end g p l e R s m args below meth c Q cc P .areturn z_okA)
end ZS3
theorem z_k {α : Type} {p : α → Prop} {a : α} {l : List α} (h : p a) (k : ∀ x ∈ l, p x) : ∀ x ∈ a :: l, p x := List.forall_mem_cons.mpr ⟨h, k⟩
theorem z_k0 {α : Type} {p : α → Prop} : ∀ x ∈ ([] : List α), p x := fun _ h => absurd h List.not_mem_nil
/-- a method's row is right -/
def z_snd (tab : List zR) (r : zR) : Prop := plainName r.1.cls = true ∧ z_cw r ∈ z_WS ∧ ∀ (g : zG) (d : Nat) (p : Program) (l : Launch) (e : Env) (R : Room) (s : State) (m : MethodId) (args : Array Value) (below : List Frame) (meth : Method) (c : Code) (Q : State → Prop) (P : zP), z_cx tab g d p l e R s m args below meth c r.2.1 r.1.cls r.2.2.1 → meth.name = r.1.name → z_fin g p l e R s m args below meth c Q r.2.1 P r.2.2.2.1 → ∀ q ∈ r.2.2.2.2, ∀ x ∈ q.2, z_sn tab g d p l e R s m args below meth c Q r.2.2.1 P x
theorem z_lr_entry {g : zG} {as : List Value} {n : Nat} (hl : as.length ≤ n) (hc : ∀ v ∈ as, v.category = 1) {ls : Array Slot} (h : lv_has ls n (lv_args 0 (as.map (z_tr g)))) : z_lr g ls (as.map some ++ List.replicate (n - as.length) none) n := by
  refine ⟨h.1, by simp; omega, h.2.1, fun i v hi => ?_⟩
  have key : ∀ (as : List Value) (k i : Nat) (v : Value), (∀ v ∈ as, v.category = 1) → as[i]? = some v → (k + i, z_tr g v) ∈ lv_args k (as.map (z_tr g)) := by
    intro as
    induction as with
    | nil => intro k i v _ h; simp at h
    | cons a as ih =>
      intro k i v hc h
      have ha : ¬ (z_tr g a).category = 2 := by rw [z_tr_cat, hc a List.mem_cons_self]; decide
      show _ ∈ (k, z_tr g a) :: lv_args (if (z_tr g a).category = 2 then k + 2 else k + 1) (as.map (z_tr g))
      rw [if_neg ha]
      cases i with
      | zero =>
        rw [List.getElem?_cons_zero] at h
        cases h
        exact List.mem_cons_self
      | succ i =>
        rw [List.getElem?_cons_succ] at h
        have := ih (k + 1) i v (fun v hv => hc v (List.mem_cons_of_mem _ hv)) h
        rw [show k + (i + 1) = k + 1 + i by omega]
        exact List.mem_cons_of_mem _ this
  by_cases hia : i < as.length
  · rw [List.getElem?_append_left (by rw [List.length_map]; exact hia), List.getElem?_map] at hi
    cases hv : as[i]? with
    | none => rw [hv] at hi; cases hi
    | some w =>
      rw [hv] at hi
      cases hi
      have hm := key as 0 i v hc hv
      rw [Nat.zero_add] at hm
      exact ⟨hc v (List.mem_of_getElem? hv), h.2.2 _ hm⟩
  · rw [List.getElem?_append_right (by rw [List.length_map]; omega), List.getElem?_replicate] at hi
    split at hi <;> cases hi
theorem z_sl_len {g : zG} {as : List Value} (hc : ∀ v ∈ as, v.category = 1) : (lg_sl (as.map (z_tr g))).length = as.length := by
  induction as with
  | nil => rfl
  | cons a as ih =>
    have ha : ¬ (z_tr g a).category = 2 := by rw [z_tr_cat, hc a List.mem_cons_self]; decide
    have := ih (fun v hv => hc v (List.mem_cons_of_mem _ hv))
    unfold lg_sl at this ⊢
    rw [List.map_cons, List.flatMap_cons, List.length_append, this, if_neg ha]
    simp
    omega
/-- every contract of the small machine is one of the great one -/
theorem z_ok_all {tab : List zR} (hT : ∀ r ∈ tab, z_snd tab r) (g : zG) (l : Launch) : ∀ d, z_ok tab g l d
  | 0 => fun _ _ _ _ _ _ _ h _ => h.elim
  | d + 1 => by
    intro mi as h mc ms P r hM hr
    obtain ⟨r', hr', hlen, hcat, hS⟩ := hM
    cases hr.symm.trans hr'
    obtain ⟨hy, -, hsnd⟩ := hT r (List.mem_of_getElem? hr)
    refine Met.ofW (cc := r.2.1) (maxL := r.2.2.1) (ret := r.2.2.2.1) hy rfl ?_
    intro p e s m args below meth c s₁ B hml hv
    obtain ⟨rfl, hW⟩ := hv
    have cx : z_cx tab g d p l e (z_rm (d + 1) mc ms) s m (as.map (z_tr g)).toArray below meth c r.2.1 r.1.cls r.2.2.1 :=
      ⟨B.exec, B.bytes, hml, findClass_of_methodNamed B.named, fun w hw => atoms_spec (ws := z_cw r :: z_WS) B.pre w (List.mem_cons_of_mem _ hw), hW.1, hW.2.1, by rw [hW.2.2.1]; exact Nat.le_add_right _ _, Nat.le_refl _, Nat.le_refl _, z_ok_all hT g l d⟩
    have hnm : meth.name = r.1.name := (name_of_methodNamed B.named B.method).1
    have hlk := B.notSynchronized
    have hq : ∀ (r : Option Value) (h : zH) (H : Heap) (locs : List Loc), P r h → z_Wh g h H → va_S (z_A g) s.heap H locs → ∀ t : State, t.heap = H → s.WarmedH t.vm → z_Q g P (as.map (z_tr g)).toArray s (.returned (r.map (z_tr g))) t := fun r h H locs hp hw hS t ht hWm => ⟨⟨r, h, hp, rfl, z_pre cx hw hS ht hWm⟩, hS.F ht⟩
    have hfin : z_fin g p l e (z_rm (d + 1) mc ms) s m (as.map (z_tr g)).toArray below meth c (MQ below (z_Q g P) (as.map (z_tr g)).toArray s mc ms (z_A g)) r.2.1 P r.2.2.2.1 := by
      refine ⟨fun hret => ?_, fun hret => ?_, fun hret => ?_, fun n hret => ?_⟩
      · intro r1 h1 uc us H locs ls pc hok hp hw hS hu1 hu2 hd
        cases hok
        refine W.widen (k := mc) (n := ms) hu1 hu2 ?_
        exact W.vret B.exec B.bytes (B.returns.trans hret) (hq none h1 H locs hp hw hS) hS.2.2 hd
      · intro r1 h1 uc us H locs ls pc hok hp hw hS hu1 hu2 hd
        obtain ⟨v, rfl⟩ := hok
        refine W.widen (k := mc) (n := ms) hu1 hu2 ?_
        exact W.iret B.exec B.bytes (B.returns.trans hret) (hq (some (.int v)) h1 H locs hp hw hS) hS.2.2 hd
      · intro r1 h1 uc us H locs ls pc hok hp hw hS hu1 hu2 hd
        obtain ⟨v, rfl, hv⟩ := hok
        refine W.widen (k := mc) (n := ms) hu1 hu2 ?_
        exact W.zret (ty := .boolean) B.exec B.bytes (B.returns.trans hret) (by rcases hv with rfl | rfl <;> decide) (hq (some (.int v)) h1 H locs hp hw hS) hS.2.2 hd
      · intro r1 h1 uc us H locs ls pc hok hp hw hS hu1 hu2 hd
        refine W.widen (k := mc) (n := ms) hu1 hu2 ?_
        rcases hok with rfl | ⟨a, rfl⟩
        · exact W.aret B.exec B.bytes (B.returns.trans hret) (Or.inl ⟨n, rfl⟩) (Or.inl rfl) (hq (some .null) h1 H locs hp hw hS) hS.2.2 hd
        · exact W.aret B.exec B.bytes (B.returns.trans hret) (Or.inl ⟨n, rfl⟩) (Or.inr ⟨_, rfl⟩) (hq (some (.ref a)) h1 H locs hp hw hS) hS.2.2 hd
    have hrun := z_run (hsnd g d p l e (z_rm (d + 1) mc ms) s m (as.map (z_tr g)).toArray below meth c _ P cx hnm hfin) hS
    have hl := lv_entry (as.map (z_tr g)) (n := r.2.2.1) (by rw [z_sl_len hcat]; exact hlen)
    rw [lg_entry_eq]
    exact hrun s.heap [] _ ⟨hW.2.2, va_S.rf, z_lr_entry hlen hcat hl, Nat.zero_le _, Nat.zero_le _⟩
end
section
/-! The words that the instructions need, each by its place in the tables. By program. -/
theorem w_1 : (Jvm.Cond.initialized "SealedTalks") ∈ z_WS := z_in 1 (by decide +kernel) (by decide +kernel)
theorem w_2 : (Jvm.Cond.initialized "SealedTalks$Terms") ∈ z_WS := z_in 2 (by decide +kernel) (by decide +kernel)
theorem w_3 : (Jvm.Cond.initialized "SealedTalks$Messages") ∈ z_WS := z_in 3 (by decide +kernel) (by decide +kernel)
theorem w_4 : (Jvm.Cond.initialized "SealedTalksModel") ∈ z_WS := z_in 4 (by decide +kernel) (by decide +kernel)
theorem w_5 : (Jvm.Cond.initialized "SealedTalks$Session") ∈ z_WS := z_in 5 (by decide +kernel) (by decide +kernel)
theorem w_6 : (Jvm.Cond.initialized "SealedTalks$Channel") ∈ z_WS := z_in 6 (by decide +kernel) (by decide +kernel)
theorem w_7 : (Jvm.Cond.initialized "SealedTalks$Agreement") ∈ z_WS := z_in 7 (by decide +kernel) (by decide +kernel)
theorem w_8 : (Jvm.Cond.initialized "java/lang/Math") ∈ z_WS := z_in 8 (by decide +kernel) (by decide +kernel)
theorem w_9 : (Jvm.Cond.classLink "SealedTalksLaw" (7 : Nat) "SealedTalks") ∈ z_WS := z_in 9 (by decide +kernel) (by decide +kernel)
theorem w_10 : (Jvm.Cond.instantiable "SealedTalks" (4 : Nat)) ∈ z_WS := z_in 10 (by decide +kernel) (by decide +kernel)
theorem w_11 : (Jvm.Cond.methodLink "SealedTalksLaw" (9 : Nat) ({ cls := "SealedTalks", name := "<init>", desc := "()V" } : Jvm.MethodName)) ∈ z_WS := z_in 11 (by decide +kernel) (by decide +kernel)
theorem w_12 : (Jvm.Cond.instanceMethod ({ cls := "SealedTalks", name := "<init>", desc := "()V" } : Jvm.MethodName)) ∈ z_WS := z_in 12 (by decide +kernel) (by decide +kernel)
theorem w_13 : (Jvm.Cond.code ({ cls := "SealedTalks", name := "<init>", desc := "()V" } : Jvm.MethodName) prog_1_method_1_code (1 : Nat) (Option.none : Option Jvm.ClassFile.FieldType)) ∈ z_WS := z_in 13 (by decide +kernel) (by decide +kernel)
theorem w_14 : (Jvm.Cond.methodLink "SealedTalks" (1 : Nat) ({ cls := "java/lang/Object", name := "<init>", desc := "()V" } : Jvm.MethodName)) ∈ z_WS := z_in 14 (by decide +kernel) (by decide +kernel)
theorem w_15 : (Jvm.Cond.instanceMethod ({ cls := "java/lang/Object", name := "<init>", desc := "()V" } : Jvm.MethodName)) ∈ z_WS := z_in 15 (by decide +kernel) (by decide +kernel)
theorem w_16 : (Jvm.Cond.code ({ cls := "java/lang/Object", name := "<init>", desc := "()V" } : Jvm.MethodName) object_method_1_code (1 : Nat) (Option.none : Option Jvm.ClassFile.FieldType)) ∈ z_WS := z_in 16 (by decide +kernel) (by decide +kernel)
theorem w_17 : (Jvm.Cond.classLink "SealedTalks" (7 : Nat) "SealedTalks$Terms") ∈ z_WS := z_in 17 (by decide +kernel) (by decide +kernel)
theorem w_18 : (Jvm.Cond.instantiable "SealedTalks$Terms" (11 : Nat)) ∈ z_WS := z_in 18 (by decide +kernel) (by decide +kernel)
theorem w_19 : (Jvm.Cond.methodLinkNest "SealedTalks" (9 : Nat) ({ cls := "SealedTalks$Terms", name := "<init>", desc := "()V" } : Jvm.MethodName) "SealedTalks") ∈ z_NW := z_nin 19 (by decide +kernel) (by decide +kernel)
theorem w_20 : (Jvm.Cond.instanceMethod ({ cls := "SealedTalks$Terms", name := "<init>", desc := "()V" } : Jvm.MethodName)) ∈ z_WS := z_in 20 (by decide +kernel) (by decide +kernel)
theorem w_21 : (Jvm.Cond.code ({ cls := "SealedTalks$Terms", name := "<init>", desc := "()V" } : Jvm.MethodName) prog_6_method_1_code (1 : Nat) (Option.none : Option Jvm.ClassFile.FieldType)) ∈ z_WS := z_in 21 (by decide +kernel) (by decide +kernel)
theorem w_22 : (Jvm.Cond.methodLink "SealedTalks$Terms" (3 : Nat) ({ cls := "java/lang/Object", name := "<init>", desc := "()V" } : Jvm.MethodName)) ∈ z_WS := z_in 22 (by decide +kernel) (by decide +kernel)
theorem w_23 : (Jvm.Cond.fieldLink "SealedTalks$Terms" (11 : Nat) "SealedTalks$Terms" "kind" "[I") ∈ z_WS := z_in 23 (by decide +kernel) (by decide +kernel)
theorem w_24 : (Jvm.Cond.fieldLink "SealedTalks$Terms" (15 : Nat) "SealedTalks$Terms" "first" "[I") ∈ z_WS := z_in 24 (by decide +kernel) (by decide +kernel)
theorem w_25 : (Jvm.Cond.fieldLink "SealedTalks$Terms" (18 : Nat) "SealedTalks$Terms" "second" "[I") ∈ z_WS := z_in 25 (by decide +kernel) (by decide +kernel)
theorem w_26 : (Jvm.Cond.fieldLink "SealedTalks$Terms" (21 : Nat) "SealedTalks$Terms" "third" "[I") ∈ z_WS := z_in 26 (by decide +kernel) (by decide +kernel)
theorem w_27 : (Jvm.Cond.fieldLink "SealedTalks$Terms" (24 : Nat) "SealedTalks$Terms" "fourth" "[I") ∈ z_WS := z_in 27 (by decide +kernel) (by decide +kernel)
theorem w_28 : (Jvm.Cond.fieldLink "SealedTalks$Terms" (27 : Nat) "SealedTalks$Terms" "known" "[Z") ∈ z_WS := z_in 28 (by decide +kernel) (by decide +kernel)
theorem w_29 : (Jvm.Cond.fieldLink "SealedTalks$Terms" (31 : Nat) "SealedTalks$Terms" "nextInBucket" "[I") ∈ z_WS := z_in 29 (by decide +kernel) (by decide +kernel)
theorem w_30 : (Jvm.Cond.fieldLink "SealedTalks$Terms" (34 : Nat) "SealedTalks$Terms" "newestInBucket" "[I") ∈ z_WS := z_in 30 (by decide +kernel) (by decide +kernel)
theorem w_31 : (Jvm.Cond.fieldLink "SealedTalks$Terms" (37 : Nat) "SealedTalks$Terms" "given" "[Z") ∈ z_WS := z_in 31 (by decide +kernel) (by decide +kernel)
theorem w_32 : (Jvm.Cond.fieldLink "SealedTalks$Terms" (40 : Nat) "SealedTalks$Terms" "lastTerm" "I") ∈ z_WS := z_in 32 (by decide +kernel) (by decide +kernel)
theorem w_33 : (Jvm.Cond.fieldLink "SealedTalks$Terms" (44 : Nat) "SealedTalks$Terms" "lastKey" "I") ∈ z_WS := z_in 33 (by decide +kernel) (by decide +kernel)
theorem w_57 : (Jvm.Cond.arrayClass Jvm.ClassFile.FieldType.int) ∈ z_WS := z_in 57 (by decide +kernel) (by decide +kernel)
theorem w_58 : (Jvm.Cond.arrayClass Jvm.ClassFile.FieldType.boolean) ∈ z_WS := z_in 58 (by decide +kernel) (by decide +kernel)
theorem w_59 : (Jvm.Cond.classLink "SealedTalks" (16 : Nat) "SealedTalks$Messages") ∈ z_WS := z_in 59 (by decide +kernel) (by decide +kernel)
theorem w_60 : (Jvm.Cond.instantiable "SealedTalks$Messages" (3 : Nat)) ∈ z_WS := z_in 60 (by decide +kernel) (by decide +kernel)
theorem w_61 : (Jvm.Cond.methodLinkNest "SealedTalks" (18 : Nat) ({ cls := "SealedTalks$Messages", name := "<init>", desc := "()V" } : Jvm.MethodName) "SealedTalks") ∈ z_NW := z_nin 61 (by decide +kernel) (by decide +kernel)
theorem w_62 : (Jvm.Cond.instanceMethod ({ cls := "SealedTalks$Messages", name := "<init>", desc := "()V" } : Jvm.MethodName)) ∈ z_WS := z_in 62 (by decide +kernel) (by decide +kernel)
theorem w_63 : (Jvm.Cond.code ({ cls := "SealedTalks$Messages", name := "<init>", desc := "()V" } : Jvm.MethodName) prog_4_method_1_code (1 : Nat) (Option.none : Option Jvm.ClassFile.FieldType)) ∈ z_WS := z_in 63 (by decide +kernel) (by decide +kernel)
theorem w_64 : (Jvm.Cond.methodLink "SealedTalks$Messages" (3 : Nat) ({ cls := "java/lang/Object", name := "<init>", desc := "()V" } : Jvm.MethodName)) ∈ z_WS := z_in 64 (by decide +kernel) (by decide +kernel)
theorem w_65 : (Jvm.Cond.fieldLink "SealedTalks$Messages" (9 : Nat) "SealedTalks$Messages" "sizes" "[I") ∈ z_WS := z_in 65 (by decide +kernel) (by decide +kernel)
theorem w_66 : (Jvm.Cond.fieldLink "SealedTalks$Messages" (15 : Nat) "SealedTalks$Messages" "rows" "[I") ∈ z_WS := z_in 66 (by decide +kernel) (by decide +kernel)
theorem w_67 : (Jvm.Cond.fieldLink "SealedTalks$Messages" (18 : Nat) "SealedTalks$Messages" "made" "I") ∈ z_WS := z_in 67 (by decide +kernel) (by decide +kernel)
theorem w_75 : (Jvm.Cond.classLink "SealedTalks" (23 : Nat) "SealedTalks$Session") ∈ z_WS := z_in 75 (by decide +kernel) (by decide +kernel)
theorem w_77 : (Jvm.Cond.fieldLink "SealedTalks" (10 : Nat) "SealedTalks" "terms" "LSealedTalks$Terms;") ∈ z_WS := z_in 77 (by decide +kernel) (by decide +kernel)
theorem w_78 : (Jvm.Cond.fieldLink "SealedTalks" (19 : Nat) "SealedTalks" "messages" "LSealedTalks$Messages;") ∈ z_WS := z_in 78 (by decide +kernel) (by decide +kernel)
theorem w_79 : (Jvm.Cond.fieldLink "SealedTalks" (25 : Nat) "SealedTalks" "sessions" "[LSealedTalks$Session;") ∈ z_WS := z_in 79 (by decide +kernel) (by decide +kernel)
theorem w_80 : (Jvm.Cond.fieldLink "SealedTalks" (29 : Nat) "SealedTalks" "started" "I") ∈ z_WS := z_in 80 (by decide +kernel) (by decide +kernel)
theorem w_90 : (Jvm.Cond.methodLink "SealedTalksLaw" (13 : Nat) ({ cls := "SealedTalks", name := "start", desc := "(IZIII)I" } : Jvm.MethodName)) ∈ z_WS := z_in 90 (by decide +kernel) (by decide +kernel)
theorem w_91 : (Jvm.Cond.instanceMethod ({ cls := "SealedTalks", name := "start", desc := "(IZIII)I" } : Jvm.MethodName)) ∈ z_WS := z_in 91 (by decide +kernel) (by decide +kernel)
theorem w_92 : (Jvm.Cond.selects "SealedTalks" ({ cls := "SealedTalks", name := "start", desc := "(IZIII)I" } : Jvm.MethodName) ({ cls := "SealedTalks", name := "start", desc := "(IZIII)I" } : Jvm.MethodName)) ∈ z_WS := z_in 92 (by decide +kernel) (by decide +kernel)
theorem w_93 : (Jvm.Cond.code ({ cls := "SealedTalks", name := "start", desc := "(IZIII)I" } : Jvm.MethodName) prog_1_method_2_code (8 : Nat) (Option.some Jvm.ClassFile.FieldType.int)) ∈ z_WS := z_in 93 (by decide +kernel) (by decide +kernel)
theorem w_94 : (Jvm.Cond.methodLink "SealedTalks" (33 : Nat) ({ cls := "SealedTalks", name := "isStaticKey", desc := "(I)Z" } : Jvm.MethodName)) ∈ z_WS := z_in 94 (by decide +kernel) (by decide +kernel)
theorem w_95 : (Jvm.Cond.static ({ cls := "SealedTalks", name := "isStaticKey", desc := "(I)Z" } : Jvm.MethodName)) ∈ z_WS := z_in 95 (by decide +kernel) (by decide +kernel)
theorem w_96 : (Jvm.Cond.code ({ cls := "SealedTalks", name := "isStaticKey", desc := "(I)Z" } : Jvm.MethodName) prog_1_method_21_code (1 : Nat) (Option.some Jvm.ClassFile.FieldType.boolean)) ∈ z_WS := z_in 96 (by decide +kernel) (by decide +kernel)
theorem w_97 : (Jvm.Cond.instantiable "SealedTalks$Session" (8 : Nat)) ∈ z_WS := z_in 97 (by decide +kernel) (by decide +kernel)
theorem w_98 : (Jvm.Cond.methodLink "SealedTalks" (37 : Nat) ({ cls := "SealedTalks$Session", name := "<init>", desc := "(LSealedTalks$Terms;)V" } : Jvm.MethodName)) ∈ z_WS := z_in 98 (by decide +kernel) (by decide +kernel)
theorem w_99 : (Jvm.Cond.instanceMethod ({ cls := "SealedTalks$Session", name := "<init>", desc := "(LSealedTalks$Terms;)V" } : Jvm.MethodName)) ∈ z_WS := z_in 99 (by decide +kernel) (by decide +kernel)
theorem w_100 : (Jvm.Cond.code ({ cls := "SealedTalks$Session", name := "<init>", desc := "(LSealedTalks$Terms;)V" } : Jvm.MethodName) prog_5_method_1_code (2 : Nat) (Option.none : Option Jvm.ClassFile.FieldType)) ∈ z_WS := z_in 100 (by decide +kernel) (by decide +kernel)
theorem w_101 : (Jvm.Cond.methodLink "SealedTalks$Session" (3 : Nat) ({ cls := "java/lang/Object", name := "<init>", desc := "()V" } : Jvm.MethodName)) ∈ z_WS := z_in 101 (by decide +kernel) (by decide +kernel)
theorem w_102 : (Jvm.Cond.classLink "SealedTalks$Session" (29 : Nat) "SealedTalks$Channel") ∈ z_WS := z_in 102 (by decide +kernel) (by decide +kernel)
theorem w_103 : (Jvm.Cond.instantiable "SealedTalks$Channel" (6 : Nat)) ∈ z_WS := z_in 103 (by decide +kernel) (by decide +kernel)
theorem w_104 : (Jvm.Cond.methodLink "SealedTalks$Session" (31 : Nat) ({ cls := "SealedTalks$Channel", name := "<init>", desc := "(LSealedTalks$Terms;)V" } : Jvm.MethodName)) ∈ z_WS := z_in 104 (by decide +kernel) (by decide +kernel)
theorem w_105 : (Jvm.Cond.instanceMethod ({ cls := "SealedTalks$Channel", name := "<init>", desc := "(LSealedTalks$Terms;)V" } : Jvm.MethodName)) ∈ z_WS := z_in 105 (by decide +kernel) (by decide +kernel)
theorem w_106 : (Jvm.Cond.code ({ cls := "SealedTalks$Channel", name := "<init>", desc := "(LSealedTalks$Terms;)V" } : Jvm.MethodName) prog_3_method_1_code (2 : Nat) (Option.none : Option Jvm.ClassFile.FieldType)) ∈ z_WS := z_in 106 (by decide +kernel) (by decide +kernel)
theorem w_107 : (Jvm.Cond.methodLink "SealedTalks$Channel" (3 : Nat) ({ cls := "java/lang/Object", name := "<init>", desc := "()V" } : Jvm.MethodName)) ∈ z_WS := z_in 107 (by decide +kernel) (by decide +kernel)
theorem w_108 : (Jvm.Cond.fieldLink "SealedTalks$Channel" (28 : Nat) "SealedTalks$Channel" "terms" "LSealedTalks$Terms;") ∈ z_WS := z_in 108 (by decide +kernel) (by decide +kernel)
theorem w_109 : (Jvm.Cond.fieldLink "SealedTalks$Channel" (9 : Nat) "SealedTalks$Channel" "taken" "[Z") ∈ z_WS := z_in 109 (by decide +kernel) (by decide +kernel)
theorem w_110 : (Jvm.Cond.fieldLink "SealedTalks$Channel" (15 : Nat) "SealedTalks$Channel" "sendKey" "I") ∈ z_WS := z_in 110 (by decide +kernel) (by decide +kernel)
theorem w_111 : (Jvm.Cond.fieldLinkNest "SealedTalks" (132 : Nat) "SealedTalks$Channel" "sendKey" "I" "SealedTalks") ∈ z_NW := z_nin 111 (by decide +kernel) (by decide +kernel)
theorem w_112 : (Jvm.Cond.fieldLink "SealedTalks$Channel" (19 : Nat) "SealedTalks$Channel" "receiveKey" "I") ∈ z_WS := z_in 112 (by decide +kernel) (by decide +kernel)
theorem w_113 : (Jvm.Cond.fieldLinkNest "SealedTalks" (135 : Nat) "SealedTalks$Channel" "receiveKey" "I" "SealedTalks") ∈ z_NW := z_nin 113 (by decide +kernel) (by decide +kernel)
theorem w_114 : (Jvm.Cond.fieldLink "SealedTalks$Channel" (22 : Nat) "SealedTalks$Channel" "sent" "I") ∈ z_WS := z_in 114 (by decide +kernel) (by decide +kernel)
theorem w_115 : (Jvm.Cond.fieldLink "SealedTalks$Channel" (25 : Nat) "SealedTalks$Channel" "top" "I") ∈ z_WS := z_in 115 (by decide +kernel) (by decide +kernel)
theorem w_129 : (Jvm.Cond.classLink "SealedTalks$Session" (38 : Nat) "SealedTalks$Agreement") ∈ z_WS := z_in 129 (by decide +kernel) (by decide +kernel)
theorem w_130 : (Jvm.Cond.instantiable "SealedTalks$Agreement" (12 : Nat)) ∈ z_WS := z_in 130 (by decide +kernel) (by decide +kernel)
theorem w_131 : (Jvm.Cond.methodLink "SealedTalks$Session" (40 : Nat) ({ cls := "SealedTalks$Agreement", name := "<init>", desc := "(LSealedTalks$Terms;)V" } : Jvm.MethodName)) ∈ z_WS := z_in 131 (by decide +kernel) (by decide +kernel)
theorem w_132 : (Jvm.Cond.instanceMethod ({ cls := "SealedTalks$Agreement", name := "<init>", desc := "(LSealedTalks$Terms;)V" } : Jvm.MethodName)) ∈ z_WS := z_in 132 (by decide +kernel) (by decide +kernel)
theorem w_133 : (Jvm.Cond.code ({ cls := "SealedTalks$Agreement", name := "<init>", desc := "(LSealedTalks$Terms;)V" } : Jvm.MethodName) prog_2_method_1_code (2 : Nat) (Option.none : Option Jvm.ClassFile.FieldType)) ∈ z_WS := z_in 133 (by decide +kernel) (by decide +kernel)
theorem w_134 : (Jvm.Cond.methodLink "SealedTalks$Agreement" (3 : Nat) ({ cls := "java/lang/Object", name := "<init>", desc := "()V" } : Jvm.MethodName)) ∈ z_WS := z_in 134 (by decide +kernel) (by decide +kernel)
theorem w_135 : (Jvm.Cond.fieldLink "SealedTalks$Agreement" (46 : Nat) "SealedTalks$Agreement" "terms" "LSealedTalks$Terms;") ∈ z_WS := z_in 135 (by decide +kernel) (by decide +kernel)
theorem w_136 : (Jvm.Cond.fieldLink "SealedTalks$Agreement" (9 : Nat) "SealedTalks$Agreement" "pattern" "I") ∈ z_WS := z_in 136 (by decide +kernel) (by decide +kernel)
theorem w_137 : (Jvm.Cond.fieldLink "SealedTalks$Agreement" (15 : Nat) "SealedTalks$Agreement" "initiator" "Z") ∈ z_WS := z_in 137 (by decide +kernel) (by decide +kernel)
theorem w_138 : (Jvm.Cond.fieldLinkNest "SealedTalks$Session" (83 : Nat) "SealedTalks$Agreement" "initiator" "Z" "SealedTalks") ∈ z_NW := z_nin 138 (by decide +kernel) (by decide +kernel)
theorem w_139 : (Jvm.Cond.fieldLink "SealedTalks$Agreement" (19 : Nat) "SealedTalks$Agreement" "ownStatic" "I") ∈ z_WS := z_in 139 (by decide +kernel) (by decide +kernel)
theorem w_140 : (Jvm.Cond.fieldLink "SealedTalks$Agreement" (22 : Nat) "SealedTalks$Agreement" "ownEphemeral" "I") ∈ z_WS := z_in 140 (by decide +kernel) (by decide +kernel)
theorem w_141 : (Jvm.Cond.fieldLink "SealedTalks$Agreement" (25 : Nat) "SealedTalks$Agreement" "otherStatic" "I") ∈ z_WS := z_in 141 (by decide +kernel) (by decide +kernel)
theorem w_142 : (Jvm.Cond.fieldLinkNest "SealedTalks" (123 : Nat) "SealedTalks$Agreement" "otherStatic" "I" "SealedTalks") ∈ z_NW := z_nin 142 (by decide +kernel) (by decide +kernel)
theorem w_143 : (Jvm.Cond.fieldLink "SealedTalks$Agreement" (28 : Nat) "SealedTalks$Agreement" "otherEphemeral" "I") ∈ z_WS := z_in 143 (by decide +kernel) (by decide +kernel)
theorem w_144 : (Jvm.Cond.fieldLink "SealedTalks$Agreement" (31 : Nat) "SealedTalks$Agreement" "h" "I") ∈ z_WS := z_in 144 (by decide +kernel) (by decide +kernel)
theorem w_145 : (Jvm.Cond.fieldLink "SealedTalks$Agreement" (34 : Nat) "SealedTalks$Agreement" "ck" "I") ∈ z_WS := z_in 145 (by decide +kernel) (by decide +kernel)
theorem w_146 : (Jvm.Cond.fieldLinkNest "SealedTalks$Session" (80 : Nat) "SealedTalks$Agreement" "ck" "I" "SealedTalks") ∈ z_NW := z_nin 146 (by decide +kernel) (by decide +kernel)
theorem w_147 : (Jvm.Cond.fieldLink "SealedTalks$Agreement" (37 : Nat) "SealedTalks$Agreement" "k" "I") ∈ z_WS := z_in 147 (by decide +kernel) (by decide +kernel)
theorem w_148 : (Jvm.Cond.fieldLink "SealedTalks$Agreement" (40 : Nat) "SealedTalks$Agreement" "n" "I") ∈ z_WS := z_in 148 (by decide +kernel) (by decide +kernel)
theorem w_149 : (Jvm.Cond.fieldLink "SealedTalks$Agreement" (43 : Nat) "SealedTalks$Agreement" "stepsMade" "I") ∈ z_WS := z_in 149 (by decide +kernel) (by decide +kernel)
theorem w_150 : (Jvm.Cond.fieldLinkNest "SealedTalks" (120 : Nat) "SealedTalks$Agreement" "stepsMade" "I" "SealedTalks") ∈ z_NW := z_nin 150 (by decide +kernel) (by decide +kernel)
theorem w_176 : (Jvm.Cond.fieldLink "SealedTalks$Session" (25 : Nat) "SealedTalks$Session" "terms" "LSealedTalks$Terms;") ∈ z_WS := z_in 176 (by decide +kernel) (by decide +kernel)
theorem w_177 : (Jvm.Cond.fieldLink "SealedTalks$Session" (34 : Nat) "SealedTalks$Session" "channel" "LSealedTalks$Channel;") ∈ z_WS := z_in 177 (by decide +kernel) (by decide +kernel)
theorem w_178 : (Jvm.Cond.fieldLinkNest "SealedTalks" (76 : Nat) "SealedTalks$Session" "channel" "LSealedTalks$Channel;" "SealedTalks") ∈ z_NW := z_nin 178 (by decide +kernel) (by decide +kernel)
theorem w_179 : (Jvm.Cond.fieldLink "SealedTalks$Session" (41 : Nat) "SealedTalks$Session" "agreement" "LSealedTalks$Agreement;") ∈ z_WS := z_in 179 (by decide +kernel) (by decide +kernel)
theorem w_180 : (Jvm.Cond.fieldLinkNest "SealedTalks" (40 : Nat) "SealedTalks$Session" "agreement" "LSealedTalks$Agreement;" "SealedTalks") ∈ z_NW := z_nin 180 (by decide +kernel) (by decide +kernel)
theorem w_181 : (Jvm.Cond.fieldLink "SealedTalks$Session" (45 : Nat) "SealedTalks$Session" "draft" "LSealedTalks$Agreement;") ∈ z_WS := z_in 181 (by decide +kernel) (by decide +kernel)
theorem w_182 : (Jvm.Cond.fieldLink "SealedTalks$Session" (9 : Nat) "SealedTalks$Session" "closed" "Z") ∈ z_WS := z_in 182 (by decide +kernel) (by decide +kernel)
theorem w_183 : (Jvm.Cond.fieldLinkNest "SealedTalks" (54 : Nat) "SealedTalks$Session" "closed" "Z" "SealedTalks") ∈ z_NW := z_nin 183 (by decide +kernel) (by decide +kernel)
theorem w_184 : (Jvm.Cond.fieldLink "SealedTalks$Session" (15 : Nat) "SealedTalks$Session" "ticks" "I") ∈ z_WS := z_in 184 (by decide +kernel) (by decide +kernel)
theorem w_185 : (Jvm.Cond.fieldLink "SealedTalks$Session" (19 : Nat) "SealedTalks$Session" "latestPayload" "I") ∈ z_WS := z_in 185 (by decide +kernel) (by decide +kernel)
theorem w_186 : (Jvm.Cond.fieldLinkNest "SealedTalks" (126 : Nat) "SealedTalks$Session" "latestPayload" "I" "SealedTalks") ∈ z_NW := z_nin 186 (by decide +kernel) (by decide +kernel)
theorem w_187 : (Jvm.Cond.fieldLink "SealedTalks$Session" (22 : Nat) "SealedTalks$Session" "payloadCount" "I") ∈ z_WS := z_in 187 (by decide +kernel) (by decide +kernel)
theorem w_188 : (Jvm.Cond.fieldLinkNest "SealedTalks" (129 : Nat) "SealedTalks$Session" "payloadCount" "I" "SealedTalks") ∈ z_NW := z_nin 188 (by decide +kernel) (by decide +kernel)
theorem w_206 : (Jvm.Cond.methodLink "SealedTalks" (44 : Nat) ({ cls := "SealedTalks$Agreement", name := "begin", desc := "(IZIII)V" } : Jvm.MethodName)) ∈ z_WS := z_in 206 (by decide +kernel) (by decide +kernel)
theorem w_207 : (Jvm.Cond.instanceMethod ({ cls := "SealedTalks$Agreement", name := "begin", desc := "(IZIII)V" } : Jvm.MethodName)) ∈ z_WS := z_in 207 (by decide +kernel) (by decide +kernel)
theorem w_208 : (Jvm.Cond.selects "SealedTalks$Agreement" ({ cls := "SealedTalks$Agreement", name := "begin", desc := "(IZIII)V" } : Jvm.MethodName) ({ cls := "SealedTalks$Agreement", name := "begin", desc := "(IZIII)V" } : Jvm.MethodName)) ∈ z_WS := z_in 208 (by decide +kernel) (by decide +kernel)
theorem w_209 : (Jvm.Cond.code ({ cls := "SealedTalks$Agreement", name := "begin", desc := "(IZIII)V" } : Jvm.MethodName) prog_2_method_2_code (6 : Nat) (Option.none : Option Jvm.ClassFile.FieldType)) ∈ z_WS := z_in 209 (by decide +kernel) (by decide +kernel)
theorem w_210 : (Jvm.Cond.methodLink "SealedTalks$Agreement" (50 : Nat) ({ cls := "SealedTalks$Terms", name := "num", desc := "(I)I" } : Jvm.MethodName)) ∈ z_WS := z_in 210 (by decide +kernel) (by decide +kernel)
theorem w_211 : (Jvm.Cond.instanceMethod ({ cls := "SealedTalks$Terms", name := "num", desc := "(I)I" } : Jvm.MethodName)) ∈ z_WS := z_in 211 (by decide +kernel) (by decide +kernel)
theorem w_212 : (Jvm.Cond.selects "SealedTalks$Terms" ({ cls := "SealedTalks$Terms", name := "num", desc := "(I)I" } : Jvm.MethodName) ({ cls := "SealedTalks$Terms", name := "num", desc := "(I)I" } : Jvm.MethodName)) ∈ z_WS := z_in 212 (by decide +kernel) (by decide +kernel)
theorem w_213 : (Jvm.Cond.code ({ cls := "SealedTalks$Terms", name := "num", desc := "(I)I" } : Jvm.MethodName) prog_6_method_2_code (2 : Nat) (Option.some Jvm.ClassFile.FieldType.int)) ∈ z_WS := z_in 213 (by decide +kernel) (by decide +kernel)
theorem w_214 : (Jvm.Cond.methodLink "SealedTalks$Terms" (47 : Nat) ({ cls := "SealedTalks$Terms", name := "make", desc := "(IIIII)I" } : Jvm.MethodName)) ∈ z_WS := z_in 214 (by decide +kernel) (by decide +kernel)
theorem w_216 : (Jvm.Cond.instanceMethod ({ cls := "SealedTalks$Terms", name := "make", desc := "(IIIII)I" } : Jvm.MethodName)) ∈ z_WS := z_in 216 (by decide +kernel) (by decide +kernel)
theorem w_217 : (Jvm.Cond.code ({ cls := "SealedTalks$Terms", name := "make", desc := "(IIIII)I" } : Jvm.MethodName) prog_6_method_22_code (9 : Nat) (Option.some Jvm.ClassFile.FieldType.int)) ∈ z_WS := z_in 217 (by decide +kernel) (by decide +kernel)
theorem w_218 : (Jvm.Cond.methodLink "SealedTalks$Terms" (67 : Nat) ({ cls := "SealedTalks$Terms", name := "bucketOf", desc := "(IIIII)I" } : Jvm.MethodName)) ∈ z_WS := z_in 218 (by decide +kernel) (by decide +kernel)
theorem w_219 : (Jvm.Cond.static ({ cls := "SealedTalks$Terms", name := "bucketOf", desc := "(IIIII)I" } : Jvm.MethodName)) ∈ z_WS := z_in 219 (by decide +kernel) (by decide +kernel)
theorem w_220 : (Jvm.Cond.code ({ cls := "SealedTalks$Terms", name := "bucketOf", desc := "(IIIII)I" } : Jvm.MethodName) prog_6_method_24_code (6 : Nat) (Option.some Jvm.ClassFile.FieldType.int)) ∈ z_WS := z_in 220 (by decide +kernel) (by decide +kernel)
theorem w_221 : (Jvm.Cond.methodLink "SealedTalks$Terms" (64 : Nat) ({ cls := "SealedTalks$Terms", name := "judged", desc := "(I)Z" } : Jvm.MethodName)) ∈ z_WS := z_in 221 (by decide +kernel) (by decide +kernel)
theorem w_223 : (Jvm.Cond.instanceMethod ({ cls := "SealedTalks$Terms", name := "judged", desc := "(I)Z" } : Jvm.MethodName)) ∈ z_WS := z_in 223 (by decide +kernel) (by decide +kernel)
theorem w_224 : (Jvm.Cond.code ({ cls := "SealedTalks$Terms", name := "judged", desc := "(I)Z" } : Jvm.MethodName) prog_6_method_23_code (2 : Nat) (Option.some Jvm.ClassFile.FieldType.boolean)) ∈ z_WS := z_in 224 (by decide +kernel) (by decide +kernel)
theorem w_225 : (Jvm.Cond.methodLink "SealedTalks$Agreement" (56 : Nat) ({ cls := "SealedTalks$Terms", name := "hash", desc := "(II)I" } : Jvm.MethodName)) ∈ z_WS := z_in 225 (by decide +kernel) (by decide +kernel)
theorem w_226 : (Jvm.Cond.instanceMethod ({ cls := "SealedTalks$Terms", name := "hash", desc := "(II)I" } : Jvm.MethodName)) ∈ z_WS := z_in 226 (by decide +kernel) (by decide +kernel)
theorem w_227 : (Jvm.Cond.selects "SealedTalks$Terms" ({ cls := "SealedTalks$Terms", name := "hash", desc := "(II)I" } : Jvm.MethodName) ({ cls := "SealedTalks$Terms", name := "hash", desc := "(II)I" } : Jvm.MethodName)) ∈ z_WS := z_in 227 (by decide +kernel) (by decide +kernel)
theorem w_228 : (Jvm.Cond.code ({ cls := "SealedTalks$Terms", name := "hash", desc := "(II)I" } : Jvm.MethodName) prog_6_method_5_code (3 : Nat) (Option.some Jvm.ClassFile.FieldType.int)) ∈ z_WS := z_in 228 (by decide +kernel) (by decide +kernel)
theorem w_229 : (Jvm.Cond.methodLink "SealedTalks$Agreement" (60 : Nat) ({ cls := "SealedTalks$Terms", name := "pub", desc := "(I)I" } : Jvm.MethodName)) ∈ z_WS := z_in 229 (by decide +kernel) (by decide +kernel)
theorem w_230 : (Jvm.Cond.instanceMethod ({ cls := "SealedTalks$Terms", name := "pub", desc := "(I)I" } : Jvm.MethodName)) ∈ z_WS := z_in 230 (by decide +kernel) (by decide +kernel)
theorem w_231 : (Jvm.Cond.selects "SealedTalks$Terms" ({ cls := "SealedTalks$Terms", name := "pub", desc := "(I)I" } : Jvm.MethodName) ({ cls := "SealedTalks$Terms", name := "pub", desc := "(I)I" } : Jvm.MethodName)) ∈ z_WS := z_in 231 (by decide +kernel) (by decide +kernel)
theorem w_232 : (Jvm.Cond.code ({ cls := "SealedTalks$Terms", name := "pub", desc := "(I)I" } : Jvm.MethodName) prog_6_method_3_code (2 : Nat) (Option.some Jvm.ClassFile.FieldType.int)) ∈ z_WS := z_in 232 (by decide +kernel) (by decide +kernel)
theorem w_233 : (Jvm.Cond.methodLink "SealedTalksLaw" (18 : Nat) ({ cls := "SealedTalks", name := "write", desc := "(II)I" } : Jvm.MethodName)) ∈ z_WS := z_in 233 (by decide +kernel) (by decide +kernel)
theorem w_234 : (Jvm.Cond.instanceMethod ({ cls := "SealedTalks", name := "write", desc := "(II)I" } : Jvm.MethodName)) ∈ z_WS := z_in 234 (by decide +kernel) (by decide +kernel)
theorem w_235 : (Jvm.Cond.selects "SealedTalks" ({ cls := "SealedTalks", name := "write", desc := "(II)I" } : Jvm.MethodName) ({ cls := "SealedTalks", name := "write", desc := "(II)I" } : Jvm.MethodName)) ∈ z_WS := z_in 235 (by decide +kernel) (by decide +kernel)
theorem w_236 : (Jvm.Cond.code ({ cls := "SealedTalks", name := "write", desc := "(II)I" } : Jvm.MethodName) prog_1_method_3_code (4 : Nat) (Option.some Jvm.ClassFile.FieldType.int)) ∈ z_WS := z_in 236 (by decide +kernel) (by decide +kernel)
theorem w_237 : (Jvm.Cond.methodLink "SealedTalks" (50 : Nat) ({ cls := "SealedTalks", name := "sessionAt", desc := "(I)LSealedTalks$Session;" } : Jvm.MethodName)) ∈ z_WS := z_in 237 (by decide +kernel) (by decide +kernel)
theorem w_239 : (Jvm.Cond.instanceMethod ({ cls := "SealedTalks", name := "sessionAt", desc := "(I)LSealedTalks$Session;" } : Jvm.MethodName)) ∈ z_WS := z_in 239 (by decide +kernel) (by decide +kernel)
theorem w_240 : (Jvm.Cond.code ({ cls := "SealedTalks", name := "sessionAt", desc := "(I)LSealedTalks$Session;" } : Jvm.MethodName) prog_1_method_22_code (2 : Nat) (Option.some (Jvm.ClassFile.FieldType.object "SealedTalks$Session"))) ∈ z_WS := z_in 240 (by decide +kernel) (by decide +kernel)
theorem w_241 : (Jvm.Cond.methodLink "SealedTalks" (58 : Nat) ({ cls := "SealedTalks$Agreement", name := "isOwnTurn", desc := "()Z" } : Jvm.MethodName)) ∈ z_WS := z_in 241 (by decide +kernel) (by decide +kernel)
theorem w_242 : (Jvm.Cond.instanceMethod ({ cls := "SealedTalks$Agreement", name := "isOwnTurn", desc := "()Z" } : Jvm.MethodName)) ∈ z_WS := z_in 242 (by decide +kernel) (by decide +kernel)
theorem w_243 : (Jvm.Cond.selects "SealedTalks$Agreement" ({ cls := "SealedTalks$Agreement", name := "isOwnTurn", desc := "()Z" } : Jvm.MethodName) ({ cls := "SealedTalks$Agreement", name := "isOwnTurn", desc := "()Z" } : Jvm.MethodName)) ∈ z_WS := z_in 243 (by decide +kernel) (by decide +kernel)
theorem w_244 : (Jvm.Cond.code ({ cls := "SealedTalks$Agreement", name := "isOwnTurn", desc := "()Z" } : Jvm.MethodName) prog_2_method_5_code (1 : Nat) (Option.some Jvm.ClassFile.FieldType.boolean)) ∈ z_WS := z_in 244 (by decide +kernel) (by decide +kernel)
theorem w_245 : (Jvm.Cond.methodLink "SealedTalks$Agreement" (63 : Nat) ({ cls := "SealedTalks$Agreement", name := "isDone", desc := "()Z" } : Jvm.MethodName)) ∈ z_WS := z_in 245 (by decide +kernel) (by decide +kernel)
theorem w_246 : (Jvm.Cond.instanceMethod ({ cls := "SealedTalks$Agreement", name := "isDone", desc := "()Z" } : Jvm.MethodName)) ∈ z_WS := z_in 246 (by decide +kernel) (by decide +kernel)
theorem w_247 : (Jvm.Cond.selects "SealedTalks$Agreement" ({ cls := "SealedTalks$Agreement", name := "isDone", desc := "()Z" } : Jvm.MethodName) ({ cls := "SealedTalks$Agreement", name := "isDone", desc := "()Z" } : Jvm.MethodName)) ∈ z_WS := z_in 247 (by decide +kernel) (by decide +kernel)
theorem w_248 : (Jvm.Cond.code ({ cls := "SealedTalks$Agreement", name := "isDone", desc := "()Z" } : Jvm.MethodName) prog_2_method_4_code (1 : Nat) (Option.some Jvm.ClassFile.FieldType.boolean)) ∈ z_WS := z_in 248 (by decide +kernel) (by decide +kernel)
theorem w_249 : (Jvm.Cond.methodLink "SealedTalks" (62 : Nat) ({ cls := "SealedTalks$Messages", name := "isFull", desc := "()Z" } : Jvm.MethodName)) ∈ z_WS := z_in 249 (by decide +kernel) (by decide +kernel)
theorem w_250 : (Jvm.Cond.instanceMethod ({ cls := "SealedTalks$Messages", name := "isFull", desc := "()Z" } : Jvm.MethodName)) ∈ z_WS := z_in 250 (by decide +kernel) (by decide +kernel)
theorem w_251 : (Jvm.Cond.selects "SealedTalks$Messages" ({ cls := "SealedTalks$Messages", name := "isFull", desc := "()Z" } : Jvm.MethodName) ({ cls := "SealedTalks$Messages", name := "isFull", desc := "()Z" } : Jvm.MethodName)) ∈ z_WS := z_in 251 (by decide +kernel) (by decide +kernel)
theorem w_252 : (Jvm.Cond.code ({ cls := "SealedTalks$Messages", name := "isFull", desc := "()Z" } : Jvm.MethodName) prog_4_method_2_code (1 : Nat) (Option.some Jvm.ClassFile.FieldType.boolean)) ∈ z_WS := z_in 252 (by decide +kernel) (by decide +kernel)
theorem w_253 : (Jvm.Cond.methodLink "SealedTalks" (65 : Nat) ({ cls := "SealedTalks$Session", name := "writeNext", desc := "(LSealedTalks$Messages;I)V" } : Jvm.MethodName)) ∈ z_WS := z_in 253 (by decide +kernel) (by decide +kernel)
theorem w_254 : (Jvm.Cond.instanceMethod ({ cls := "SealedTalks$Session", name := "writeNext", desc := "(LSealedTalks$Messages;I)V" } : Jvm.MethodName)) ∈ z_WS := z_in 254 (by decide +kernel) (by decide +kernel)
theorem w_255 : (Jvm.Cond.selects "SealedTalks$Session" ({ cls := "SealedTalks$Session", name := "writeNext", desc := "(LSealedTalks$Messages;I)V" } : Jvm.MethodName) ({ cls := "SealedTalks$Session", name := "writeNext", desc := "(LSealedTalks$Messages;I)V" } : Jvm.MethodName)) ∈ z_WS := z_in 255 (by decide +kernel) (by decide +kernel)
theorem w_256 : (Jvm.Cond.code ({ cls := "SealedTalks$Session", name := "writeNext", desc := "(LSealedTalks$Messages;I)V" } : Jvm.MethodName) prog_5_method_2_code (3 : Nat) (Option.none : Option Jvm.ClassFile.FieldType)) ∈ z_WS := z_in 256 (by decide +kernel) (by decide +kernel)
theorem w_257 : (Jvm.Cond.methodLink "SealedTalks$Session" (48 : Nat) ({ cls := "SealedTalks$Agreement", name := "writeNext", desc := "(LSealedTalks$Messages;I)V" } : Jvm.MethodName)) ∈ z_WS := z_in 257 (by decide +kernel) (by decide +kernel)
theorem w_258 : (Jvm.Cond.instanceMethod ({ cls := "SealedTalks$Agreement", name := "writeNext", desc := "(LSealedTalks$Messages;I)V" } : Jvm.MethodName)) ∈ z_WS := z_in 258 (by decide +kernel) (by decide +kernel)
theorem w_259 : (Jvm.Cond.selects "SealedTalks$Agreement" ({ cls := "SealedTalks$Agreement", name := "writeNext", desc := "(LSealedTalks$Messages;I)V" } : Jvm.MethodName) ({ cls := "SealedTalks$Agreement", name := "writeNext", desc := "(LSealedTalks$Messages;I)V" } : Jvm.MethodName)) ∈ z_WS := z_in 259 (by decide +kernel) (by decide +kernel)
theorem w_260 : (Jvm.Cond.code ({ cls := "SealedTalks$Agreement", name := "writeNext", desc := "(LSealedTalks$Messages;I)V" } : Jvm.MethodName) prog_2_method_6_code (5 : Nat) (Option.none : Option Jvm.ClassFile.FieldType)) ∈ z_WS := z_in 260 (by decide +kernel) (by decide +kernel)
theorem w_261 : (Jvm.Cond.methodLink "SealedTalks$Agreement" (67 : Nat) ({ cls := "SealedTalks$Agreement", name := "tokenAt", desc := "(I)I" } : Jvm.MethodName)) ∈ z_WS := z_in 261 (by decide +kernel) (by decide +kernel)
theorem w_263 : (Jvm.Cond.instanceMethod ({ cls := "SealedTalks$Agreement", name := "tokenAt", desc := "(I)I" } : Jvm.MethodName)) ∈ z_WS := z_in 263 (by decide +kernel) (by decide +kernel)
theorem w_264 : (Jvm.Cond.code ({ cls := "SealedTalks$Agreement", name := "tokenAt", desc := "(I)I" } : Jvm.MethodName) prog_2_method_8_code (4 : Nat) (Option.some Jvm.ClassFile.FieldType.int)) ∈ z_WS := z_in 264 (by decide +kernel) (by decide +kernel)
theorem w_265 : (Jvm.Cond.fieldLink "SealedTalks$Agreement" (107 : Nat) "SealedTalks$Agreement" "TOKENS" "[I") ∈ z_WS := z_in 265 (by decide +kernel) (by decide +kernel)
theorem w_267 : (Jvm.Cond.methodLink "SealedTalks$Agreement" (70 : Nat) ({ cls := "SealedTalks$Terms", name := "makeKey", desc := "()I" } : Jvm.MethodName)) ∈ z_WS := z_in 267 (by decide +kernel) (by decide +kernel)
theorem w_268 : (Jvm.Cond.instanceMethod ({ cls := "SealedTalks$Terms", name := "makeKey", desc := "()I" } : Jvm.MethodName)) ∈ z_WS := z_in 268 (by decide +kernel) (by decide +kernel)
theorem w_269 : (Jvm.Cond.selects "SealedTalks$Terms" ({ cls := "SealedTalks$Terms", name := "makeKey", desc := "()I" } : Jvm.MethodName) ({ cls := "SealedTalks$Terms", name := "makeKey", desc := "()I" } : Jvm.MethodName)) ∈ z_WS := z_in 269 (by decide +kernel) (by decide +kernel)
theorem w_270 : (Jvm.Cond.code ({ cls := "SealedTalks$Terms", name := "makeKey", desc := "()I" } : Jvm.MethodName) prog_6_method_18_code (1 : Nat) (Option.some Jvm.ClassFile.FieldType.int)) ∈ z_WS := z_in 270 (by decide +kernel) (by decide +kernel)
theorem w_271 : (Jvm.Cond.methodLink "SealedTalks$Agreement" (74 : Nat) ({ cls := "SealedTalks$Agreement", name := "addPart", desc := "(LSealedTalks$Messages;I)V" } : Jvm.MethodName)) ∈ z_WS := z_in 271 (by decide +kernel) (by decide +kernel)
theorem w_273 : (Jvm.Cond.instanceMethod ({ cls := "SealedTalks$Agreement", name := "addPart", desc := "(LSealedTalks$Messages;I)V" } : Jvm.MethodName)) ∈ z_WS := z_in 273 (by decide +kernel) (by decide +kernel)
theorem w_274 : (Jvm.Cond.code ({ cls := "SealedTalks$Agreement", name := "addPart", desc := "(LSealedTalks$Messages;I)V" } : Jvm.MethodName) prog_2_method_10_code (3 : Nat) (Option.none : Option Jvm.ClassFile.FieldType)) ∈ z_WS := z_in 274 (by decide +kernel) (by decide +kernel)
theorem w_275 : (Jvm.Cond.methodLink "SealedTalks$Agreement" (111 : Nat) ({ cls := "SealedTalks$Messages", name := "addPart", desc := "(I)V" } : Jvm.MethodName)) ∈ z_WS := z_in 275 (by decide +kernel) (by decide +kernel)
theorem w_276 : (Jvm.Cond.instanceMethod ({ cls := "SealedTalks$Messages", name := "addPart", desc := "(I)V" } : Jvm.MethodName)) ∈ z_WS := z_in 276 (by decide +kernel) (by decide +kernel)
theorem w_277 : (Jvm.Cond.selects "SealedTalks$Messages" ({ cls := "SealedTalks$Messages", name := "addPart", desc := "(I)V" } : Jvm.MethodName) ({ cls := "SealedTalks$Messages", name := "addPart", desc := "(I)V" } : Jvm.MethodName)) ∈ z_WS := z_in 277 (by decide +kernel) (by decide +kernel)
theorem w_278 : (Jvm.Cond.code ({ cls := "SealedTalks$Messages", name := "addPart", desc := "(I)V" } : Jvm.MethodName) prog_4_method_6_code (2 : Nat) (Option.none : Option Jvm.ClassFile.FieldType)) ∈ z_WS := z_in 278 (by decide +kernel) (by decide +kernel)
theorem w_279 : (Jvm.Cond.methodLink "SealedTalks$Messages" (30 : Nat) ({ cls := "SealedTalks$Messages", name := "isFull", desc := "()Z" } : Jvm.MethodName)) ∈ z_WS := z_in 279 (by decide +kernel) (by decide +kernel)
theorem w_280 : (Jvm.Cond.methodLink "SealedTalks$Agreement" (78 : Nat) ({ cls := "SealedTalks$Agreement", name := "closedUp", desc := "(I)I" } : Jvm.MethodName)) ∈ z_WS := z_in 280 (by decide +kernel) (by decide +kernel)
theorem w_282 : (Jvm.Cond.instanceMethod ({ cls := "SealedTalks$Agreement", name := "closedUp", desc := "(I)I" } : Jvm.MethodName)) ∈ z_WS := z_in 282 (by decide +kernel) (by decide +kernel)
theorem w_283 : (Jvm.Cond.code ({ cls := "SealedTalks$Agreement", name := "closedUp", desc := "(I)I" } : Jvm.MethodName) prog_2_method_12_code (2 : Nat) (Option.some Jvm.ClassFile.FieldType.int)) ∈ z_WS := z_in 283 (by decide +kernel) (by decide +kernel)
theorem w_284 : (Jvm.Cond.methodLink "SealedTalks$Agreement" (119 : Nat) ({ cls := "SealedTalks$Terms", name := "seal", desc := "(IIII)I" } : Jvm.MethodName)) ∈ z_WS := z_in 284 (by decide +kernel) (by decide +kernel)
theorem w_285 : (Jvm.Cond.instanceMethod ({ cls := "SealedTalks$Terms", name := "seal", desc := "(IIII)I" } : Jvm.MethodName)) ∈ z_WS := z_in 285 (by decide +kernel) (by decide +kernel)
theorem w_286 : (Jvm.Cond.selects "SealedTalks$Terms" ({ cls := "SealedTalks$Terms", name := "seal", desc := "(IIII)I" } : Jvm.MethodName) ({ cls := "SealedTalks$Terms", name := "seal", desc := "(IIII)I" } : Jvm.MethodName)) ∈ z_WS := z_in 286 (by decide +kernel) (by decide +kernel)
theorem w_287 : (Jvm.Cond.code ({ cls := "SealedTalks$Terms", name := "seal", desc := "(IIII)I" } : Jvm.MethodName) prog_6_method_9_code (5 : Nat) (Option.some Jvm.ClassFile.FieldType.int)) ∈ z_WS := z_in 287 (by decide +kernel) (by decide +kernel)
theorem w_288 : (Jvm.Cond.methodLink "SealedTalks$Agreement" (81 : Nat) ({ cls := "SealedTalks$Agreement", name := "mixKeys", desc := "(I)V" } : Jvm.MethodName)) ∈ z_WS := z_in 288 (by decide +kernel) (by decide +kernel)
theorem w_290 : (Jvm.Cond.instanceMethod ({ cls := "SealedTalks$Agreement", name := "mixKeys", desc := "(I)V" } : Jvm.MethodName)) ∈ z_WS := z_in 290 (by decide +kernel) (by decide +kernel)
theorem w_291 : (Jvm.Cond.code ({ cls := "SealedTalks$Agreement", name := "mixKeys", desc := "(I)V" } : Jvm.MethodName) prog_2_method_14_code (5 : Nat) (Option.none : Option Jvm.ClassFile.FieldType)) ∈ z_WS := z_in 291 (by decide +kernel) (by decide +kernel)
theorem w_292 : (Jvm.Cond.methodLink "SealedTalks$Agreement" (130 : Nat) ({ cls := "SealedTalks$Terms", name := "dh", desc := "(II)I" } : Jvm.MethodName)) ∈ z_WS := z_in 292 (by decide +kernel) (by decide +kernel)
theorem w_293 : (Jvm.Cond.instanceMethod ({ cls := "SealedTalks$Terms", name := "dh", desc := "(II)I" } : Jvm.MethodName)) ∈ z_WS := z_in 293 (by decide +kernel) (by decide +kernel)
theorem w_294 : (Jvm.Cond.selects "SealedTalks$Terms" ({ cls := "SealedTalks$Terms", name := "dh", desc := "(II)I" } : Jvm.MethodName) ({ cls := "SealedTalks$Terms", name := "dh", desc := "(II)I" } : Jvm.MethodName)) ∈ z_WS := z_in 294 (by decide +kernel) (by decide +kernel)
theorem w_295 : (Jvm.Cond.code ({ cls := "SealedTalks$Terms", name := "dh", desc := "(II)I" } : Jvm.MethodName) prog_6_method_4_code (3 : Nat) (Option.some Jvm.ClassFile.FieldType.int)) ∈ z_WS := z_in 295 (by decide +kernel) (by decide +kernel)
theorem w_296 : (Jvm.Cond.methodLink "SealedTalks$Terms" (51 : Nat) ({ cls := "java/lang/Math", name := "min", desc := "(II)I" } : Jvm.MethodName)) ∈ z_WS := z_in 296 (by decide +kernel) (by decide +kernel)
theorem w_297 : (Jvm.Cond.static ({ cls := "java/lang/Math", name := "min", desc := "(II)I" } : Jvm.MethodName)) ∈ z_WS := z_in 297 (by decide +kernel) (by decide +kernel)
theorem w_298 : (Jvm.Cond.code ({ cls := "java/lang/Math", name := "min", desc := "(II)I" } : Jvm.MethodName) prog_9_method_69_code (2 : Nat) (Option.some Jvm.ClassFile.FieldType.int)) ∈ z_WS := z_in 298 (by decide +kernel) (by decide +kernel)
theorem w_299 : (Jvm.Cond.methodLink "SealedTalks$Terms" (57 : Nat) ({ cls := "java/lang/Math", name := "max", desc := "(II)I" } : Jvm.MethodName)) ∈ z_WS := z_in 299 (by decide +kernel) (by decide +kernel)
theorem w_300 : (Jvm.Cond.static ({ cls := "java/lang/Math", name := "max", desc := "(II)I" } : Jvm.MethodName)) ∈ z_WS := z_in 300 (by decide +kernel) (by decide +kernel)
theorem w_301 : (Jvm.Cond.code ({ cls := "java/lang/Math", name := "max", desc := "(II)I" } : Jvm.MethodName) prog_9_method_65_code (2 : Nat) (Option.some Jvm.ClassFile.FieldType.int)) ∈ z_WS := z_in 301 (by decide +kernel) (by decide +kernel)
theorem w_302 : (Jvm.Cond.methodLink "SealedTalks$Agreement" (133 : Nat) ({ cls := "SealedTalks$Terms", name := "key", desc := "(II)I" } : Jvm.MethodName)) ∈ z_WS := z_in 302 (by decide +kernel) (by decide +kernel)
theorem w_303 : (Jvm.Cond.instanceMethod ({ cls := "SealedTalks$Terms", name := "key", desc := "(II)I" } : Jvm.MethodName)) ∈ z_WS := z_in 303 (by decide +kernel) (by decide +kernel)
theorem w_304 : (Jvm.Cond.selects "SealedTalks$Terms" ({ cls := "SealedTalks$Terms", name := "key", desc := "(II)I" } : Jvm.MethodName) ({ cls := "SealedTalks$Terms", name := "key", desc := "(II)I" } : Jvm.MethodName)) ∈ z_WS := z_in 304 (by decide +kernel) (by decide +kernel)
theorem w_305 : (Jvm.Cond.code ({ cls := "SealedTalks$Terms", name := "key", desc := "(II)I" } : Jvm.MethodName) prog_6_method_7_code (3 : Nat) (Option.some Jvm.ClassFile.FieldType.int)) ∈ z_WS := z_in 305 (by decide +kernel) (by decide +kernel)
theorem w_306 : (Jvm.Cond.methodLink "SealedTalks$Agreement" (136 : Nat) ({ cls := "SealedTalks$Terms", name := "chain", desc := "(II)I" } : Jvm.MethodName)) ∈ z_WS := z_in 306 (by decide +kernel) (by decide +kernel)
theorem w_307 : (Jvm.Cond.instanceMethod ({ cls := "SealedTalks$Terms", name := "chain", desc := "(II)I" } : Jvm.MethodName)) ∈ z_WS := z_in 307 (by decide +kernel) (by decide +kernel)
theorem w_308 : (Jvm.Cond.selects "SealedTalks$Terms" ({ cls := "SealedTalks$Terms", name := "chain", desc := "(II)I" } : Jvm.MethodName) ({ cls := "SealedTalks$Terms", name := "chain", desc := "(II)I" } : Jvm.MethodName)) ∈ z_WS := z_in 308 (by decide +kernel) (by decide +kernel)
theorem w_309 : (Jvm.Cond.code ({ cls := "SealedTalks$Terms", name := "chain", desc := "(II)I" } : Jvm.MethodName) prog_6_method_6_code (3 : Nat) (Option.some Jvm.ClassFile.FieldType.int)) ∈ z_WS := z_in 309 (by decide +kernel) (by decide +kernel)
theorem w_310 : (Jvm.Cond.methodLink "SealedTalks$Session" (52 : Nat) ({ cls := "SealedTalks$Session", name := "endAgreement", desc := "()V" } : Jvm.MethodName)) ∈ z_WS := z_in 310 (by decide +kernel) (by decide +kernel)
theorem w_312 : (Jvm.Cond.instanceMethod ({ cls := "SealedTalks$Session", name := "endAgreement", desc := "()V" } : Jvm.MethodName)) ∈ z_WS := z_in 312 (by decide +kernel) (by decide +kernel)
theorem w_313 : (Jvm.Cond.code ({ cls := "SealedTalks$Session", name := "endAgreement", desc := "()V" } : Jvm.MethodName) prog_5_method_6_code (1 : Nat) (Option.none : Option Jvm.ClassFile.FieldType)) ∈ z_WS := z_in 313 (by decide +kernel) (by decide +kernel)
theorem w_314 : (Jvm.Cond.methodLink "SealedTalks$Session" (77 : Nat) ({ cls := "SealedTalks$Agreement", name := "isDone", desc := "()Z" } : Jvm.MethodName)) ∈ z_WS := z_in 314 (by decide +kernel) (by decide +kernel)
theorem w_315 : (Jvm.Cond.methodLink "SealedTalks$Session" (86 : Nat) ({ cls := "SealedTalks$Channel", name := "setKeys", desc := "(IZ)V" } : Jvm.MethodName)) ∈ z_WS := z_in 315 (by decide +kernel) (by decide +kernel)
theorem w_316 : (Jvm.Cond.instanceMethod ({ cls := "SealedTalks$Channel", name := "setKeys", desc := "(IZ)V" } : Jvm.MethodName)) ∈ z_WS := z_in 316 (by decide +kernel) (by decide +kernel)
theorem w_317 : (Jvm.Cond.selects "SealedTalks$Channel" ({ cls := "SealedTalks$Channel", name := "setKeys", desc := "(IZ)V" } : Jvm.MethodName) ({ cls := "SealedTalks$Channel", name := "setKeys", desc := "(IZ)V" } : Jvm.MethodName)) ∈ z_WS := z_in 317 (by decide +kernel) (by decide +kernel)
theorem w_318 : (Jvm.Cond.code ({ cls := "SealedTalks$Channel", name := "setKeys", desc := "(IZ)V" } : Jvm.MethodName) prog_3_method_2_code (3 : Nat) (Option.none : Option Jvm.ClassFile.FieldType)) ∈ z_WS := z_in 318 (by decide +kernel) (by decide +kernel)
theorem w_319 : (Jvm.Cond.methodLink "SealedTalks$Channel" (32 : Nat) ({ cls := "SealedTalks$Terms", name := "half", desc := "(II)I" } : Jvm.MethodName)) ∈ z_WS := z_in 319 (by decide +kernel) (by decide +kernel)
theorem w_320 : (Jvm.Cond.instanceMethod ({ cls := "SealedTalks$Terms", name := "half", desc := "(II)I" } : Jvm.MethodName)) ∈ z_WS := z_in 320 (by decide +kernel) (by decide +kernel)
theorem w_321 : (Jvm.Cond.selects "SealedTalks$Terms" ({ cls := "SealedTalks$Terms", name := "half", desc := "(II)I" } : Jvm.MethodName) ({ cls := "SealedTalks$Terms", name := "half", desc := "(II)I" } : Jvm.MethodName)) ∈ z_WS := z_in 321 (by decide +kernel) (by decide +kernel)
theorem w_322 : (Jvm.Cond.code ({ cls := "SealedTalks$Terms", name := "half", desc := "(II)I" } : Jvm.MethodName) prog_6_method_8_code (3 : Nat) (Option.some Jvm.ClassFile.FieldType.int)) ∈ z_WS := z_in 322 (by decide +kernel) (by decide +kernel)
theorem w_323 : (Jvm.Cond.methodLink "SealedTalks" (69 : Nat) ({ cls := "SealedTalks$Messages", name := "finish", desc := "()I" } : Jvm.MethodName)) ∈ z_WS := z_in 323 (by decide +kernel) (by decide +kernel)
theorem w_324 : (Jvm.Cond.instanceMethod ({ cls := "SealedTalks$Messages", name := "finish", desc := "()I" } : Jvm.MethodName)) ∈ z_WS := z_in 324 (by decide +kernel) (by decide +kernel)
theorem w_325 : (Jvm.Cond.selects "SealedTalks$Messages" ({ cls := "SealedTalks$Messages", name := "finish", desc := "()I" } : Jvm.MethodName) ({ cls := "SealedTalks$Messages", name := "finish", desc := "()I" } : Jvm.MethodName)) ∈ z_WS := z_in 325 (by decide +kernel) (by decide +kernel)
theorem w_326 : (Jvm.Cond.code ({ cls := "SealedTalks$Messages", name := "finish", desc := "()I" } : Jvm.MethodName) prog_4_method_7_code (1 : Nat) (Option.some Jvm.ClassFile.FieldType.int)) ∈ z_WS := z_in 326 (by decide +kernel) (by decide +kernel)
theorem w_327 : (Jvm.Cond.methodLink "SealedTalksLaw" (23 : Nat) ({ cls := "SealedTalks", name := "send", desc := "(II)I" } : Jvm.MethodName)) ∈ z_WS := z_in 327 (by decide +kernel) (by decide +kernel)
theorem w_328 : (Jvm.Cond.instanceMethod ({ cls := "SealedTalks", name := "send", desc := "(II)I" } : Jvm.MethodName)) ∈ z_WS := z_in 328 (by decide +kernel) (by decide +kernel)
theorem w_329 : (Jvm.Cond.selects "SealedTalks" ({ cls := "SealedTalks", name := "send", desc := "(II)I" } : Jvm.MethodName) ({ cls := "SealedTalks", name := "send", desc := "(II)I" } : Jvm.MethodName)) ∈ z_WS := z_in 329 (by decide +kernel) (by decide +kernel)
theorem w_330 : (Jvm.Cond.code ({ cls := "SealedTalks", name := "send", desc := "(II)I" } : Jvm.MethodName) prog_1_method_4_code (4 : Nat) (Option.some Jvm.ClassFile.FieldType.int)) ∈ z_WS := z_in 330 (by decide +kernel) (by decide +kernel)
theorem w_331 : (Jvm.Cond.methodLink "SealedTalks" (73 : Nat) ({ cls := "SealedTalks$Agreement", name := "isDone", desc := "()Z" } : Jvm.MethodName)) ∈ z_WS := z_in 331 (by decide +kernel) (by decide +kernel)
theorem w_332 : (Jvm.Cond.methodLink "SealedTalks" (80 : Nat) ({ cls := "SealedTalks$Channel", name := "sendNext", desc := "(LSealedTalks$Messages;I)V" } : Jvm.MethodName)) ∈ z_WS := z_in 332 (by decide +kernel) (by decide +kernel)
theorem w_333 : (Jvm.Cond.instanceMethod ({ cls := "SealedTalks$Channel", name := "sendNext", desc := "(LSealedTalks$Messages;I)V" } : Jvm.MethodName)) ∈ z_WS := z_in 333 (by decide +kernel) (by decide +kernel)
theorem w_334 : (Jvm.Cond.selects "SealedTalks$Channel" ({ cls := "SealedTalks$Channel", name := "sendNext", desc := "(LSealedTalks$Messages;I)V" } : Jvm.MethodName) ({ cls := "SealedTalks$Channel", name := "sendNext", desc := "(LSealedTalks$Messages;I)V" } : Jvm.MethodName)) ∈ z_WS := z_in 334 (by decide +kernel) (by decide +kernel)
theorem w_335 : (Jvm.Cond.code ({ cls := "SealedTalks$Channel", name := "sendNext", desc := "(LSealedTalks$Messages;I)V" } : Jvm.MethodName) prog_3_method_3_code (3 : Nat) (Option.none : Option Jvm.ClassFile.FieldType)) ∈ z_WS := z_in 335 (by decide +kernel) (by decide +kernel)
theorem w_336 : (Jvm.Cond.methodLink "SealedTalks$Channel" (38 : Nat) ({ cls := "SealedTalks$Terms", name := "num", desc := "(I)I" } : Jvm.MethodName)) ∈ z_WS := z_in 336 (by decide +kernel) (by decide +kernel)
theorem w_337 : (Jvm.Cond.methodLink "SealedTalks$Channel" (42 : Nat) ({ cls := "SealedTalks$Messages", name := "addPart", desc := "(I)V" } : Jvm.MethodName)) ∈ z_WS := z_in 337 (by decide +kernel) (by decide +kernel)
theorem w_338 : (Jvm.Cond.methodLink "SealedTalks$Channel" (48 : Nat) ({ cls := "SealedTalks$Terms", name := "seal", desc := "(IIII)I" } : Jvm.MethodName)) ∈ z_WS := z_in 338 (by decide +kernel) (by decide +kernel)
theorem w_339 : (Jvm.Cond.methodLink "SealedTalksLaw" (27 : Nat) ({ cls := "SealedTalks", name := "deliver", desc := "(II)I" } : Jvm.MethodName)) ∈ z_WS := z_in 339 (by decide +kernel) (by decide +kernel)
theorem w_340 : (Jvm.Cond.instanceMethod ({ cls := "SealedTalks", name := "deliver", desc := "(II)I" } : Jvm.MethodName)) ∈ z_WS := z_in 340 (by decide +kernel) (by decide +kernel)
theorem w_341 : (Jvm.Cond.selects "SealedTalks" ({ cls := "SealedTalks", name := "deliver", desc := "(II)I" } : Jvm.MethodName) ({ cls := "SealedTalks", name := "deliver", desc := "(II)I" } : Jvm.MethodName)) ∈ z_WS := z_in 341 (by decide +kernel) (by decide +kernel)
theorem w_342 : (Jvm.Cond.code ({ cls := "SealedTalks", name := "deliver", desc := "(II)I" } : Jvm.MethodName) prog_1_method_5_code (5 : Nat) (Option.some Jvm.ClassFile.FieldType.int)) ∈ z_WS := z_in 342 (by decide +kernel) (by decide +kernel)
theorem w_343 : (Jvm.Cond.methodLink "SealedTalks" (85 : Nat) ({ cls := "SealedTalks$Messages", name := "has", desc := "(I)Z" } : Jvm.MethodName)) ∈ z_WS := z_in 343 (by decide +kernel) (by decide +kernel)
theorem w_344 : (Jvm.Cond.instanceMethod ({ cls := "SealedTalks$Messages", name := "has", desc := "(I)Z" } : Jvm.MethodName)) ∈ z_WS := z_in 344 (by decide +kernel) (by decide +kernel)
theorem w_345 : (Jvm.Cond.selects "SealedTalks$Messages" ({ cls := "SealedTalks$Messages", name := "has", desc := "(I)Z" } : Jvm.MethodName) ({ cls := "SealedTalks$Messages", name := "has", desc := "(I)Z" } : Jvm.MethodName)) ∈ z_WS := z_in 345 (by decide +kernel) (by decide +kernel)
theorem w_346 : (Jvm.Cond.code ({ cls := "SealedTalks$Messages", name := "has", desc := "(I)Z" } : Jvm.MethodName) prog_4_method_3_code (2 : Nat) (Option.some Jvm.ClassFile.FieldType.boolean)) ∈ z_WS := z_in 346 (by decide +kernel) (by decide +kernel)
theorem w_347 : (Jvm.Cond.methodLink "SealedTalks" (88 : Nat) ({ cls := "SealedTalks$Channel", name := "acceptNext", desc := "(LSealedTalks$Messages;I)I" } : Jvm.MethodName)) ∈ z_WS := z_in 347 (by decide +kernel) (by decide +kernel)
theorem w_348 : (Jvm.Cond.instanceMethod ({ cls := "SealedTalks$Channel", name := "acceptNext", desc := "(LSealedTalks$Messages;I)I" } : Jvm.MethodName)) ∈ z_WS := z_in 348 (by decide +kernel) (by decide +kernel)
theorem w_349 : (Jvm.Cond.selects "SealedTalks$Channel" ({ cls := "SealedTalks$Channel", name := "acceptNext", desc := "(LSealedTalks$Messages;I)I" } : Jvm.MethodName) ({ cls := "SealedTalks$Channel", name := "acceptNext", desc := "(LSealedTalks$Messages;I)I" } : Jvm.MethodName)) ∈ z_WS := z_in 349 (by decide +kernel) (by decide +kernel)
theorem w_350 : (Jvm.Cond.code ({ cls := "SealedTalks$Channel", name := "acceptNext", desc := "(LSealedTalks$Messages;I)I" } : Jvm.MethodName) prog_3_method_4_code (6 : Nat) (Option.some Jvm.ClassFile.FieldType.int)) ∈ z_WS := z_in 350 (by decide +kernel) (by decide +kernel)
theorem w_351 : (Jvm.Cond.methodLink "SealedTalks$Channel" (52 : Nat) ({ cls := "SealedTalks$Messages", name := "partAt", desc := "(II)I" } : Jvm.MethodName)) ∈ z_WS := z_in 351 (by decide +kernel) (by decide +kernel)
theorem w_352 : (Jvm.Cond.instanceMethod ({ cls := "SealedTalks$Messages", name := "partAt", desc := "(II)I" } : Jvm.MethodName)) ∈ z_WS := z_in 352 (by decide +kernel) (by decide +kernel)
theorem w_353 : (Jvm.Cond.selects "SealedTalks$Messages" ({ cls := "SealedTalks$Messages", name := "partAt", desc := "(II)I" } : Jvm.MethodName) ({ cls := "SealedTalks$Messages", name := "partAt", desc := "(II)I" } : Jvm.MethodName)) ∈ z_WS := z_in 353 (by decide +kernel) (by decide +kernel)
theorem w_354 : (Jvm.Cond.code ({ cls := "SealedTalks$Messages", name := "partAt", desc := "(II)I" } : Jvm.MethodName) prog_4_method_5_code (3 : Nat) (Option.some Jvm.ClassFile.FieldType.int)) ∈ z_WS := z_in 354 (by decide +kernel) (by decide +kernel)
theorem w_355 : (Jvm.Cond.methodLink "SealedTalks$Messages" (26 : Nat) ({ cls := "SealedTalks$Messages", name := "sizeOf", desc := "(I)I" } : Jvm.MethodName)) ∈ z_WS := z_in 355 (by decide +kernel) (by decide +kernel)
theorem w_356 : (Jvm.Cond.instanceMethod ({ cls := "SealedTalks$Messages", name := "sizeOf", desc := "(I)I" } : Jvm.MethodName)) ∈ z_WS := z_in 356 (by decide +kernel) (by decide +kernel)
theorem w_357 : (Jvm.Cond.selects "SealedTalks$Messages" ({ cls := "SealedTalks$Messages", name := "sizeOf", desc := "(I)I" } : Jvm.MethodName) ({ cls := "SealedTalks$Messages", name := "sizeOf", desc := "(I)I" } : Jvm.MethodName)) ∈ z_WS := z_in 357 (by decide +kernel) (by decide +kernel)
theorem w_358 : (Jvm.Cond.code ({ cls := "SealedTalks$Messages", name := "sizeOf", desc := "(I)I" } : Jvm.MethodName) prog_4_method_4_code (2 : Nat) (Option.some Jvm.ClassFile.FieldType.int)) ∈ z_WS := z_in 358 (by decide +kernel) (by decide +kernel)
theorem w_359 : (Jvm.Cond.methodLink "SealedTalks$Messages" (22 : Nat) ({ cls := "SealedTalks$Messages", name := "has", desc := "(I)Z" } : Jvm.MethodName)) ∈ z_WS := z_in 359 (by decide +kernel) (by decide +kernel)
theorem w_360 : (Jvm.Cond.methodLink "SealedTalks$Channel" (55 : Nat) ({ cls := "SealedTalks$Messages", name := "sizeOf", desc := "(I)I" } : Jvm.MethodName)) ∈ z_WS := z_in 360 (by decide +kernel) (by decide +kernel)
theorem w_361 : (Jvm.Cond.methodLink "SealedTalks$Channel" (58 : Nat) ({ cls := "SealedTalks$Terms", name := "isNum", desc := "(I)Z" } : Jvm.MethodName)) ∈ z_WS := z_in 361 (by decide +kernel) (by decide +kernel)
theorem w_362 : (Jvm.Cond.instanceMethod ({ cls := "SealedTalks$Terms", name := "isNum", desc := "(I)Z" } : Jvm.MethodName)) ∈ z_WS := z_in 362 (by decide +kernel) (by decide +kernel)
theorem w_363 : (Jvm.Cond.selects "SealedTalks$Terms" ({ cls := "SealedTalks$Terms", name := "isNum", desc := "(I)Z" } : Jvm.MethodName) ({ cls := "SealedTalks$Terms", name := "isNum", desc := "(I)Z" } : Jvm.MethodName)) ∈ z_WS := z_in 363 (by decide +kernel) (by decide +kernel)
theorem w_364 : (Jvm.Cond.code ({ cls := "SealedTalks$Terms", name := "isNum", desc := "(I)Z" } : Jvm.MethodName) prog_6_method_10_code (2 : Nat) (Option.some Jvm.ClassFile.FieldType.boolean)) ∈ z_WS := z_in 364 (by decide +kernel) (by decide +kernel)
theorem w_365 : (Jvm.Cond.methodLink "SealedTalks$Channel" (62 : Nat) ({ cls := "SealedTalks$Terms", name := "valueOf", desc := "(I)I" } : Jvm.MethodName)) ∈ z_WS := z_in 365 (by decide +kernel) (by decide +kernel)
theorem w_366 : (Jvm.Cond.instanceMethod ({ cls := "SealedTalks$Terms", name := "valueOf", desc := "(I)I" } : Jvm.MethodName)) ∈ z_WS := z_in 366 (by decide +kernel) (by decide +kernel)
theorem w_367 : (Jvm.Cond.selects "SealedTalks$Terms" ({ cls := "SealedTalks$Terms", name := "valueOf", desc := "(I)I" } : Jvm.MethodName) ({ cls := "SealedTalks$Terms", name := "valueOf", desc := "(I)I" } : Jvm.MethodName)) ∈ z_WS := z_in 367 (by decide +kernel) (by decide +kernel)
theorem w_368 : (Jvm.Cond.code ({ cls := "SealedTalks$Terms", name := "valueOf", desc := "(I)I" } : Jvm.MethodName) prog_6_method_14_code (2 : Nat) (Option.some Jvm.ClassFile.FieldType.int)) ∈ z_WS := z_in 368 (by decide +kernel) (by decide +kernel)
theorem w_369 : (Jvm.Cond.methodLink "SealedTalks$Channel" (65 : Nat) ({ cls := "SealedTalks$Channel", name := "isFresh", desc := "(I)Z" } : Jvm.MethodName)) ∈ z_WS := z_in 369 (by decide +kernel) (by decide +kernel)
theorem w_371 : (Jvm.Cond.instanceMethod ({ cls := "SealedTalks$Channel", name := "isFresh", desc := "(I)Z" } : Jvm.MethodName)) ∈ z_WS := z_in 371 (by decide +kernel) (by decide +kernel)
theorem w_372 : (Jvm.Cond.code ({ cls := "SealedTalks$Channel", name := "isFresh", desc := "(I)Z" } : Jvm.MethodName) prog_3_method_5_code (2 : Nat) (Option.some Jvm.ClassFile.FieldType.boolean)) ∈ z_WS := z_in 372 (by decide +kernel) (by decide +kernel)
theorem w_373 : (Jvm.Cond.methodLink "SealedTalks$Channel" (68 : Nat) ({ cls := "SealedTalks$Terms", name := "isSealOf", desc := "(IIII)Z" } : Jvm.MethodName)) ∈ z_WS := z_in 373 (by decide +kernel) (by decide +kernel)
theorem w_374 : (Jvm.Cond.instanceMethod ({ cls := "SealedTalks$Terms", name := "isSealOf", desc := "(IIII)Z" } : Jvm.MethodName)) ∈ z_WS := z_in 374 (by decide +kernel) (by decide +kernel)
theorem w_375 : (Jvm.Cond.selects "SealedTalks$Terms" ({ cls := "SealedTalks$Terms", name := "isSealOf", desc := "(IIII)Z" } : Jvm.MethodName) ({ cls := "SealedTalks$Terms", name := "isSealOf", desc := "(IIII)Z" } : Jvm.MethodName)) ∈ z_WS := z_in 375 (by decide +kernel) (by decide +kernel)
theorem w_376 : (Jvm.Cond.code ({ cls := "SealedTalks$Terms", name := "isSealOf", desc := "(IIII)Z" } : Jvm.MethodName) prog_6_method_13_code (5 : Nat) (Option.some Jvm.ClassFile.FieldType.boolean)) ∈ z_WS := z_in 376 (by decide +kernel) (by decide +kernel)
theorem w_377 : (Jvm.Cond.methodLink "SealedTalks$Terms" (60 : Nat) ({ cls := "SealedTalks$Terms", name := "isSeal", desc := "(I)Z" } : Jvm.MethodName)) ∈ z_WS := z_in 377 (by decide +kernel) (by decide +kernel)
theorem w_378 : (Jvm.Cond.instanceMethod ({ cls := "SealedTalks$Terms", name := "isSeal", desc := "(I)Z" } : Jvm.MethodName)) ∈ z_WS := z_in 378 (by decide +kernel) (by decide +kernel)
theorem w_379 : (Jvm.Cond.selects "SealedTalks$Terms" ({ cls := "SealedTalks$Terms", name := "isSeal", desc := "(I)Z" } : Jvm.MethodName) ({ cls := "SealedTalks$Terms", name := "isSeal", desc := "(I)Z" } : Jvm.MethodName)) ∈ z_WS := z_in 379 (by decide +kernel) (by decide +kernel)
theorem w_380 : (Jvm.Cond.code ({ cls := "SealedTalks$Terms", name := "isSeal", desc := "(I)Z" } : Jvm.MethodName) prog_6_method_12_code (2 : Nat) (Option.some Jvm.ClassFile.FieldType.boolean)) ∈ z_WS := z_in 380 (by decide +kernel) (by decide +kernel)
theorem w_381 : (Jvm.Cond.methodLink "SealedTalks$Channel" (72 : Nat) ({ cls := "SealedTalks$Terms", name := "insideOf", desc := "(I)I" } : Jvm.MethodName)) ∈ z_WS := z_in 381 (by decide +kernel) (by decide +kernel)
theorem w_382 : (Jvm.Cond.instanceMethod ({ cls := "SealedTalks$Terms", name := "insideOf", desc := "(I)I" } : Jvm.MethodName)) ∈ z_WS := z_in 382 (by decide +kernel) (by decide +kernel)
theorem w_383 : (Jvm.Cond.selects "SealedTalks$Terms" ({ cls := "SealedTalks$Terms", name := "insideOf", desc := "(I)I" } : Jvm.MethodName) ({ cls := "SealedTalks$Terms", name := "insideOf", desc := "(I)I" } : Jvm.MethodName)) ∈ z_WS := z_in 383 (by decide +kernel) (by decide +kernel)
theorem w_384 : (Jvm.Cond.code ({ cls := "SealedTalks$Terms", name := "insideOf", desc := "(I)I" } : Jvm.MethodName) prog_6_method_15_code (2 : Nat) (Option.some Jvm.ClassFile.FieldType.int)) ∈ z_WS := z_in 384 (by decide +kernel) (by decide +kernel)
theorem w_385 : (Jvm.Cond.methodLink "SealedTalks$Channel" (75 : Nat) ({ cls := "java/lang/Math", name := "max", desc := "(II)I" } : Jvm.MethodName)) ∈ z_WS := z_in 385 (by decide +kernel) (by decide +kernel)
theorem w_386 : (Jvm.Cond.methodLink "SealedTalks" (92 : Nat) ({ cls := "SealedTalks$Session", name := "readNext", desc := "(LSealedTalks$Messages;I)I" } : Jvm.MethodName)) ∈ z_WS := z_in 386 (by decide +kernel) (by decide +kernel)
theorem w_387 : (Jvm.Cond.instanceMethod ({ cls := "SealedTalks$Session", name := "readNext", desc := "(LSealedTalks$Messages;I)I" } : Jvm.MethodName)) ∈ z_WS := z_in 387 (by decide +kernel) (by decide +kernel)
theorem w_388 : (Jvm.Cond.selects "SealedTalks$Session" ({ cls := "SealedTalks$Session", name := "readNext", desc := "(LSealedTalks$Messages;I)I" } : Jvm.MethodName) ({ cls := "SealedTalks$Session", name := "readNext", desc := "(LSealedTalks$Messages;I)I" } : Jvm.MethodName)) ∈ z_WS := z_in 388 (by decide +kernel) (by decide +kernel)
theorem w_389 : (Jvm.Cond.code ({ cls := "SealedTalks$Session", name := "readNext", desc := "(LSealedTalks$Messages;I)I" } : Jvm.MethodName) prog_5_method_3_code (5 : Nat) (Option.some Jvm.ClassFile.FieldType.int)) ∈ z_WS := z_in 389 (by decide +kernel) (by decide +kernel)
theorem w_390 : (Jvm.Cond.methodLink "SealedTalks$Session" (55 : Nat) ({ cls := "SealedTalks$Agreement", name := "isOwnTurn", desc := "()Z" } : Jvm.MethodName)) ∈ z_WS := z_in 390 (by decide +kernel) (by decide +kernel)
theorem w_391 : (Jvm.Cond.methodLink "SealedTalks$Session" (59 : Nat) ({ cls := "SealedTalks$Terms", name := "newest", desc := "()I" } : Jvm.MethodName)) ∈ z_WS := z_in 391 (by decide +kernel) (by decide +kernel)
theorem w_392 : (Jvm.Cond.instanceMethod ({ cls := "SealedTalks$Terms", name := "newest", desc := "()I" } : Jvm.MethodName)) ∈ z_WS := z_in 392 (by decide +kernel) (by decide +kernel)
theorem w_393 : (Jvm.Cond.selects "SealedTalks$Terms" ({ cls := "SealedTalks$Terms", name := "newest", desc := "()I" } : Jvm.MethodName) ({ cls := "SealedTalks$Terms", name := "newest", desc := "()I" } : Jvm.MethodName)) ∈ z_WS := z_in 393 (by decide +kernel) (by decide +kernel)
theorem w_394 : (Jvm.Cond.code ({ cls := "SealedTalks$Terms", name := "newest", desc := "()I" } : Jvm.MethodName) prog_6_method_20_code (1 : Nat) (Option.some Jvm.ClassFile.FieldType.int)) ∈ z_WS := z_in 394 (by decide +kernel) (by decide +kernel)
theorem w_395 : (Jvm.Cond.methodLink "SealedTalks$Session" (65 : Nat) ({ cls := "SealedTalks$Agreement", name := "copyFrom", desc := "(LSealedTalks$Agreement;)V" } : Jvm.MethodName)) ∈ z_WS := z_in 395 (by decide +kernel) (by decide +kernel)
theorem w_396 : (Jvm.Cond.instanceMethod ({ cls := "SealedTalks$Agreement", name := "copyFrom", desc := "(LSealedTalks$Agreement;)V" } : Jvm.MethodName)) ∈ z_WS := z_in 396 (by decide +kernel) (by decide +kernel)
theorem w_397 : (Jvm.Cond.selects "SealedTalks$Agreement" ({ cls := "SealedTalks$Agreement", name := "copyFrom", desc := "(LSealedTalks$Agreement;)V" } : Jvm.MethodName) ({ cls := "SealedTalks$Agreement", name := "copyFrom", desc := "(LSealedTalks$Agreement;)V" } : Jvm.MethodName)) ∈ z_WS := z_in 397 (by decide +kernel) (by decide +kernel)
theorem w_398 : (Jvm.Cond.code ({ cls := "SealedTalks$Agreement", name := "copyFrom", desc := "(LSealedTalks$Agreement;)V" } : Jvm.MethodName) prog_2_method_3_code (2 : Nat) (Option.none : Option Jvm.ClassFile.FieldType)) ∈ z_WS := z_in 398 (by decide +kernel) (by decide +kernel)
theorem w_399 : (Jvm.Cond.methodLink "SealedTalks$Session" (69 : Nat) ({ cls := "SealedTalks$Agreement", name := "readNext", desc := "(LSealedTalks$Messages;I)I" } : Jvm.MethodName)) ∈ z_WS := z_in 399 (by decide +kernel) (by decide +kernel)
theorem w_400 : (Jvm.Cond.instanceMethod ({ cls := "SealedTalks$Agreement", name := "readNext", desc := "(LSealedTalks$Messages;I)I" } : Jvm.MethodName)) ∈ z_WS := z_in 400 (by decide +kernel) (by decide +kernel)
theorem w_401 : (Jvm.Cond.selects "SealedTalks$Agreement" ({ cls := "SealedTalks$Agreement", name := "readNext", desc := "(LSealedTalks$Messages;I)I" } : Jvm.MethodName) ({ cls := "SealedTalks$Agreement", name := "readNext", desc := "(LSealedTalks$Messages;I)I" } : Jvm.MethodName)) ∈ z_WS := z_in 401 (by decide +kernel) (by decide +kernel)
theorem w_402 : (Jvm.Cond.code ({ cls := "SealedTalks$Agreement", name := "readNext", desc := "(LSealedTalks$Messages;I)I" } : Jvm.MethodName) prog_2_method_7_code (6 : Nat) (Option.some Jvm.ClassFile.FieldType.int)) ∈ z_WS := z_in 402 (by decide +kernel) (by decide +kernel)
theorem w_403 : (Jvm.Cond.methodLink "SealedTalks$Agreement" (85 : Nat) ({ cls := "SealedTalks$Messages", name := "sizeOf", desc := "(I)I" } : Jvm.MethodName)) ∈ z_WS := z_in 403 (by decide +kernel) (by decide +kernel)
theorem w_404 : (Jvm.Cond.methodLink "SealedTalks$Agreement" (90 : Nat) ({ cls := "SealedTalks$Agreement", name := "partsOfNext", desc := "()I" } : Jvm.MethodName)) ∈ z_WS := z_in 404 (by decide +kernel) (by decide +kernel)
theorem w_406 : (Jvm.Cond.instanceMethod ({ cls := "SealedTalks$Agreement", name := "partsOfNext", desc := "()I" } : Jvm.MethodName)) ∈ z_WS := z_in 406 (by decide +kernel) (by decide +kernel)
theorem w_407 : (Jvm.Cond.code ({ cls := "SealedTalks$Agreement", name := "partsOfNext", desc := "()I" } : Jvm.MethodName) prog_2_method_9_code (3 : Nat) (Option.some Jvm.ClassFile.FieldType.int)) ∈ z_WS := z_in 407 (by decide +kernel) (by decide +kernel)
theorem w_408 : (Jvm.Cond.methodLink "SealedTalks$Agreement" (93 : Nat) ({ cls := "SealedTalks$Messages", name := "partAt", desc := "(II)I" } : Jvm.MethodName)) ∈ z_WS := z_in 408 (by decide +kernel) (by decide +kernel)
theorem w_409 : (Jvm.Cond.methodLink "SealedTalks$Agreement" (96 : Nat) ({ cls := "SealedTalks$Agreement", name := "readKey", desc := "(II)Z" } : Jvm.MethodName)) ∈ z_WS := z_in 409 (by decide +kernel) (by decide +kernel)
theorem w_411 : (Jvm.Cond.instanceMethod ({ cls := "SealedTalks$Agreement", name := "readKey", desc := "(II)Z" } : Jvm.MethodName)) ∈ z_WS := z_in 411 (by decide +kernel) (by decide +kernel)
theorem w_412 : (Jvm.Cond.code ({ cls := "SealedTalks$Agreement", name := "readKey", desc := "(II)Z" } : Jvm.MethodName) prog_2_method_11_code (4 : Nat) (Option.some Jvm.ClassFile.FieldType.boolean)) ∈ z_WS := z_in 412 (by decide +kernel) (by decide +kernel)
theorem w_413 : (Jvm.Cond.methodLink "SealedTalks$Agreement" (100 : Nat) ({ cls := "SealedTalks$Agreement", name := "openedUp", desc := "(I)I" } : Jvm.MethodName)) ∈ z_WS := z_in 413 (by decide +kernel) (by decide +kernel)
theorem w_415 : (Jvm.Cond.instanceMethod ({ cls := "SealedTalks$Agreement", name := "openedUp", desc := "(I)I" } : Jvm.MethodName)) ∈ z_WS := z_in 415 (by decide +kernel) (by decide +kernel)
theorem w_416 : (Jvm.Cond.code ({ cls := "SealedTalks$Agreement", name := "openedUp", desc := "(I)I" } : Jvm.MethodName) prog_2_method_13_code (2 : Nat) (Option.some Jvm.ClassFile.FieldType.int)) ∈ z_WS := z_in 416 (by decide +kernel) (by decide +kernel)
theorem w_417 : (Jvm.Cond.methodLink "SealedTalks$Agreement" (123 : Nat) ({ cls := "SealedTalks$Terms", name := "isSealOf", desc := "(IIII)Z" } : Jvm.MethodName)) ∈ z_WS := z_in 417 (by decide +kernel) (by decide +kernel)
theorem w_418 : (Jvm.Cond.methodLink "SealedTalks$Agreement" (127 : Nat) ({ cls := "SealedTalks$Terms", name := "insideOf", desc := "(I)I" } : Jvm.MethodName)) ∈ z_WS := z_in 418 (by decide +kernel) (by decide +kernel)
theorem w_419 : (Jvm.Cond.methodLink "SealedTalks$Agreement" (113 : Nat) ({ cls := "SealedTalks$Terms", name := "isPub", desc := "(I)Z" } : Jvm.MethodName)) ∈ z_WS := z_in 419 (by decide +kernel) (by decide +kernel)
theorem w_420 : (Jvm.Cond.instanceMethod ({ cls := "SealedTalks$Terms", name := "isPub", desc := "(I)Z" } : Jvm.MethodName)) ∈ z_WS := z_in 420 (by decide +kernel) (by decide +kernel)
theorem w_421 : (Jvm.Cond.selects "SealedTalks$Terms" ({ cls := "SealedTalks$Terms", name := "isPub", desc := "(I)Z" } : Jvm.MethodName) ({ cls := "SealedTalks$Terms", name := "isPub", desc := "(I)Z" } : Jvm.MethodName)) ∈ z_WS := z_in 421 (by decide +kernel) (by decide +kernel)
theorem w_422 : (Jvm.Cond.code ({ cls := "SealedTalks$Terms", name := "isPub", desc := "(I)Z" } : Jvm.MethodName) prog_6_method_11_code (2 : Nat) (Option.some Jvm.ClassFile.FieldType.boolean)) ∈ z_WS := z_in 422 (by decide +kernel) (by decide +kernel)
theorem w_423 : (Jvm.Cond.methodLink "SealedTalks$Agreement" (116 : Nat) ({ cls := "SealedTalks$Terms", name := "valueOf", desc := "(I)I" } : Jvm.MethodName)) ∈ z_WS := z_in 423 (by decide +kernel) (by decide +kernel)
theorem w_424 : (Jvm.Cond.methodLink "SealedTalks$Agreement" (103 : Nat) ({ cls := "SealedTalks$Terms", name := "isNum", desc := "(I)Z" } : Jvm.MethodName)) ∈ z_WS := z_in 424 (by decide +kernel) (by decide +kernel)
theorem w_425 : (Jvm.Cond.methodLink "SealedTalks$Session" (73 : Nat) ({ cls := "SealedTalks$Terms", name := "dropBehind", desc := "(I)V" } : Jvm.MethodName)) ∈ z_WS := z_in 425 (by decide +kernel) (by decide +kernel)
theorem w_426 : (Jvm.Cond.instanceMethod ({ cls := "SealedTalks$Terms", name := "dropBehind", desc := "(I)V" } : Jvm.MethodName)) ∈ z_WS := z_in 426 (by decide +kernel) (by decide +kernel)
theorem w_427 : (Jvm.Cond.selects "SealedTalks$Terms" ({ cls := "SealedTalks$Terms", name := "dropBehind", desc := "(I)V" } : Jvm.MethodName) ({ cls := "SealedTalks$Terms", name := "dropBehind", desc := "(I)V" } : Jvm.MethodName)) ∈ z_WS := z_in 427 (by decide +kernel) (by decide +kernel)
theorem w_428 : (Jvm.Cond.code ({ cls := "SealedTalks$Terms", name := "dropBehind", desc := "(I)V" } : Jvm.MethodName) prog_6_method_21_code (4 : Nat) (Option.none : Option Jvm.ClassFile.FieldType)) ∈ z_WS := z_in 428 (by decide +kernel) (by decide +kernel)
theorem w_429 : (Jvm.Cond.methodLink "SealedTalks" (95 : Nat) ({ cls := "SealedTalks$Terms", name := "valueOf", desc := "(I)I" } : Jvm.MethodName)) ∈ z_WS := z_in 429 (by decide +kernel) (by decide +kernel)
theorem w_430 : (Jvm.Cond.methodLink "SealedTalks" (99 : Nat) ({ cls := "SealedTalks$Session", name := "notePayload", desc := "(I)V" } : Jvm.MethodName)) ∈ z_WS := z_in 430 (by decide +kernel) (by decide +kernel)
theorem w_431 : (Jvm.Cond.instanceMethod ({ cls := "SealedTalks$Session", name := "notePayload", desc := "(I)V" } : Jvm.MethodName)) ∈ z_WS := z_in 431 (by decide +kernel) (by decide +kernel)
theorem w_432 : (Jvm.Cond.selects "SealedTalks$Session" ({ cls := "SealedTalks$Session", name := "notePayload", desc := "(I)V" } : Jvm.MethodName) ({ cls := "SealedTalks$Session", name := "notePayload", desc := "(I)V" } : Jvm.MethodName)) ∈ z_WS := z_in 432 (by decide +kernel) (by decide +kernel)
theorem w_433 : (Jvm.Cond.code ({ cls := "SealedTalks$Session", name := "notePayload", desc := "(I)V" } : Jvm.MethodName) prog_5_method_4_code (2 : Nat) (Option.none : Option Jvm.ClassFile.FieldType)) ∈ z_WS := z_in 433 (by decide +kernel) (by decide +kernel)
theorem w_434 : (Jvm.Cond.methodLink "SealedTalksLaw" (31 : Nat) ({ cls := "SealedTalks", name := "splice", desc := "(IIII)I" } : Jvm.MethodName)) ∈ z_WS := z_in 434 (by decide +kernel) (by decide +kernel)
theorem w_435 : (Jvm.Cond.instanceMethod ({ cls := "SealedTalks", name := "splice", desc := "(IIII)I" } : Jvm.MethodName)) ∈ z_WS := z_in 435 (by decide +kernel) (by decide +kernel)
theorem w_436 : (Jvm.Cond.selects "SealedTalks" ({ cls := "SealedTalks", name := "splice", desc := "(IIII)I" } : Jvm.MethodName) ({ cls := "SealedTalks", name := "splice", desc := "(IIII)I" } : Jvm.MethodName)) ∈ z_WS := z_in 436 (by decide +kernel) (by decide +kernel)
theorem w_437 : (Jvm.Cond.code ({ cls := "SealedTalks", name := "splice", desc := "(IIII)I" } : Jvm.MethodName) prog_1_method_6_code (6 : Nat) (Option.some Jvm.ClassFile.FieldType.int)) ∈ z_WS := z_in 437 (by decide +kernel) (by decide +kernel)
theorem w_438 : (Jvm.Cond.methodLink "SealedTalks" (103 : Nat) ({ cls := "SealedTalks$Messages", name := "partAt", desc := "(II)I" } : Jvm.MethodName)) ∈ z_WS := z_in 438 (by decide +kernel) (by decide +kernel)
theorem w_439 : (Jvm.Cond.methodLink "SealedTalks" (107 : Nat) ({ cls := "SealedTalks", name := "makeChanged", desc := "(III)I" } : Jvm.MethodName)) ∈ z_WS := z_in 439 (by decide +kernel) (by decide +kernel)
theorem w_441 : (Jvm.Cond.instanceMethod ({ cls := "SealedTalks", name := "makeChanged", desc := "(III)I" } : Jvm.MethodName)) ∈ z_WS := z_in 441 (by decide +kernel) (by decide +kernel)
theorem w_442 : (Jvm.Cond.code ({ cls := "SealedTalks", name := "makeChanged", desc := "(III)I" } : Jvm.MethodName) prog_1_method_23_code (5 : Nat) (Option.some Jvm.ClassFile.FieldType.int)) ∈ z_WS := z_in 442 (by decide +kernel) (by decide +kernel)
theorem w_443 : (Jvm.Cond.methodLink "SealedTalks" (141 : Nat) ({ cls := "SealedTalks$Messages", name := "sizeOf", desc := "(I)I" } : Jvm.MethodName)) ∈ z_WS := z_in 443 (by decide +kernel) (by decide +kernel)
theorem w_444 : (Jvm.Cond.methodLink "SealedTalks" (159 : Nat) ({ cls := "SealedTalks$Messages", name := "addPart", desc := "(I)V" } : Jvm.MethodName)) ∈ z_WS := z_in 444 (by decide +kernel) (by decide +kernel)
theorem w_445 : (Jvm.Cond.methodLink "SealedTalksLaw" (36 : Nat) ({ cls := "SealedTalks", name := "replace", desc := "(III)I" } : Jvm.MethodName)) ∈ z_WS := z_in 445 (by decide +kernel) (by decide +kernel)
theorem w_446 : (Jvm.Cond.instanceMethod ({ cls := "SealedTalks", name := "replace", desc := "(III)I" } : Jvm.MethodName)) ∈ z_WS := z_in 446 (by decide +kernel) (by decide +kernel)
theorem w_447 : (Jvm.Cond.selects "SealedTalks" ({ cls := "SealedTalks", name := "replace", desc := "(III)I" } : Jvm.MethodName) ({ cls := "SealedTalks", name := "replace", desc := "(III)I" } : Jvm.MethodName)) ∈ z_WS := z_in 447 (by decide +kernel) (by decide +kernel)
theorem w_448 : (Jvm.Cond.code ({ cls := "SealedTalks", name := "replace", desc := "(III)I" } : Jvm.MethodName) prog_1_method_7_code (4 : Nat) (Option.some Jvm.ClassFile.FieldType.int)) ∈ z_WS := z_in 448 (by decide +kernel) (by decide +kernel)
theorem w_449 : (Jvm.Cond.methodLink "SealedTalks" (111 : Nat) ({ cls := "SealedTalks$Terms", name := "num", desc := "(I)I" } : Jvm.MethodName)) ∈ z_WS := z_in 449 (by decide +kernel) (by decide +kernel)
theorem w_450 : (Jvm.Cond.methodLink "SealedTalksLaw" (41 : Nat) ({ cls := "SealedTalks", name := "give", desc := "(I)Z" } : Jvm.MethodName)) ∈ z_WS := z_in 450 (by decide +kernel) (by decide +kernel)
theorem w_451 : (Jvm.Cond.instanceMethod ({ cls := "SealedTalks", name := "give", desc := "(I)Z" } : Jvm.MethodName)) ∈ z_WS := z_in 451 (by decide +kernel) (by decide +kernel)
theorem w_452 : (Jvm.Cond.selects "SealedTalks" ({ cls := "SealedTalks", name := "give", desc := "(I)Z" } : Jvm.MethodName) ({ cls := "SealedTalks", name := "give", desc := "(I)Z" } : Jvm.MethodName)) ∈ z_WS := z_in 452 (by decide +kernel) (by decide +kernel)
theorem w_453 : (Jvm.Cond.code ({ cls := "SealedTalks", name := "give", desc := "(I)Z" } : Jvm.MethodName) prog_1_method_8_code (2 : Nat) (Option.some Jvm.ClassFile.FieldType.boolean)) ∈ z_WS := z_in 453 (by decide +kernel) (by decide +kernel)
theorem w_454 : (Jvm.Cond.methodLink "SealedTalks" (114 : Nat) ({ cls := "SealedTalks$Terms", name := "giveAway", desc := "(I)Z" } : Jvm.MethodName)) ∈ z_WS := z_in 454 (by decide +kernel) (by decide +kernel)
theorem w_455 : (Jvm.Cond.instanceMethod ({ cls := "SealedTalks$Terms", name := "giveAway", desc := "(I)Z" } : Jvm.MethodName)) ∈ z_WS := z_in 455 (by decide +kernel) (by decide +kernel)
theorem w_456 : (Jvm.Cond.selects "SealedTalks$Terms" ({ cls := "SealedTalks$Terms", name := "giveAway", desc := "(I)Z" } : Jvm.MethodName) ({ cls := "SealedTalks$Terms", name := "giveAway", desc := "(I)Z" } : Jvm.MethodName)) ∈ z_WS := z_in 456 (by decide +kernel) (by decide +kernel)
theorem w_457 : (Jvm.Cond.code ({ cls := "SealedTalks$Terms", name := "giveAway", desc := "(I)Z" } : Jvm.MethodName) prog_6_method_19_code (3 : Nat) (Option.some Jvm.ClassFile.FieldType.boolean)) ∈ z_WS := z_in 457 (by decide +kernel) (by decide +kernel)
theorem w_458 : (Jvm.Cond.methodLink "SealedTalksLaw" (46 : Nat) ({ cls := "SealedTalks", name := "tick", desc := "()I" } : Jvm.MethodName)) ∈ z_WS := z_in 458 (by decide +kernel) (by decide +kernel)
theorem w_459 : (Jvm.Cond.instanceMethod ({ cls := "SealedTalks", name := "tick", desc := "()I" } : Jvm.MethodName)) ∈ z_WS := z_in 459 (by decide +kernel) (by decide +kernel)
theorem w_460 : (Jvm.Cond.selects "SealedTalks" ({ cls := "SealedTalks", name := "tick", desc := "()I" } : Jvm.MethodName) ({ cls := "SealedTalks", name := "tick", desc := "()I" } : Jvm.MethodName)) ∈ z_WS := z_in 460 (by decide +kernel) (by decide +kernel)
theorem w_461 : (Jvm.Cond.code ({ cls := "SealedTalks", name := "tick", desc := "()I" } : Jvm.MethodName) prog_1_method_9_code (4 : Nat) (Option.some Jvm.ClassFile.FieldType.int)) ∈ z_WS := z_in 461 (by decide +kernel) (by decide +kernel)
theorem w_462 : (Jvm.Cond.methodLink "SealedTalks" (117 : Nat) ({ cls := "SealedTalks$Session", name := "passTick", desc := "()Z" } : Jvm.MethodName)) ∈ z_WS := z_in 462 (by decide +kernel) (by decide +kernel)
theorem w_463 : (Jvm.Cond.instanceMethod ({ cls := "SealedTalks$Session", name := "passTick", desc := "()Z" } : Jvm.MethodName)) ∈ z_WS := z_in 463 (by decide +kernel) (by decide +kernel)
theorem w_464 : (Jvm.Cond.selects "SealedTalks$Session" ({ cls := "SealedTalks$Session", name := "passTick", desc := "()Z" } : Jvm.MethodName) ({ cls := "SealedTalks$Session", name := "passTick", desc := "()Z" } : Jvm.MethodName)) ∈ z_WS := z_in 464 (by decide +kernel) (by decide +kernel)
theorem w_465 : (Jvm.Cond.code ({ cls := "SealedTalks$Session", name := "passTick", desc := "()Z" } : Jvm.MethodName) prog_5_method_5_code (1 : Nat) (Option.some Jvm.ClassFile.FieldType.boolean)) ∈ z_WS := z_in 465 (by decide +kernel) (by decide +kernel)
theorem w_466 : (Jvm.Cond.methodLink "SealedTalksLaw" (51 : Nat) ({ cls := "SealedTalks", name := "state", desc := "(I)I" } : Jvm.MethodName)) ∈ z_WS := z_in 466 (by decide +kernel) (by decide +kernel)
theorem w_467 : (Jvm.Cond.instanceMethod ({ cls := "SealedTalks", name := "state", desc := "(I)I" } : Jvm.MethodName)) ∈ z_WS := z_in 467 (by decide +kernel) (by decide +kernel)
theorem w_468 : (Jvm.Cond.selects "SealedTalks" ({ cls := "SealedTalks", name := "state", desc := "(I)I" } : Jvm.MethodName) ({ cls := "SealedTalks", name := "state", desc := "(I)I" } : Jvm.MethodName)) ∈ z_WS := z_in 468 (by decide +kernel) (by decide +kernel)
theorem w_469 : (Jvm.Cond.code ({ cls := "SealedTalks", name := "state", desc := "(I)I" } : Jvm.MethodName) prog_1_method_10_code (3 : Nat) (Option.some Jvm.ClassFile.FieldType.int)) ∈ z_WS := z_in 469 (by decide +kernel) (by decide +kernel)
theorem w_470 : (Jvm.Cond.methodLink "SealedTalksLaw" (56 : Nat) ({ cls := "SealedTalks", name := "steps", desc := "(I)I" } : Jvm.MethodName)) ∈ z_WS := z_in 470 (by decide +kernel) (by decide +kernel)
theorem w_471 : (Jvm.Cond.instanceMethod ({ cls := "SealedTalks", name := "steps", desc := "(I)I" } : Jvm.MethodName)) ∈ z_WS := z_in 471 (by decide +kernel) (by decide +kernel)
theorem w_472 : (Jvm.Cond.selects "SealedTalks" ({ cls := "SealedTalks", name := "steps", desc := "(I)I" } : Jvm.MethodName) ({ cls := "SealedTalks", name := "steps", desc := "(I)I" } : Jvm.MethodName)) ∈ z_WS := z_in 472 (by decide +kernel) (by decide +kernel)
theorem w_473 : (Jvm.Cond.code ({ cls := "SealedTalks", name := "steps", desc := "(I)I" } : Jvm.MethodName) prog_1_method_11_code (3 : Nat) (Option.some Jvm.ClassFile.FieldType.int)) ∈ z_WS := z_in 473 (by decide +kernel) (by decide +kernel)
theorem w_474 : (Jvm.Cond.methodLink "SealedTalksLaw" (60 : Nat) ({ cls := "SealedTalks", name := "peer", desc := "(I)I" } : Jvm.MethodName)) ∈ z_WS := z_in 474 (by decide +kernel) (by decide +kernel)
theorem w_475 : (Jvm.Cond.instanceMethod ({ cls := "SealedTalks", name := "peer", desc := "(I)I" } : Jvm.MethodName)) ∈ z_WS := z_in 475 (by decide +kernel) (by decide +kernel)
theorem w_476 : (Jvm.Cond.selects "SealedTalks" ({ cls := "SealedTalks", name := "peer", desc := "(I)I" } : Jvm.MethodName) ({ cls := "SealedTalks", name := "peer", desc := "(I)I" } : Jvm.MethodName)) ∈ z_WS := z_in 476 (by decide +kernel) (by decide +kernel)
theorem w_477 : (Jvm.Cond.code ({ cls := "SealedTalks", name := "peer", desc := "(I)I" } : Jvm.MethodName) prog_1_method_12_code (3 : Nat) (Option.some Jvm.ClassFile.FieldType.int)) ∈ z_WS := z_in 477 (by decide +kernel) (by decide +kernel)
theorem w_478 : (Jvm.Cond.methodLink "SealedTalksLaw" (64 : Nat) ({ cls := "SealedTalks", name := "payload", desc := "(I)I" } : Jvm.MethodName)) ∈ z_WS := z_in 478 (by decide +kernel) (by decide +kernel)
theorem w_479 : (Jvm.Cond.instanceMethod ({ cls := "SealedTalks", name := "payload", desc := "(I)I" } : Jvm.MethodName)) ∈ z_WS := z_in 479 (by decide +kernel) (by decide +kernel)
theorem w_480 : (Jvm.Cond.selects "SealedTalks" ({ cls := "SealedTalks", name := "payload", desc := "(I)I" } : Jvm.MethodName) ({ cls := "SealedTalks", name := "payload", desc := "(I)I" } : Jvm.MethodName)) ∈ z_WS := z_in 480 (by decide +kernel) (by decide +kernel)
theorem w_481 : (Jvm.Cond.code ({ cls := "SealedTalks", name := "payload", desc := "(I)I" } : Jvm.MethodName) prog_1_method_13_code (3 : Nat) (Option.some Jvm.ClassFile.FieldType.int)) ∈ z_WS := z_in 481 (by decide +kernel) (by decide +kernel)
theorem w_482 : (Jvm.Cond.methodLink "SealedTalksLaw" (68 : Nat) ({ cls := "SealedTalks", name := "accepted", desc := "(I)I" } : Jvm.MethodName)) ∈ z_WS := z_in 482 (by decide +kernel) (by decide +kernel)
theorem w_483 : (Jvm.Cond.instanceMethod ({ cls := "SealedTalks", name := "accepted", desc := "(I)I" } : Jvm.MethodName)) ∈ z_WS := z_in 483 (by decide +kernel) (by decide +kernel)
theorem w_484 : (Jvm.Cond.selects "SealedTalks" ({ cls := "SealedTalks", name := "accepted", desc := "(I)I" } : Jvm.MethodName) ({ cls := "SealedTalks", name := "accepted", desc := "(I)I" } : Jvm.MethodName)) ∈ z_WS := z_in 484 (by decide +kernel) (by decide +kernel)
theorem w_485 : (Jvm.Cond.code ({ cls := "SealedTalks", name := "accepted", desc := "(I)I" } : Jvm.MethodName) prog_1_method_14_code (3 : Nat) (Option.some Jvm.ClassFile.FieldType.int)) ∈ z_WS := z_in 485 (by decide +kernel) (by decide +kernel)
theorem w_486 : (Jvm.Cond.methodLink "SealedTalksLaw" (72 : Nat) ({ cls := "SealedTalks", name := "match", desc := "(II)Z" } : Jvm.MethodName)) ∈ z_WS := z_in 486 (by decide +kernel) (by decide +kernel)
theorem w_487 : (Jvm.Cond.instanceMethod ({ cls := "SealedTalks", name := "match", desc := "(II)Z" } : Jvm.MethodName)) ∈ z_WS := z_in 487 (by decide +kernel) (by decide +kernel)
theorem w_488 : (Jvm.Cond.selects "SealedTalks" ({ cls := "SealedTalks", name := "match", desc := "(II)Z" } : Jvm.MethodName) ({ cls := "SealedTalks", name := "match", desc := "(II)Z" } : Jvm.MethodName)) ∈ z_WS := z_in 488 (by decide +kernel) (by decide +kernel)
theorem w_489 : (Jvm.Cond.code ({ cls := "SealedTalks", name := "match", desc := "(II)Z" } : Jvm.MethodName) prog_1_method_15_code (5 : Nat) (Option.some Jvm.ClassFile.FieldType.boolean)) ∈ z_WS := z_in 489 (by decide +kernel) (by decide +kernel)
theorem w_490 : (Jvm.Cond.methodLink "SealedTalksLaw" (77 : Nat) ({ cls := "SealedTalks", name := "open", desc := "(I)Z" } : Jvm.MethodName)) ∈ z_WS := z_in 490 (by decide +kernel) (by decide +kernel)
theorem w_491 : (Jvm.Cond.instanceMethod ({ cls := "SealedTalks", name := "open", desc := "(I)Z" } : Jvm.MethodName)) ∈ z_WS := z_in 491 (by decide +kernel) (by decide +kernel)
theorem w_492 : (Jvm.Cond.selects "SealedTalks" ({ cls := "SealedTalks", name := "open", desc := "(I)Z" } : Jvm.MethodName) ({ cls := "SealedTalks", name := "open", desc := "(I)Z" } : Jvm.MethodName)) ∈ z_WS := z_in 492 (by decide +kernel) (by decide +kernel)
theorem w_493 : (Jvm.Cond.code ({ cls := "SealedTalks", name := "open", desc := "(I)Z" } : Jvm.MethodName) prog_1_method_16_code (3 : Nat) (Option.some Jvm.ClassFile.FieldType.boolean)) ∈ z_WS := z_in 493 (by decide +kernel) (by decide +kernel)
theorem w_494 : (Jvm.Cond.methodLink "SealedTalks" (138 : Nat) ({ cls := "SealedTalks$Terms", name := "canWorkOut", desc := "(I)Z" } : Jvm.MethodName)) ∈ z_WS := z_in 494 (by decide +kernel) (by decide +kernel)
theorem w_495 : (Jvm.Cond.instanceMethod ({ cls := "SealedTalks$Terms", name := "canWorkOut", desc := "(I)Z" } : Jvm.MethodName)) ∈ z_WS := z_in 495 (by decide +kernel) (by decide +kernel)
theorem w_496 : (Jvm.Cond.selects "SealedTalks$Terms" ({ cls := "SealedTalks$Terms", name := "canWorkOut", desc := "(I)Z" } : Jvm.MethodName) ({ cls := "SealedTalks$Terms", name := "canWorkOut", desc := "(I)Z" } : Jvm.MethodName)) ∈ z_WS := z_in 496 (by decide +kernel) (by decide +kernel)
theorem w_497 : (Jvm.Cond.code ({ cls := "SealedTalks$Terms", name := "canWorkOut", desc := "(I)Z" } : Jvm.MethodName) prog_6_method_16_code (2 : Nat) (Option.some Jvm.ClassFile.FieldType.boolean)) ∈ z_WS := z_in 497 (by decide +kernel) (by decide +kernel)
theorem w_498 : (Jvm.Cond.methodLink "SealedTalksLaw" (81 : Nat) ({ cls := "SealedTalks", name := "parts", desc := "(I)I" } : Jvm.MethodName)) ∈ z_WS := z_in 498 (by decide +kernel) (by decide +kernel)
theorem w_499 : (Jvm.Cond.instanceMethod ({ cls := "SealedTalks", name := "parts", desc := "(I)I" } : Jvm.MethodName)) ∈ z_WS := z_in 499 (by decide +kernel) (by decide +kernel)
theorem w_500 : (Jvm.Cond.selects "SealedTalks" ({ cls := "SealedTalks", name := "parts", desc := "(I)I" } : Jvm.MethodName) ({ cls := "SealedTalks", name := "parts", desc := "(I)I" } : Jvm.MethodName)) ∈ z_WS := z_in 500 (by decide +kernel) (by decide +kernel)
theorem w_501 : (Jvm.Cond.code ({ cls := "SealedTalks", name := "parts", desc := "(I)I" } : Jvm.MethodName) prog_1_method_17_code (2 : Nat) (Option.some Jvm.ClassFile.FieldType.int)) ∈ z_WS := z_in 501 (by decide +kernel) (by decide +kernel)
theorem w_502 : (Jvm.Cond.methodLink "SealedTalksLaw" (85 : Nat) ({ cls := "SealedTalks", name := "sees", desc := "(II)I" } : Jvm.MethodName)) ∈ z_WS := z_in 502 (by decide +kernel) (by decide +kernel)
theorem w_503 : (Jvm.Cond.instanceMethod ({ cls := "SealedTalks", name := "sees", desc := "(II)I" } : Jvm.MethodName)) ∈ z_WS := z_in 503 (by decide +kernel) (by decide +kernel)
theorem w_504 : (Jvm.Cond.selects "SealedTalks" ({ cls := "SealedTalks", name := "sees", desc := "(II)I" } : Jvm.MethodName) ({ cls := "SealedTalks", name := "sees", desc := "(II)I" } : Jvm.MethodName)) ∈ z_WS := z_in 504 (by decide +kernel) (by decide +kernel)
theorem w_505 : (Jvm.Cond.code ({ cls := "SealedTalks", name := "sees", desc := "(II)I" } : Jvm.MethodName) prog_1_method_18_code (4 : Nat) (Option.some Jvm.ClassFile.FieldType.int)) ∈ z_WS := z_in 505 (by decide +kernel) (by decide +kernel)
theorem w_506 : (Jvm.Cond.methodLink "SealedTalks" (144 : Nat) ({ cls := "SealedTalks$Terms", name := "isNum", desc := "(I)Z" } : Jvm.MethodName)) ∈ z_WS := z_in 506 (by decide +kernel) (by decide +kernel)
theorem w_507 : (Jvm.Cond.methodLink "SealedTalks" (147 : Nat) ({ cls := "SealedTalks$Terms", name := "isPub", desc := "(I)Z" } : Jvm.MethodName)) ∈ z_WS := z_in 507 (by decide +kernel) (by decide +kernel)
theorem w_508 : (Jvm.Cond.methodLink "SealedTalks" (150 : Nat) ({ cls := "SealedTalks$Terms", name := "isSeal", desc := "(I)Z" } : Jvm.MethodName)) ∈ z_WS := z_in 508 (by decide +kernel) (by decide +kernel)
theorem w_509 : (Jvm.Cond.methodLink "SealedTalks" (153 : Nat) ({ cls := "SealedTalks$Terms", name := "canOpen", desc := "(I)Z" } : Jvm.MethodName)) ∈ z_WS := z_in 509 (by decide +kernel) (by decide +kernel)
theorem w_510 : (Jvm.Cond.instanceMethod ({ cls := "SealedTalks$Terms", name := "canOpen", desc := "(I)Z" } : Jvm.MethodName)) ∈ z_WS := z_in 510 (by decide +kernel) (by decide +kernel)
theorem w_511 : (Jvm.Cond.selects "SealedTalks$Terms" ({ cls := "SealedTalks$Terms", name := "canOpen", desc := "(I)Z" } : Jvm.MethodName) ({ cls := "SealedTalks$Terms", name := "canOpen", desc := "(I)Z" } : Jvm.MethodName)) ∈ z_WS := z_in 511 (by decide +kernel) (by decide +kernel)
theorem w_512 : (Jvm.Cond.code ({ cls := "SealedTalks$Terms", name := "canOpen", desc := "(I)Z" } : Jvm.MethodName) prog_6_method_17_code (2 : Nat) (Option.some Jvm.ClassFile.FieldType.boolean)) ∈ z_WS := z_in 512 (by decide +kernel) (by decide +kernel)
theorem w_513 : (Jvm.Cond.methodLink "SealedTalksLaw" (89 : Nat) ({ cls := "SealedTalks", name := "shown", desc := "(II)I" } : Jvm.MethodName)) ∈ z_WS := z_in 513 (by decide +kernel) (by decide +kernel)
theorem w_514 : (Jvm.Cond.instanceMethod ({ cls := "SealedTalks", name := "shown", desc := "(II)I" } : Jvm.MethodName)) ∈ z_WS := z_in 514 (by decide +kernel) (by decide +kernel)
theorem w_515 : (Jvm.Cond.selects "SealedTalks" ({ cls := "SealedTalks", name := "shown", desc := "(II)I" } : Jvm.MethodName) ({ cls := "SealedTalks", name := "shown", desc := "(II)I" } : Jvm.MethodName)) ∈ z_WS := z_in 515 (by decide +kernel) (by decide +kernel)
theorem w_516 : (Jvm.Cond.code ({ cls := "SealedTalks", name := "shown", desc := "(II)I" } : Jvm.MethodName) prog_1_method_19_code (5 : Nat) (Option.some Jvm.ClassFile.FieldType.int)) ∈ z_WS := z_in 516 (by decide +kernel) (by decide +kernel)
theorem w_517 : (Jvm.Cond.methodLink "SealedTalks" (156 : Nat) ({ cls := "SealedTalks$Terms", name := "insideOf", desc := "(I)I" } : Jvm.MethodName)) ∈ z_WS := z_in 517 (by decide +kernel) (by decide +kernel)
theorem w_518 : (Jvm.Cond.methodLink "SealedTalksLaw" (93 : Nat) ({ cls := "SealedTalks", name := "same", desc := "(IIII)Z" } : Jvm.MethodName)) ∈ z_WS := z_in 518 (by decide +kernel) (by decide +kernel)
theorem w_519 : (Jvm.Cond.instanceMethod ({ cls := "SealedTalks", name := "same", desc := "(IIII)Z" } : Jvm.MethodName)) ∈ z_WS := z_in 519 (by decide +kernel) (by decide +kernel)
theorem w_520 : (Jvm.Cond.selects "SealedTalks" ({ cls := "SealedTalks", name := "same", desc := "(IIII)Z" } : Jvm.MethodName) ({ cls := "SealedTalks", name := "same", desc := "(IIII)Z" } : Jvm.MethodName)) ∈ z_WS := z_in 520 (by decide +kernel) (by decide +kernel)
theorem w_521 : (Jvm.Cond.code ({ cls := "SealedTalks", name := "same", desc := "(IIII)Z" } : Jvm.MethodName) prog_1_method_20_code (6 : Nat) (Option.some Jvm.ClassFile.FieldType.boolean)) ∈ z_WS := z_in 521 (by decide +kernel) (by decide +kernel)
theorem w_522 : (Jvm.Cond.classLink "SealedTalksLaw" (10 : Nat) "SealedTalksModel") ∈ z_WS := z_in 522 (by decide +kernel) (by decide +kernel)
theorem w_523 : (Jvm.Cond.instantiable "SealedTalksModel" (43 : Nat)) ∈ z_WS := z_in 523 (by decide +kernel) (by decide +kernel)
theorem w_524 : (Jvm.Cond.methodLink "SealedTalksLaw" (12 : Nat) ({ cls := "SealedTalksModel", name := "<init>", desc := "()V" } : Jvm.MethodName)) ∈ z_WS := z_in 524 (by decide +kernel) (by decide +kernel)
theorem w_525 : (Jvm.Cond.instanceMethod ({ cls := "SealedTalksModel", name := "<init>", desc := "()V" } : Jvm.MethodName)) ∈ z_WS := z_in 525 (by decide +kernel) (by decide +kernel)
theorem w_526 : (Jvm.Cond.code ({ cls := "SealedTalksModel", name := "<init>", desc := "()V" } : Jvm.MethodName) prog_8_method_1_code (1 : Nat) (Option.none : Option Jvm.ClassFile.FieldType)) ∈ z_WS := z_in 526 (by decide +kernel) (by decide +kernel)
theorem w_527 : (Jvm.Cond.methodLink "SealedTalksModel" (1 : Nat) ({ cls := "java/lang/Object", name := "<init>", desc := "()V" } : Jvm.MethodName)) ∈ z_WS := z_in 527 (by decide +kernel) (by decide +kernel)
theorem w_528 : (Jvm.Cond.fieldLink "SealedTalksModel" (97 : Nat) "SealedTalksModel" "terms" "I") ∈ z_WS := z_in 528 (by decide +kernel) (by decide +kernel)
theorem w_529 : (Jvm.Cond.fieldLink "SealedTalksModel" (7 : Nat) "SealedTalksModel" "kind" "[B") ∈ z_WS := z_in 529 (by decide +kernel) (by decide +kernel)
theorem w_530 : (Jvm.Cond.fieldLink "SealedTalksModel" (13 : Nat) "SealedTalksModel" "value" "[I") ∈ z_WS := z_in 530 (by decide +kernel) (by decide +kernel)
theorem w_531 : (Jvm.Cond.fieldLink "SealedTalksModel" (17 : Nat) "SealedTalksModel" "first" "[S") ∈ z_WS := z_in 531 (by decide +kernel) (by decide +kernel)
theorem w_532 : (Jvm.Cond.fieldLink "SealedTalksModel" (21 : Nat) "SealedTalksModel" "second" "[S") ∈ z_WS := z_in 532 (by decide +kernel) (by decide +kernel)
theorem w_533 : (Jvm.Cond.fieldLink "SealedTalksModel" (24 : Nat) "SealedTalksModel" "inside" "[S") ∈ z_WS := z_in 533 (by decide +kernel) (by decide +kernel)
theorem w_534 : (Jvm.Cond.fieldLink "SealedTalksModel" (27 : Nat) "SealedTalksModel" "known" "[Z") ∈ z_WS := z_in 534 (by decide +kernel) (by decide +kernel)
theorem w_535 : (Jvm.Cond.fieldLink "SealedTalksModel" (171 : Nat) "SealedTalksModel" "messages" "I") ∈ z_WS := z_in 535 (by decide +kernel) (by decide +kernel)
theorem w_536 : (Jvm.Cond.fieldLink "SealedTalksModel" (31 : Nat) "SealedTalksModel" "sizes" "[I") ∈ z_WS := z_in 536 (by decide +kernel) (by decide +kernel)
theorem w_537 : (Jvm.Cond.fieldLink "SealedTalksModel" (34 : Nat) "SealedTalksModel" "partOf" "[I") ∈ z_WS := z_in 537 (by decide +kernel) (by decide +kernel)
theorem w_538 : (Jvm.Cond.fieldLink "SealedTalksModel" (190 : Nat) "SealedTalksModel" "made" "I") ∈ z_WS := z_in 538 (by decide +kernel) (by decide +kernel)
theorem w_539 : (Jvm.Cond.fieldLink "SealedTalksModel" (37 : Nat) "SealedTalksModel" "given" "[Z") ∈ z_WS := z_in 539 (by decide +kernel) (by decide +kernel)
theorem w_540 : (Jvm.Cond.fieldLink "SealedTalksModel" (162 : Nat) "SealedTalksModel" "sessions" "I") ∈ z_WS := z_in 540 (by decide +kernel) (by decide +kernel)
theorem w_541 : (Jvm.Cond.fieldLink "SealedTalksModel" (40 : Nat) "SealedTalksModel" "pattern" "[I") ∈ z_WS := z_in 541 (by decide +kernel) (by decide +kernel)
theorem w_542 : (Jvm.Cond.fieldLink "SealedTalksModel" (43 : Nat) "SealedTalksModel" "starts" "[Z") ∈ z_WS := z_in 542 (by decide +kernel) (by decide +kernel)
theorem w_543 : (Jvm.Cond.fieldLink "SealedTalksModel" (46 : Nat) "SealedTalksModel" "own" "[I") ∈ z_WS := z_in 543 (by decide +kernel) (by decide +kernel)
theorem w_544 : (Jvm.Cond.fieldLink "SealedTalksModel" (49 : Nat) "SealedTalksModel" "ephemeral" "[I") ∈ z_WS := z_in 544 (by decide +kernel) (by decide +kernel)
theorem w_545 : (Jvm.Cond.fieldLink "SealedTalksModel" (52 : Nat) "SealedTalksModel" "otherEphemeral" "[I") ∈ z_WS := z_in 545 (by decide +kernel) (by decide +kernel)
theorem w_546 : (Jvm.Cond.fieldLink "SealedTalksModel" (55 : Nat) "SealedTalksModel" "otherStatic" "[I") ∈ z_WS := z_in 546 (by decide +kernel) (by decide +kernel)
theorem w_547 : (Jvm.Cond.fieldLink "SealedTalksModel" (58 : Nat) "SealedTalksModel" "hash" "[I") ∈ z_WS := z_in 547 (by decide +kernel) (by decide +kernel)
theorem w_548 : (Jvm.Cond.fieldLink "SealedTalksModel" (61 : Nat) "SealedTalksModel" "chain" "[I") ∈ z_WS := z_in 548 (by decide +kernel) (by decide +kernel)
theorem w_549 : (Jvm.Cond.fieldLink "SealedTalksModel" (64 : Nat) "SealedTalksModel" "key" "[I") ∈ z_WS := z_in 549 (by decide +kernel) (by decide +kernel)
theorem w_550 : (Jvm.Cond.fieldLink "SealedTalksModel" (67 : Nat) "SealedTalksModel" "counter" "[I") ∈ z_WS := z_in 550 (by decide +kernel) (by decide +kernel)
theorem w_551 : (Jvm.Cond.fieldLink "SealedTalksModel" (70 : Nat) "SealedTalksModel" "done" "[I") ∈ z_WS := z_in 551 (by decide +kernel) (by decide +kernel)
theorem w_552 : (Jvm.Cond.fieldLink "SealedTalksModel" (73 : Nat) "SealedTalksModel" "closed" "[Z") ∈ z_WS := z_in 552 (by decide +kernel) (by decide +kernel)
theorem w_553 : (Jvm.Cond.fieldLink "SealedTalksModel" (76 : Nat) "SealedTalksModel" "age" "[I") ∈ z_WS := z_in 553 (by decide +kernel) (by decide +kernel)
theorem w_554 : (Jvm.Cond.fieldLink "SealedTalksModel" (79 : Nat) "SealedTalksModel" "latest" "[I") ∈ z_WS := z_in 554 (by decide +kernel) (by decide +kernel)
theorem w_555 : (Jvm.Cond.fieldLink "SealedTalksModel" (82 : Nat) "SealedTalksModel" "read" "[I") ∈ z_WS := z_in 555 (by decide +kernel) (by decide +kernel)
theorem w_556 : (Jvm.Cond.fieldLink "SealedTalksModel" (85 : Nat) "SealedTalksModel" "sent" "[I") ∈ z_WS := z_in 556 (by decide +kernel) (by decide +kernel)
theorem w_557 : (Jvm.Cond.fieldLink "SealedTalksModel" (88 : Nat) "SealedTalksModel" "top" "[I") ∈ z_WS := z_in 557 (by decide +kernel) (by decide +kernel)
theorem w_558 : (Jvm.Cond.fieldLink "SealedTalksModel" (91 : Nat) "SealedTalksModel" "window" "[I") ∈ z_WS := z_in 558 (by decide +kernel) (by decide +kernel)
theorem w_559 : (Jvm.Cond.fieldLink "SealedTalksModel" (105 : Nat) "SealedTalksModel" "role" "I") ∈ z_WS := z_in 559 (by decide +kernel) (by decide +kernel)
theorem w_560 : (Jvm.Cond.fieldLink "SealedTalksModel" (108 : Nat) "SealedTalksModel" "h" "I") ∈ z_WS := z_in 560 (by decide +kernel) (by decide +kernel)
theorem w_561 : (Jvm.Cond.fieldLink "SealedTalksModel" (111 : Nat) "SealedTalksModel" "ck" "I") ∈ z_WS := z_in 561 (by decide +kernel) (by decide +kernel)
theorem w_562 : (Jvm.Cond.fieldLink "SealedTalksModel" (114 : Nat) "SealedTalksModel" "k" "I") ∈ z_WS := z_in 562 (by decide +kernel) (by decide +kernel)
theorem w_563 : (Jvm.Cond.fieldLink "SealedTalksModel" (117 : Nat) "SealedTalksModel" "n" "I") ∈ z_WS := z_in 563 (by decide +kernel) (by decide +kernel)
theorem w_564 : (Jvm.Cond.fieldLink "SealedTalksModel" (120 : Nat) "SealedTalksModel" "e" "I") ∈ z_WS := z_in 564 (by decide +kernel) (by decide +kernel)
theorem w_565 : (Jvm.Cond.fieldLink "SealedTalksModel" (123 : Nat) "SealedTalksModel" "re" "I") ∈ z_WS := z_in 565 (by decide +kernel) (by decide +kernel)
theorem w_566 : (Jvm.Cond.fieldLink "SealedTalksModel" (126 : Nat) "SealedTalksModel" "rs" "I") ∈ z_WS := z_in 566 (by decide +kernel) (by decide +kernel)
theorem w_567 : (Jvm.Cond.fieldLink "SealedTalksModel" (144 : Nat) "SealedTalksModel" "size" "I") ∈ z_WS := z_in 567 (by decide +kernel) (by decide +kernel)
theorem w_568 : (Jvm.Cond.fieldLink "SealedTalksModel" (94 : Nat) "SealedTalksModel" "parts" "[I") ∈ z_WS := z_in 568 (by decide +kernel) (by decide +kernel)
theorem w_569 : (Jvm.Cond.fieldLink "SealedTalksModel" (133 : Nat) "SealedTalksModel" "at" "I") ∈ z_WS := z_in 569 (by decide +kernel) (by decide +kernel)
theorem w_570 : (Jvm.Cond.fieldLink "SealedTalksModel" (129 : Nat) "SealedTalksModel" "failed" "Z") ∈ z_WS := z_in 570 (by decide +kernel) (by decide +kernel)
theorem w_658 : (Jvm.Cond.arrayClass Jvm.ClassFile.FieldType.byte) ∈ z_WS := z_in 658 (by decide +kernel) (by decide +kernel)
theorem w_659 : (Jvm.Cond.arrayClass Jvm.ClassFile.FieldType.short) ∈ z_WS := z_in 659 (by decide +kernel) (by decide +kernel)
theorem w_660 : (Jvm.Cond.methodLink "SealedTalksLaw" (17 : Nat) ({ cls := "SealedTalksModel", name := "start", desc := "(IZIII)I" } : Jvm.MethodName)) ∈ z_WS := z_in 660 (by decide +kernel) (by decide +kernel)
theorem w_661 : (Jvm.Cond.instanceMethod ({ cls := "SealedTalksModel", name := "start", desc := "(IZIII)I" } : Jvm.MethodName)) ∈ z_WS := z_in 661 (by decide +kernel) (by decide +kernel)
theorem w_662 : (Jvm.Cond.selects "SealedTalksModel" ({ cls := "SealedTalksModel", name := "start", desc := "(IZIII)I" } : Jvm.MethodName) ({ cls := "SealedTalksModel", name := "start", desc := "(IZIII)I" } : Jvm.MethodName)) ∈ z_WS := z_in 662 (by decide +kernel) (by decide +kernel)
theorem w_663 : (Jvm.Cond.code ({ cls := "SealedTalksModel", name := "start", desc := "(IZIII)I" } : Jvm.MethodName) prog_8_method_18_code (9 : Nat) (Option.some Jvm.ClassFile.FieldType.int)) ∈ z_WS := z_in 663 (by decide +kernel) (by decide +kernel)
theorem w_664 : (Jvm.Cond.methodLink "SealedTalksModel" (158 : Nat) ({ cls := "SealedTalksModel", name := "within", desc := "(III)Z" } : Jvm.MethodName)) ∈ z_WS := z_in 664 (by decide +kernel) (by decide +kernel)
theorem w_665 : (Jvm.Cond.static ({ cls := "SealedTalksModel", name := "within", desc := "(III)Z" } : Jvm.MethodName)) ∈ z_WS := z_in 665 (by decide +kernel) (by decide +kernel)
theorem w_666 : (Jvm.Cond.code ({ cls := "SealedTalksModel", name := "within", desc := "(III)Z" } : Jvm.MethodName) prog_8_method_2_code (3 : Nat) (Option.some Jvm.ClassFile.FieldType.boolean)) ∈ z_WS := z_in 666 (by decide +kernel) (by decide +kernel)
theorem w_667 : (Jvm.Cond.methodLink "SealedTalksModel" (165 : Nat) ({ cls := "SealedTalksModel", name := "num", desc := "(I)I" } : Jvm.MethodName)) ∈ z_WS := z_in 667 (by decide +kernel) (by decide +kernel)
theorem w_669 : (Jvm.Cond.instanceMethod ({ cls := "SealedTalksModel", name := "num", desc := "(I)I" } : Jvm.MethodName)) ∈ z_WS := z_in 669 (by decide +kernel) (by decide +kernel)
theorem w_670 : (Jvm.Cond.code ({ cls := "SealedTalksModel", name := "num", desc := "(I)I" } : Jvm.MethodName) prog_8_method_4_code (2 : Nat) (Option.some Jvm.ClassFile.FieldType.int)) ∈ z_WS := z_in 670 (by decide +kernel) (by decide +kernel)
theorem w_671 : (Jvm.Cond.methodLink "SealedTalksModel" (101 : Nat) ({ cls := "SealedTalksModel", name := "term", desc := "(IIIII)I" } : Jvm.MethodName)) ∈ z_WS := z_in 671 (by decide +kernel) (by decide +kernel)
theorem w_673 : (Jvm.Cond.instanceMethod ({ cls := "SealedTalksModel", name := "term", desc := "(IIIII)I" } : Jvm.MethodName)) ∈ z_WS := z_in 673 (by decide +kernel) (by decide +kernel)
theorem w_674 : (Jvm.Cond.code ({ cls := "SealedTalksModel", name := "term", desc := "(IIIII)I" } : Jvm.MethodName) prog_8_method_3_code (7 : Nat) (Option.some Jvm.ClassFile.FieldType.int)) ∈ z_WS := z_in 674 (by decide +kernel) (by decide +kernel)
theorem w_675 : (Jvm.Cond.methodLink "SealedTalksModel" (140 : Nat) ({ cls := "SealedTalksModel", name := "two", desc := "(III)I" } : Jvm.MethodName)) ∈ z_WS := z_in 675 (by decide +kernel) (by decide +kernel)
theorem w_677 : (Jvm.Cond.instanceMethod ({ cls := "SealedTalksModel", name := "two", desc := "(III)I" } : Jvm.MethodName)) ∈ z_WS := z_in 677 (by decide +kernel) (by decide +kernel)
theorem w_678 : (Jvm.Cond.code ({ cls := "SealedTalksModel", name := "two", desc := "(III)I" } : Jvm.MethodName) prog_8_method_6_code (4 : Nat) (Option.some Jvm.ClassFile.FieldType.int)) ∈ z_WS := z_in 678 (by decide +kernel) (by decide +kernel)
theorem w_679 : (Jvm.Cond.methodLink "SealedTalksModel" (168 : Nat) ({ cls := "SealedTalksModel", name := "pub", desc := "(I)I" } : Jvm.MethodName)) ∈ z_WS := z_in 679 (by decide +kernel) (by decide +kernel)
theorem w_681 : (Jvm.Cond.instanceMethod ({ cls := "SealedTalksModel", name := "pub", desc := "(I)I" } : Jvm.MethodName)) ∈ z_WS := z_in 681 (by decide +kernel) (by decide +kernel)
theorem w_682 : (Jvm.Cond.code ({ cls := "SealedTalksModel", name := "pub", desc := "(I)I" } : Jvm.MethodName) prog_8_method_5_code (2 : Nat) (Option.some Jvm.ClassFile.FieldType.int)) ∈ z_WS := z_in 682 (by decide +kernel) (by decide +kernel)
theorem w_683 : (Jvm.Cond.methodLink "SealedTalksLaw" (22 : Nat) ({ cls := "SealedTalksModel", name := "write", desc := "(II)I" } : Jvm.MethodName)) ∈ z_WS := z_in 683 (by decide +kernel) (by decide +kernel)
theorem w_684 : (Jvm.Cond.instanceMethod ({ cls := "SealedTalksModel", name := "write", desc := "(II)I" } : Jvm.MethodName)) ∈ z_WS := z_in 684 (by decide +kernel) (by decide +kernel)
theorem w_685 : (Jvm.Cond.selects "SealedTalksModel" ({ cls := "SealedTalksModel", name := "write", desc := "(II)I" } : Jvm.MethodName) ({ cls := "SealedTalksModel", name := "write", desc := "(II)I" } : Jvm.MethodName)) ∈ z_WS := z_in 685 (by decide +kernel) (by decide +kernel)
theorem w_686 : (Jvm.Cond.code ({ cls := "SealedTalksModel", name := "write", desc := "(II)I" } : Jvm.MethodName) prog_8_method_23_code (6 : Nat) (Option.some Jvm.ClassFile.FieldType.int)) ∈ z_WS := z_in 686 (by decide +kernel) (by decide +kernel)
theorem w_687 : (Jvm.Cond.methodLink "SealedTalksModel" (174 : Nat) ({ cls := "SealedTalksModel", name := "isSession", desc := "(I)Z" } : Jvm.MethodName)) ∈ z_WS := z_in 687 (by decide +kernel) (by decide +kernel)
theorem w_689 : (Jvm.Cond.instanceMethod ({ cls := "SealedTalksModel", name := "isSession", desc := "(I)Z" } : Jvm.MethodName)) ∈ z_WS := z_in 689 (by decide +kernel) (by decide +kernel)
theorem w_690 : (Jvm.Cond.code ({ cls := "SealedTalksModel", name := "isSession", desc := "(I)Z" } : Jvm.MethodName) prog_8_method_19_code (2 : Nat) (Option.some Jvm.ClassFile.FieldType.boolean)) ∈ z_WS := z_in 690 (by decide +kernel) (by decide +kernel)
theorem w_691 : (Jvm.Cond.methodLink "SealedTalksModel" (178 : Nat) ({ cls := "SealedTalksModel", name := "isDone", desc := "(I)Z" } : Jvm.MethodName)) ∈ z_WS := z_in 691 (by decide +kernel) (by decide +kernel)
theorem w_693 : (Jvm.Cond.instanceMethod ({ cls := "SealedTalksModel", name := "isDone", desc := "(I)Z" } : Jvm.MethodName)) ∈ z_WS := z_in 693 (by decide +kernel) (by decide +kernel)
theorem w_694 : (Jvm.Cond.code ({ cls := "SealedTalksModel", name := "isDone", desc := "(I)Z" } : Jvm.MethodName) prog_8_method_20_code (2 : Nat) (Option.some Jvm.ClassFile.FieldType.boolean)) ∈ z_WS := z_in 694 (by decide +kernel) (by decide +kernel)
theorem w_695 : (Jvm.Cond.methodLink "SealedTalksModel" (136 : Nat) ({ cls := "SealedTalksModel", name := "last", desc := "(I)I" } : Jvm.MethodName)) ∈ z_WS := z_in 695 (by decide +kernel) (by decide +kernel)
theorem w_696 : (Jvm.Cond.static ({ cls := "SealedTalksModel", name := "last", desc := "(I)I" } : Jvm.MethodName)) ∈ z_WS := z_in 696 (by decide +kernel) (by decide +kernel)
theorem w_697 : (Jvm.Cond.code ({ cls := "SealedTalksModel", name := "last", desc := "(I)I" } : Jvm.MethodName) prog_8_method_9_code (1 : Nat) (Option.some Jvm.ClassFile.FieldType.int)) ∈ z_WS := z_in 697 (by decide +kernel) (by decide +kernel)
theorem w_698 : (Jvm.Cond.methodLink "SealedTalksModel" (181 : Nat) ({ cls := "SealedTalksModel", name := "writes", desc := "(I)Z" } : Jvm.MethodName)) ∈ z_WS := z_in 698 (by decide +kernel) (by decide +kernel)
theorem w_700 : (Jvm.Cond.instanceMethod ({ cls := "SealedTalksModel", name := "writes", desc := "(I)Z" } : Jvm.MethodName)) ∈ z_WS := z_in 700 (by decide +kernel) (by decide +kernel)
theorem w_701 : (Jvm.Cond.code ({ cls := "SealedTalksModel", name := "writes", desc := "(I)Z" } : Jvm.MethodName) prog_8_method_21_code (2 : Nat) (Option.some Jvm.ClassFile.FieldType.boolean)) ∈ z_WS := z_in 701 (by decide +kernel) (by decide +kernel)
theorem w_702 : (Jvm.Cond.methodLink "SealedTalksModel" (184 : Nat) ({ cls := "SealedTalksModel", name := "load", desc := "(I)V" } : Jvm.MethodName)) ∈ z_WS := z_in 702 (by decide +kernel) (by decide +kernel)
theorem w_704 : (Jvm.Cond.instanceMethod ({ cls := "SealedTalksModel", name := "load", desc := "(I)V" } : Jvm.MethodName)) ∈ z_WS := z_in 704 (by decide +kernel) (by decide +kernel)
theorem w_705 : (Jvm.Cond.code ({ cls := "SealedTalksModel", name := "load", desc := "(I)V" } : Jvm.MethodName) prog_8_method_10_code (2 : Nat) (Option.none : Option Jvm.ClassFile.FieldType)) ∈ z_WS := z_in 705 (by decide +kernel) (by decide +kernel)
theorem w_706 : (Jvm.Cond.methodLink "SealedTalksModel" (187 : Nat) ({ cls := "SealedTalksModel", name := "token", desc := "(III)I" } : Jvm.MethodName)) ∈ z_WS := z_in 706 (by decide +kernel) (by decide +kernel)
theorem w_707 : (Jvm.Cond.static ({ cls := "SealedTalksModel", name := "token", desc := "(III)I" } : Jvm.MethodName)) ∈ z_WS := z_in 707 (by decide +kernel) (by decide +kernel)
theorem w_708 : (Jvm.Cond.code ({ cls := "SealedTalksModel", name := "token", desc := "(III)I" } : Jvm.MethodName) prog_8_method_8_code (7 : Nat) (Option.some Jvm.ClassFile.FieldType.int)) ∈ z_WS := z_in 708 (by decide +kernel) (by decide +kernel)
theorem w_709 : (Jvm.Cond.methodLink "SealedTalksModel" (151 : Nat) ({ cls := "SealedTalksModel", name := "addPart", desc := "(I)V" } : Jvm.MethodName)) ∈ z_WS := z_in 709 (by decide +kernel) (by decide +kernel)
theorem w_711 : (Jvm.Cond.instanceMethod ({ cls := "SealedTalksModel", name := "addPart", desc := "(I)V" } : Jvm.MethodName)) ∈ z_WS := z_in 711 (by decide +kernel) (by decide +kernel)
theorem w_712 : (Jvm.Cond.code ({ cls := "SealedTalksModel", name := "addPart", desc := "(I)V" } : Jvm.MethodName) prog_8_method_14_code (2 : Nat) (Option.none : Option Jvm.ClassFile.FieldType)) ∈ z_WS := z_in 712 (by decide +kernel) (by decide +kernel)
theorem w_713 : (Jvm.Cond.methodLink "SealedTalksModel" (147 : Nat) ({ cls := "SealedTalksModel", name := "mixHash", desc := "(I)V" } : Jvm.MethodName)) ∈ z_WS := z_in 713 (by decide +kernel) (by decide +kernel)
theorem w_715 : (Jvm.Cond.instanceMethod ({ cls := "SealedTalksModel", name := "mixHash", desc := "(I)V" } : Jvm.MethodName)) ∈ z_WS := z_in 715 (by decide +kernel) (by decide +kernel)
theorem w_716 : (Jvm.Cond.code ({ cls := "SealedTalksModel", name := "mixHash", desc := "(I)V" } : Jvm.MethodName) prog_8_method_12_code (2 : Nat) (Option.none : Option Jvm.ClassFile.FieldType)) ∈ z_WS := z_in 716 (by decide +kernel) (by decide +kernel)
theorem w_717 : (Jvm.Cond.methodLink "SealedTalksModel" (193 : Nat) ({ cls := "SealedTalksModel", name := "put", desc := "(I)V" } : Jvm.MethodName)) ∈ z_WS := z_in 717 (by decide +kernel) (by decide +kernel)
theorem w_719 : (Jvm.Cond.instanceMethod ({ cls := "SealedTalksModel", name := "put", desc := "(I)V" } : Jvm.MethodName)) ∈ z_WS := z_in 719 (by decide +kernel) (by decide +kernel)
theorem w_720 : (Jvm.Cond.code ({ cls := "SealedTalksModel", name := "put", desc := "(I)V" } : Jvm.MethodName) prog_8_method_15_code (3 : Nat) (Option.none : Option Jvm.ClassFile.FieldType)) ∈ z_WS := z_in 720 (by decide +kernel) (by decide +kernel)
theorem w_721 : (Jvm.Cond.methodLink "SealedTalksModel" (196 : Nat) ({ cls := "SealedTalksModel", name := "agree", desc := "(I)V" } : Jvm.MethodName)) ∈ z_WS := z_in 721 (by decide +kernel) (by decide +kernel)
theorem w_723 : (Jvm.Cond.instanceMethod ({ cls := "SealedTalksModel", name := "agree", desc := "(I)V" } : Jvm.MethodName)) ∈ z_WS := z_in 723 (by decide +kernel) (by decide +kernel)
theorem w_724 : (Jvm.Cond.code ({ cls := "SealedTalksModel", name := "agree", desc := "(I)V" } : Jvm.MethodName) prog_8_method_13_code (11 : Nat) (Option.none : Option Jvm.ClassFile.FieldType)) ∈ z_WS := z_in 724 (by decide +kernel) (by decide +kernel)
theorem w_725 : (Jvm.Cond.methodLink "SealedTalksModel" (199 : Nat) ({ cls := "SealedTalksModel", name := "keep", desc := "()V" } : Jvm.MethodName)) ∈ z_WS := z_in 725 (by decide +kernel) (by decide +kernel)
theorem w_727 : (Jvm.Cond.instanceMethod ({ cls := "SealedTalksModel", name := "keep", desc := "()V" } : Jvm.MethodName)) ∈ z_WS := z_in 727 (by decide +kernel) (by decide +kernel)
theorem w_728 : (Jvm.Cond.code ({ cls := "SealedTalksModel", name := "keep", desc := "()V" } : Jvm.MethodName) prog_8_method_11_code (2 : Nat) (Option.none : Option Jvm.ClassFile.FieldType)) ∈ z_WS := z_in 728 (by decide +kernel) (by decide +kernel)
theorem w_729 : (Jvm.Cond.methodLink "SealedTalksModel" (202 : Nat) ({ cls := "SealedTalksModel", name := "newMessage", desc := "(I)I" } : Jvm.MethodName)) ∈ z_WS := z_in 729 (by decide +kernel) (by decide +kernel)
theorem w_731 : (Jvm.Cond.instanceMethod ({ cls := "SealedTalksModel", name := "newMessage", desc := "(I)I" } : Jvm.MethodName)) ∈ z_WS := z_in 731 (by decide +kernel) (by decide +kernel)
theorem w_732 : (Jvm.Cond.code ({ cls := "SealedTalksModel", name := "newMessage", desc := "(I)I" } : Jvm.MethodName) prog_8_method_22_code (3 : Nat) (Option.some Jvm.ClassFile.FieldType.int)) ∈ z_WS := z_in 732 (by decide +kernel) (by decide +kernel)
theorem w_733 : (Jvm.Cond.methodLink "SealedTalksLaw" (30 : Nat) ({ cls := "SealedTalksModel", name := "deliver", desc := "(II)I" } : Jvm.MethodName)) ∈ z_WS := z_in 733 (by decide +kernel) (by decide +kernel)
theorem w_734 : (Jvm.Cond.instanceMethod ({ cls := "SealedTalksModel", name := "deliver", desc := "(II)I" } : Jvm.MethodName)) ∈ z_WS := z_in 734 (by decide +kernel) (by decide +kernel)
theorem w_735 : (Jvm.Cond.selects "SealedTalksModel" ({ cls := "SealedTalksModel", name := "deliver", desc := "(II)I" } : Jvm.MethodName) ({ cls := "SealedTalksModel", name := "deliver", desc := "(II)I" } : Jvm.MethodName)) ∈ z_WS := z_in 735 (by decide +kernel) (by decide +kernel)
theorem w_736 : (Jvm.Cond.code ({ cls := "SealedTalksModel", name := "deliver", desc := "(II)I" } : Jvm.MethodName) prog_8_method_29_code (4 : Nat) (Option.some Jvm.ClassFile.FieldType.int)) ∈ z_WS := z_in 736 (by decide +kernel) (by decide +kernel)
theorem w_737 : (Jvm.Cond.methodLink "SealedTalksModel" (215 : Nat) ({ cls := "SealedTalksModel", name := "fetch", desc := "(I)V" } : Jvm.MethodName)) ∈ z_WS := z_in 737 (by decide +kernel) (by decide +kernel)
theorem w_739 : (Jvm.Cond.instanceMethod ({ cls := "SealedTalksModel", name := "fetch", desc := "(I)V" } : Jvm.MethodName)) ∈ z_WS := z_in 739 (by decide +kernel) (by decide +kernel)
theorem w_740 : (Jvm.Cond.code ({ cls := "SealedTalksModel", name := "fetch", desc := "(I)V" } : Jvm.MethodName) prog_8_method_24_code (3 : Nat) (Option.none : Option Jvm.ClassFile.FieldType)) ∈ z_WS := z_in 740 (by decide +kernel) (by decide +kernel)
theorem w_741 : (Jvm.Cond.methodLink "SealedTalksModel" (218 : Nat) ({ cls := "SealedTalksModel", name := "accepts", desc := "(I)Z" } : Jvm.MethodName)) ∈ z_WS := z_in 741 (by decide +kernel) (by decide +kernel)
theorem w_743 : (Jvm.Cond.instanceMethod ({ cls := "SealedTalksModel", name := "accepts", desc := "(I)Z" } : Jvm.MethodName)) ∈ z_WS := z_in 743 (by decide +kernel) (by decide +kernel)
theorem w_744 : (Jvm.Cond.code ({ cls := "SealedTalksModel", name := "accepts", desc := "(I)Z" } : Jvm.MethodName) prog_8_method_28_code (10 : Nat) (Option.some Jvm.ClassFile.FieldType.boolean)) ∈ z_WS := z_in 744 (by decide +kernel) (by decide +kernel)
theorem w_745 : (Jvm.Cond.methodLink "SealedTalksModel" (211 : Nat) ({ cls := "SealedTalksModel", name := "took", desc := "(II)V" } : Jvm.MethodName)) ∈ z_WS := z_in 745 (by decide +kernel) (by decide +kernel)
theorem w_747 : (Jvm.Cond.instanceMethod ({ cls := "SealedTalksModel", name := "took", desc := "(II)V" } : Jvm.MethodName)) ∈ z_WS := z_in 747 (by decide +kernel) (by decide +kernel)
theorem w_748 : (Jvm.Cond.code ({ cls := "SealedTalksModel", name := "took", desc := "(II)V" } : Jvm.MethodName) prog_8_method_26_code (3 : Nat) (Option.none : Option Jvm.ClassFile.FieldType)) ∈ z_WS := z_in 748 (by decide +kernel) (by decide +kernel)
theorem w_749 : (Jvm.Cond.methodLink "SealedTalksModel" (221 : Nat) ({ cls := "SealedTalksModel", name := "reads", desc := "(I)Z" } : Jvm.MethodName)) ∈ z_WS := z_in 749 (by decide +kernel) (by decide +kernel)
theorem w_751 : (Jvm.Cond.instanceMethod ({ cls := "SealedTalksModel", name := "reads", desc := "(I)Z" } : Jvm.MethodName)) ∈ z_WS := z_in 751 (by decide +kernel) (by decide +kernel)
theorem w_752 : (Jvm.Cond.code ({ cls := "SealedTalksModel", name := "reads", desc := "(I)Z" } : Jvm.MethodName) prog_8_method_27_code (4 : Nat) (Option.some Jvm.ClassFile.FieldType.boolean)) ∈ z_WS := z_in 752 (by decide +kernel) (by decide +kernel)
theorem w_753 : (Jvm.Cond.methodLink "SealedTalksModel" (208 : Nat) ({ cls := "SealedTalksModel", name := "run", desc := "(I)I" } : Jvm.MethodName)) ∈ z_WS := z_in 753 (by decide +kernel) (by decide +kernel)
theorem w_755 : (Jvm.Cond.instanceMethod ({ cls := "SealedTalksModel", name := "run", desc := "(I)I" } : Jvm.MethodName)) ∈ z_WS := z_in 755 (by decide +kernel) (by decide +kernel)
theorem w_756 : (Jvm.Cond.code ({ cls := "SealedTalksModel", name := "run", desc := "(I)I" } : Jvm.MethodName) prog_8_method_25_code (5 : Nat) (Option.some Jvm.ClassFile.FieldType.int)) ∈ z_WS := z_in 756 (by decide +kernel) (by decide +kernel)
theorem w_757 : (Jvm.Cond.methodLink "SealedTalksModel" (154 : Nat) ({ cls := "SealedTalksModel", name := "nextPart", desc := "()I" } : Jvm.MethodName)) ∈ z_WS := z_in 757 (by decide +kernel) (by decide +kernel)
theorem w_759 : (Jvm.Cond.instanceMethod ({ cls := "SealedTalksModel", name := "nextPart", desc := "()I" } : Jvm.MethodName)) ∈ z_WS := z_in 759 (by decide +kernel) (by decide +kernel)
theorem w_760 : (Jvm.Cond.code ({ cls := "SealedTalksModel", name := "nextPart", desc := "()I" } : Jvm.MethodName) prog_8_method_16_code (1 : Nat) (Option.some Jvm.ClassFile.FieldType.int)) ∈ z_WS := z_in 760 (by decide +kernel) (by decide +kernel)
theorem w_761 : (Jvm.Cond.methodLink "SealedTalksModel" (205 : Nat) ({ cls := "SealedTalksModel", name := "take", desc := "(I)I" } : Jvm.MethodName)) ∈ z_WS := z_in 761 (by decide +kernel) (by decide +kernel)
theorem w_763 : (Jvm.Cond.instanceMethod ({ cls := "SealedTalksModel", name := "take", desc := "(I)I" } : Jvm.MethodName)) ∈ z_WS := z_in 763 (by decide +kernel) (by decide +kernel)
theorem w_764 : (Jvm.Cond.code ({ cls := "SealedTalksModel", name := "take", desc := "(I)I" } : Jvm.MethodName) prog_8_method_17_code (4 : Nat) (Option.some Jvm.ClassFile.FieldType.int)) ∈ z_WS := z_in 764 (by decide +kernel) (by decide +kernel)
theorem w_765 : (Jvm.Cond.methodLink "SealedTalksLaw" (26 : Nat) ({ cls := "SealedTalksModel", name := "send", desc := "(II)I" } : Jvm.MethodName)) ∈ z_WS := z_in 765 (by decide +kernel) (by decide +kernel)
theorem w_766 : (Jvm.Cond.instanceMethod ({ cls := "SealedTalksModel", name := "send", desc := "(II)I" } : Jvm.MethodName)) ∈ z_WS := z_in 766 (by decide +kernel) (by decide +kernel)
theorem w_767 : (Jvm.Cond.selects "SealedTalksModel" ({ cls := "SealedTalksModel", name := "send", desc := "(II)I" } : Jvm.MethodName) ({ cls := "SealedTalksModel", name := "send", desc := "(II)I" } : Jvm.MethodName)) ∈ z_WS := z_in 767 (by decide +kernel) (by decide +kernel)
theorem w_768 : (Jvm.Cond.code ({ cls := "SealedTalksModel", name := "send", desc := "(II)I" } : Jvm.MethodName) prog_8_method_30_code (6 : Nat) (Option.some Jvm.ClassFile.FieldType.int)) ∈ z_WS := z_in 768 (by decide +kernel) (by decide +kernel)
theorem w_769 : (Jvm.Cond.methodLink "SealedTalksLaw" (35 : Nat) ({ cls := "SealedTalksModel", name := "splice", desc := "(IIII)I" } : Jvm.MethodName)) ∈ z_WS := z_in 769 (by decide +kernel) (by decide +kernel)
theorem w_770 : (Jvm.Cond.instanceMethod ({ cls := "SealedTalksModel", name := "splice", desc := "(IIII)I" } : Jvm.MethodName)) ∈ z_WS := z_in 770 (by decide +kernel) (by decide +kernel)
theorem w_771 : (Jvm.Cond.selects "SealedTalksModel" ({ cls := "SealedTalksModel", name := "splice", desc := "(IIII)I" } : Jvm.MethodName) ({ cls := "SealedTalksModel", name := "splice", desc := "(IIII)I" } : Jvm.MethodName)) ∈ z_WS := z_in 771 (by decide +kernel) (by decide +kernel)
theorem w_772 : (Jvm.Cond.code ({ cls := "SealedTalksModel", name := "splice", desc := "(IIII)I" } : Jvm.MethodName) prog_8_method_32_code (5 : Nat) (Option.some Jvm.ClassFile.FieldType.int)) ∈ z_WS := z_in 772 (by decide +kernel) (by decide +kernel)
theorem w_773 : (Jvm.Cond.methodLink "SealedTalksModel" (224 : Nat) ({ cls := "SealedTalksModel", name := "isPart", desc := "(II)Z" } : Jvm.MethodName)) ∈ z_WS := z_in 773 (by decide +kernel) (by decide +kernel)
theorem w_775 : (Jvm.Cond.instanceMethod ({ cls := "SealedTalksModel", name := "isPart", desc := "(II)Z" } : Jvm.MethodName)) ∈ z_WS := z_in 775 (by decide +kernel) (by decide +kernel)
theorem w_776 : (Jvm.Cond.code ({ cls := "SealedTalksModel", name := "isPart", desc := "(II)Z" } : Jvm.MethodName) prog_8_method_31_code (3 : Nat) (Option.some Jvm.ClassFile.FieldType.boolean)) ∈ z_WS := z_in 776 (by decide +kernel) (by decide +kernel)
theorem w_777 : (Jvm.Cond.methodLink "SealedTalksLaw" (40 : Nat) ({ cls := "SealedTalksModel", name := "replace", desc := "(III)I" } : Jvm.MethodName)) ∈ z_WS := z_in 777 (by decide +kernel) (by decide +kernel)
theorem w_778 : (Jvm.Cond.instanceMethod ({ cls := "SealedTalksModel", name := "replace", desc := "(III)I" } : Jvm.MethodName)) ∈ z_WS := z_in 778 (by decide +kernel) (by decide +kernel)
theorem w_779 : (Jvm.Cond.selects "SealedTalksModel" ({ cls := "SealedTalksModel", name := "replace", desc := "(III)I" } : Jvm.MethodName) ({ cls := "SealedTalksModel", name := "replace", desc := "(III)I" } : Jvm.MethodName)) ∈ z_WS := z_in 779 (by decide +kernel) (by decide +kernel)
theorem w_780 : (Jvm.Cond.code ({ cls := "SealedTalksModel", name := "replace", desc := "(III)I" } : Jvm.MethodName) prog_8_method_33_code (4 : Nat) (Option.some Jvm.ClassFile.FieldType.int)) ∈ z_WS := z_in 780 (by decide +kernel) (by decide +kernel)
theorem w_781 : (Jvm.Cond.methodLink "SealedTalksLaw" (45 : Nat) ({ cls := "SealedTalksModel", name := "give", desc := "(I)Z" } : Jvm.MethodName)) ∈ z_WS := z_in 781 (by decide +kernel) (by decide +kernel)
theorem w_782 : (Jvm.Cond.instanceMethod ({ cls := "SealedTalksModel", name := "give", desc := "(I)Z" } : Jvm.MethodName)) ∈ z_WS := z_in 782 (by decide +kernel) (by decide +kernel)
theorem w_783 : (Jvm.Cond.selects "SealedTalksModel" ({ cls := "SealedTalksModel", name := "give", desc := "(I)Z" } : Jvm.MethodName) ({ cls := "SealedTalksModel", name := "give", desc := "(I)Z" } : Jvm.MethodName)) ∈ z_WS := z_in 783 (by decide +kernel) (by decide +kernel)
theorem w_784 : (Jvm.Cond.code ({ cls := "SealedTalksModel", name := "give", desc := "(I)Z" } : Jvm.MethodName) prog_8_method_34_code (2 : Nat) (Option.some Jvm.ClassFile.FieldType.boolean)) ∈ z_WS := z_in 784 (by decide +kernel) (by decide +kernel)
theorem w_785 : (Jvm.Cond.methodLink "SealedTalksLaw" (50 : Nat) ({ cls := "SealedTalksModel", name := "tick", desc := "()I" } : Jvm.MethodName)) ∈ z_WS := z_in 785 (by decide +kernel) (by decide +kernel)
theorem w_786 : (Jvm.Cond.instanceMethod ({ cls := "SealedTalksModel", name := "tick", desc := "()I" } : Jvm.MethodName)) ∈ z_WS := z_in 786 (by decide +kernel) (by decide +kernel)
theorem w_787 : (Jvm.Cond.selects "SealedTalksModel" ({ cls := "SealedTalksModel", name := "tick", desc := "()I" } : Jvm.MethodName) ({ cls := "SealedTalksModel", name := "tick", desc := "()I" } : Jvm.MethodName)) ∈ z_WS := z_in 787 (by decide +kernel) (by decide +kernel)
theorem w_788 : (Jvm.Cond.code ({ cls := "SealedTalksModel", name := "tick", desc := "()I" } : Jvm.MethodName) prog_8_method_35_code (3 : Nat) (Option.some Jvm.ClassFile.FieldType.int)) ∈ z_WS := z_in 788 (by decide +kernel) (by decide +kernel)
theorem w_789 : (Jvm.Cond.methodLink "SealedTalksLaw" (55 : Nat) ({ cls := "SealedTalksModel", name := "state", desc := "(I)I" } : Jvm.MethodName)) ∈ z_WS := z_in 789 (by decide +kernel) (by decide +kernel)
theorem w_790 : (Jvm.Cond.instanceMethod ({ cls := "SealedTalksModel", name := "state", desc := "(I)I" } : Jvm.MethodName)) ∈ z_WS := z_in 790 (by decide +kernel) (by decide +kernel)
theorem w_791 : (Jvm.Cond.selects "SealedTalksModel" ({ cls := "SealedTalksModel", name := "state", desc := "(I)I" } : Jvm.MethodName) ({ cls := "SealedTalksModel", name := "state", desc := "(I)I" } : Jvm.MethodName)) ∈ z_WS := z_in 791 (by decide +kernel) (by decide +kernel)
theorem w_792 : (Jvm.Cond.code ({ cls := "SealedTalksModel", name := "state", desc := "(I)I" } : Jvm.MethodName) prog_8_method_36_code (2 : Nat) (Option.some Jvm.ClassFile.FieldType.int)) ∈ z_WS := z_in 792 (by decide +kernel) (by decide +kernel)
theorem w_793 : (Jvm.Cond.methodLink "SealedTalksLaw" (59 : Nat) ({ cls := "SealedTalksModel", name := "steps", desc := "(I)I" } : Jvm.MethodName)) ∈ z_WS := z_in 793 (by decide +kernel) (by decide +kernel)
theorem w_794 : (Jvm.Cond.instanceMethod ({ cls := "SealedTalksModel", name := "steps", desc := "(I)I" } : Jvm.MethodName)) ∈ z_WS := z_in 794 (by decide +kernel) (by decide +kernel)
theorem w_795 : (Jvm.Cond.selects "SealedTalksModel" ({ cls := "SealedTalksModel", name := "steps", desc := "(I)I" } : Jvm.MethodName) ({ cls := "SealedTalksModel", name := "steps", desc := "(I)I" } : Jvm.MethodName)) ∈ z_WS := z_in 795 (by decide +kernel) (by decide +kernel)
theorem w_796 : (Jvm.Cond.code ({ cls := "SealedTalksModel", name := "steps", desc := "(I)I" } : Jvm.MethodName) prog_8_method_37_code (2 : Nat) (Option.some Jvm.ClassFile.FieldType.int)) ∈ z_WS := z_in 796 (by decide +kernel) (by decide +kernel)
theorem w_797 : (Jvm.Cond.methodLink "SealedTalksLaw" (63 : Nat) ({ cls := "SealedTalksModel", name := "peer", desc := "(I)I" } : Jvm.MethodName)) ∈ z_WS := z_in 797 (by decide +kernel) (by decide +kernel)
theorem w_798 : (Jvm.Cond.instanceMethod ({ cls := "SealedTalksModel", name := "peer", desc := "(I)I" } : Jvm.MethodName)) ∈ z_WS := z_in 798 (by decide +kernel) (by decide +kernel)
theorem w_799 : (Jvm.Cond.selects "SealedTalksModel" ({ cls := "SealedTalksModel", name := "peer", desc := "(I)I" } : Jvm.MethodName) ({ cls := "SealedTalksModel", name := "peer", desc := "(I)I" } : Jvm.MethodName)) ∈ z_WS := z_in 799 (by decide +kernel) (by decide +kernel)
theorem w_800 : (Jvm.Cond.code ({ cls := "SealedTalksModel", name := "peer", desc := "(I)I" } : Jvm.MethodName) prog_8_method_38_code (2 : Nat) (Option.some Jvm.ClassFile.FieldType.int)) ∈ z_WS := z_in 800 (by decide +kernel) (by decide +kernel)
theorem w_801 : (Jvm.Cond.methodLink "SealedTalksLaw" (67 : Nat) ({ cls := "SealedTalksModel", name := "payload", desc := "(I)I" } : Jvm.MethodName)) ∈ z_WS := z_in 801 (by decide +kernel) (by decide +kernel)
theorem w_802 : (Jvm.Cond.instanceMethod ({ cls := "SealedTalksModel", name := "payload", desc := "(I)I" } : Jvm.MethodName)) ∈ z_WS := z_in 802 (by decide +kernel) (by decide +kernel)
theorem w_803 : (Jvm.Cond.selects "SealedTalksModel" ({ cls := "SealedTalksModel", name := "payload", desc := "(I)I" } : Jvm.MethodName) ({ cls := "SealedTalksModel", name := "payload", desc := "(I)I" } : Jvm.MethodName)) ∈ z_WS := z_in 803 (by decide +kernel) (by decide +kernel)
theorem w_804 : (Jvm.Cond.code ({ cls := "SealedTalksModel", name := "payload", desc := "(I)I" } : Jvm.MethodName) prog_8_method_39_code (2 : Nat) (Option.some Jvm.ClassFile.FieldType.int)) ∈ z_WS := z_in 804 (by decide +kernel) (by decide +kernel)
theorem w_805 : (Jvm.Cond.methodLink "SealedTalksLaw" (71 : Nat) ({ cls := "SealedTalksModel", name := "accepted", desc := "(I)I" } : Jvm.MethodName)) ∈ z_WS := z_in 805 (by decide +kernel) (by decide +kernel)
theorem w_806 : (Jvm.Cond.instanceMethod ({ cls := "SealedTalksModel", name := "accepted", desc := "(I)I" } : Jvm.MethodName)) ∈ z_WS := z_in 806 (by decide +kernel) (by decide +kernel)
theorem w_807 : (Jvm.Cond.selects "SealedTalksModel" ({ cls := "SealedTalksModel", name := "accepted", desc := "(I)I" } : Jvm.MethodName) ({ cls := "SealedTalksModel", name := "accepted", desc := "(I)I" } : Jvm.MethodName)) ∈ z_WS := z_in 807 (by decide +kernel) (by decide +kernel)
theorem w_808 : (Jvm.Cond.code ({ cls := "SealedTalksModel", name := "accepted", desc := "(I)I" } : Jvm.MethodName) prog_8_method_40_code (2 : Nat) (Option.some Jvm.ClassFile.FieldType.int)) ∈ z_WS := z_in 808 (by decide +kernel) (by decide +kernel)
theorem w_809 : (Jvm.Cond.methodLink "SealedTalksLaw" (76 : Nat) ({ cls := "SealedTalksModel", name := "match", desc := "(II)Z" } : Jvm.MethodName)) ∈ z_WS := z_in 809 (by decide +kernel) (by decide +kernel)
theorem w_810 : (Jvm.Cond.instanceMethod ({ cls := "SealedTalksModel", name := "match", desc := "(II)Z" } : Jvm.MethodName)) ∈ z_WS := z_in 810 (by decide +kernel) (by decide +kernel)
theorem w_811 : (Jvm.Cond.selects "SealedTalksModel" ({ cls := "SealedTalksModel", name := "match", desc := "(II)Z" } : Jvm.MethodName) ({ cls := "SealedTalksModel", name := "match", desc := "(II)Z" } : Jvm.MethodName)) ∈ z_WS := z_in 811 (by decide +kernel) (by decide +kernel)
theorem w_812 : (Jvm.Cond.code ({ cls := "SealedTalksModel", name := "match", desc := "(II)Z" } : Jvm.MethodName) prog_8_method_41_code (3 : Nat) (Option.some Jvm.ClassFile.FieldType.boolean)) ∈ z_WS := z_in 812 (by decide +kernel) (by decide +kernel)
theorem w_813 : (Jvm.Cond.methodLink "SealedTalksLaw" (80 : Nat) ({ cls := "SealedTalksModel", name := "open", desc := "(I)Z" } : Jvm.MethodName)) ∈ z_WS := z_in 813 (by decide +kernel) (by decide +kernel)
theorem w_814 : (Jvm.Cond.instanceMethod ({ cls := "SealedTalksModel", name := "open", desc := "(I)Z" } : Jvm.MethodName)) ∈ z_WS := z_in 814 (by decide +kernel) (by decide +kernel)
theorem w_815 : (Jvm.Cond.selects "SealedTalksModel" ({ cls := "SealedTalksModel", name := "open", desc := "(I)Z" } : Jvm.MethodName) ({ cls := "SealedTalksModel", name := "open", desc := "(I)Z" } : Jvm.MethodName)) ∈ z_WS := z_in 815 (by decide +kernel) (by decide +kernel)
theorem w_816 : (Jvm.Cond.code ({ cls := "SealedTalksModel", name := "open", desc := "(I)Z" } : Jvm.MethodName) prog_8_method_42_code (2 : Nat) (Option.some Jvm.ClassFile.FieldType.boolean)) ∈ z_WS := z_in 816 (by decide +kernel) (by decide +kernel)
theorem w_817 : (Jvm.Cond.methodLink "SealedTalksModel" (228 : Nat) ({ cls := "SealedTalksModel", name := "workOut", desc := "()V" } : Jvm.MethodName)) ∈ z_WS := z_in 817 (by decide +kernel) (by decide +kernel)
theorem w_819 : (Jvm.Cond.instanceMethod ({ cls := "SealedTalksModel", name := "workOut", desc := "()V" } : Jvm.MethodName)) ∈ z_WS := z_in 819 (by decide +kernel) (by decide +kernel)
theorem w_820 : (Jvm.Cond.code ({ cls := "SealedTalksModel", name := "workOut", desc := "()V" } : Jvm.MethodName) prog_8_method_7_code (4 : Nat) (Option.none : Option Jvm.ClassFile.FieldType)) ∈ z_WS := z_in 820 (by decide +kernel) (by decide +kernel)
theorem w_821 : (Jvm.Cond.methodLink "SealedTalksLaw" (84 : Nat) ({ cls := "SealedTalksModel", name := "parts", desc := "(I)I" } : Jvm.MethodName)) ∈ z_WS := z_in 821 (by decide +kernel) (by decide +kernel)
theorem w_822 : (Jvm.Cond.instanceMethod ({ cls := "SealedTalksModel", name := "parts", desc := "(I)I" } : Jvm.MethodName)) ∈ z_WS := z_in 822 (by decide +kernel) (by decide +kernel)
theorem w_823 : (Jvm.Cond.selects "SealedTalksModel" ({ cls := "SealedTalksModel", name := "parts", desc := "(I)I" } : Jvm.MethodName) ({ cls := "SealedTalksModel", name := "parts", desc := "(I)I" } : Jvm.MethodName)) ∈ z_WS := z_in 823 (by decide +kernel) (by decide +kernel)
theorem w_824 : (Jvm.Cond.code ({ cls := "SealedTalksModel", name := "parts", desc := "(I)I" } : Jvm.MethodName) prog_8_method_43_code (2 : Nat) (Option.some Jvm.ClassFile.FieldType.int)) ∈ z_WS := z_in 824 (by decide +kernel) (by decide +kernel)
theorem w_825 : (Jvm.Cond.methodLink "SealedTalksLaw" (88 : Nat) ({ cls := "SealedTalksModel", name := "sees", desc := "(II)I" } : Jvm.MethodName)) ∈ z_WS := z_in 825 (by decide +kernel) (by decide +kernel)
theorem w_826 : (Jvm.Cond.instanceMethod ({ cls := "SealedTalksModel", name := "sees", desc := "(II)I" } : Jvm.MethodName)) ∈ z_WS := z_in 826 (by decide +kernel) (by decide +kernel)
theorem w_827 : (Jvm.Cond.selects "SealedTalksModel" ({ cls := "SealedTalksModel", name := "sees", desc := "(II)I" } : Jvm.MethodName) ({ cls := "SealedTalksModel", name := "sees", desc := "(II)I" } : Jvm.MethodName)) ∈ z_WS := z_in 827 (by decide +kernel) (by decide +kernel)
theorem w_828 : (Jvm.Cond.code ({ cls := "SealedTalksModel", name := "sees", desc := "(II)I" } : Jvm.MethodName) prog_8_method_44_code (4 : Nat) (Option.some Jvm.ClassFile.FieldType.int)) ∈ z_WS := z_in 828 (by decide +kernel) (by decide +kernel)
theorem w_829 : (Jvm.Cond.methodLink "SealedTalksLaw" (92 : Nat) ({ cls := "SealedTalksModel", name := "shown", desc := "(II)I" } : Jvm.MethodName)) ∈ z_WS := z_in 829 (by decide +kernel) (by decide +kernel)
theorem w_830 : (Jvm.Cond.instanceMethod ({ cls := "SealedTalksModel", name := "shown", desc := "(II)I" } : Jvm.MethodName)) ∈ z_WS := z_in 830 (by decide +kernel) (by decide +kernel)
theorem w_831 : (Jvm.Cond.selects "SealedTalksModel" ({ cls := "SealedTalksModel", name := "shown", desc := "(II)I" } : Jvm.MethodName) ({ cls := "SealedTalksModel", name := "shown", desc := "(II)I" } : Jvm.MethodName)) ∈ z_WS := z_in 831 (by decide +kernel) (by decide +kernel)
theorem w_832 : (Jvm.Cond.code ({ cls := "SealedTalksModel", name := "shown", desc := "(II)I" } : Jvm.MethodName) prog_8_method_45_code (6 : Nat) (Option.some Jvm.ClassFile.FieldType.int)) ∈ z_WS := z_in 832 (by decide +kernel) (by decide +kernel)
theorem w_833 : (Jvm.Cond.methodLink "SealedTalksModel" (231 : Nat) ({ cls := "SealedTalksModel", name := "sees", desc := "(II)I" } : Jvm.MethodName)) ∈ z_WS := z_in 833 (by decide +kernel) (by decide +kernel)
theorem w_834 : (Jvm.Cond.methodLink "SealedTalksLaw" (97 : Nat) ({ cls := "SealedTalksModel", name := "same", desc := "(IIII)Z" } : Jvm.MethodName)) ∈ z_WS := z_in 834 (by decide +kernel) (by decide +kernel)
theorem w_835 : (Jvm.Cond.instanceMethod ({ cls := "SealedTalksModel", name := "same", desc := "(IIII)Z" } : Jvm.MethodName)) ∈ z_WS := z_in 835 (by decide +kernel) (by decide +kernel)
theorem w_836 : (Jvm.Cond.selects "SealedTalksModel" ({ cls := "SealedTalksModel", name := "same", desc := "(IIII)Z" } : Jvm.MethodName) ({ cls := "SealedTalksModel", name := "same", desc := "(IIII)Z" } : Jvm.MethodName)) ∈ z_WS := z_in 836 (by decide +kernel) (by decide +kernel)
theorem w_837 : (Jvm.Cond.code ({ cls := "SealedTalksModel", name := "same", desc := "(IIII)Z" } : Jvm.MethodName) prog_8_method_46_code (5 : Nat) (Option.some Jvm.ClassFile.FieldType.boolean)) ∈ z_WS := z_in 837 (by decide +kernel) (by decide +kernel)
theorem wp_0 : Cond.selects "SealedTalks$Terms" ⟨"SealedTalks$Terms", "make", "(IIIII)I"⟩ ⟨"SealedTalks$Terms", "make", "(IIIII)I"⟩ ∈ z_WS := z_inp 0 (by decide +kernel) (by decide +kernel)
theorem wp_1 : Cond.selects "SealedTalks$Terms" ⟨"SealedTalks$Terms", "judged", "(I)Z"⟩ ⟨"SealedTalks$Terms", "judged", "(I)Z"⟩ ∈ z_WS := z_inp 1 (by decide +kernel) (by decide +kernel)
theorem wp_2 : Cond.selects "SealedTalks" ⟨"SealedTalks", "sessionAt", "(I)LSealedTalks$Session;"⟩ ⟨"SealedTalks", "sessionAt", "(I)LSealedTalks$Session;"⟩ ∈ z_WS := z_inp 2 (by decide +kernel) (by decide +kernel)
theorem wp_3 : Cond.selects "SealedTalks$Agreement" ⟨"SealedTalks$Agreement", "tokenAt", "(I)I"⟩ ⟨"SealedTalks$Agreement", "tokenAt", "(I)I"⟩ ∈ z_WS := z_inp 3 (by decide +kernel) (by decide +kernel)
theorem wp_4 : Cond.selects "SealedTalks$Agreement" ⟨"SealedTalks$Agreement", "addPart", "(LSealedTalks$Messages;I)V"⟩ ⟨"SealedTalks$Agreement", "addPart", "(LSealedTalks$Messages;I)V"⟩ ∈ z_WS := z_inp 4 (by decide +kernel) (by decide +kernel)
theorem wp_5 : Cond.selects "SealedTalks$Agreement" ⟨"SealedTalks$Agreement", "closedUp", "(I)I"⟩ ⟨"SealedTalks$Agreement", "closedUp", "(I)I"⟩ ∈ z_WS := z_inp 5 (by decide +kernel) (by decide +kernel)
theorem wp_6 : Cond.selects "SealedTalks$Agreement" ⟨"SealedTalks$Agreement", "mixKeys", "(I)V"⟩ ⟨"SealedTalks$Agreement", "mixKeys", "(I)V"⟩ ∈ z_WS := z_inp 6 (by decide +kernel) (by decide +kernel)
theorem wp_7 : Cond.selects "SealedTalks$Session" ⟨"SealedTalks$Session", "endAgreement", "()V"⟩ ⟨"SealedTalks$Session", "endAgreement", "()V"⟩ ∈ z_WS := z_inp 7 (by decide +kernel) (by decide +kernel)
theorem wp_8 : Cond.selects "SealedTalks$Channel" ⟨"SealedTalks$Channel", "isFresh", "(I)Z"⟩ ⟨"SealedTalks$Channel", "isFresh", "(I)Z"⟩ ∈ z_WS := z_inp 8 (by decide +kernel) (by decide +kernel)
theorem wp_9 : Cond.selects "SealedTalks$Agreement" ⟨"SealedTalks$Agreement", "partsOfNext", "()I"⟩ ⟨"SealedTalks$Agreement", "partsOfNext", "()I"⟩ ∈ z_WS := z_inp 9 (by decide +kernel) (by decide +kernel)
theorem wp_10 : Cond.selects "SealedTalks$Agreement" ⟨"SealedTalks$Agreement", "readKey", "(II)Z"⟩ ⟨"SealedTalks$Agreement", "readKey", "(II)Z"⟩ ∈ z_WS := z_inp 10 (by decide +kernel) (by decide +kernel)
theorem wp_11 : Cond.selects "SealedTalks$Agreement" ⟨"SealedTalks$Agreement", "openedUp", "(I)I"⟩ ⟨"SealedTalks$Agreement", "openedUp", "(I)I"⟩ ∈ z_WS := z_inp 11 (by decide +kernel) (by decide +kernel)
theorem wp_12 : Cond.selects "SealedTalks" ⟨"SealedTalks", "makeChanged", "(III)I"⟩ ⟨"SealedTalks", "makeChanged", "(III)I"⟩ ∈ z_WS := z_inp 12 (by decide +kernel) (by decide +kernel)
theorem wp_13 : Cond.selects "SealedTalksModel" ⟨"SealedTalksModel", "num", "(I)I"⟩ ⟨"SealedTalksModel", "num", "(I)I"⟩ ∈ z_WS := z_inp 13 (by decide +kernel) (by decide +kernel)
theorem wp_14 : Cond.selects "SealedTalksModel" ⟨"SealedTalksModel", "term", "(IIIII)I"⟩ ⟨"SealedTalksModel", "term", "(IIIII)I"⟩ ∈ z_WS := z_inp 14 (by decide +kernel) (by decide +kernel)
theorem wp_15 : Cond.selects "SealedTalksModel" ⟨"SealedTalksModel", "two", "(III)I"⟩ ⟨"SealedTalksModel", "two", "(III)I"⟩ ∈ z_WS := z_inp 15 (by decide +kernel) (by decide +kernel)
theorem wp_16 : Cond.selects "SealedTalksModel" ⟨"SealedTalksModel", "pub", "(I)I"⟩ ⟨"SealedTalksModel", "pub", "(I)I"⟩ ∈ z_WS := z_inp 16 (by decide +kernel) (by decide +kernel)
theorem wp_17 : Cond.selects "SealedTalksModel" ⟨"SealedTalksModel", "isSession", "(I)Z"⟩ ⟨"SealedTalksModel", "isSession", "(I)Z"⟩ ∈ z_WS := z_inp 17 (by decide +kernel) (by decide +kernel)
theorem wp_18 : Cond.selects "SealedTalksModel" ⟨"SealedTalksModel", "isDone", "(I)Z"⟩ ⟨"SealedTalksModel", "isDone", "(I)Z"⟩ ∈ z_WS := z_inp 18 (by decide +kernel) (by decide +kernel)
theorem wp_19 : Cond.selects "SealedTalksModel" ⟨"SealedTalksModel", "writes", "(I)Z"⟩ ⟨"SealedTalksModel", "writes", "(I)Z"⟩ ∈ z_WS := z_inp 19 (by decide +kernel) (by decide +kernel)
theorem wp_20 : Cond.selects "SealedTalksModel" ⟨"SealedTalksModel", "load", "(I)V"⟩ ⟨"SealedTalksModel", "load", "(I)V"⟩ ∈ z_WS := z_inp 20 (by decide +kernel) (by decide +kernel)
theorem wp_21 : Cond.selects "SealedTalksModel" ⟨"SealedTalksModel", "addPart", "(I)V"⟩ ⟨"SealedTalksModel", "addPart", "(I)V"⟩ ∈ z_WS := z_inp 21 (by decide +kernel) (by decide +kernel)
theorem wp_22 : Cond.selects "SealedTalksModel" ⟨"SealedTalksModel", "mixHash", "(I)V"⟩ ⟨"SealedTalksModel", "mixHash", "(I)V"⟩ ∈ z_WS := z_inp 22 (by decide +kernel) (by decide +kernel)
theorem wp_23 : Cond.selects "SealedTalksModel" ⟨"SealedTalksModel", "put", "(I)V"⟩ ⟨"SealedTalksModel", "put", "(I)V"⟩ ∈ z_WS := z_inp 23 (by decide +kernel) (by decide +kernel)
theorem wp_24 : Cond.selects "SealedTalksModel" ⟨"SealedTalksModel", "agree", "(I)V"⟩ ⟨"SealedTalksModel", "agree", "(I)V"⟩ ∈ z_WS := z_inp 24 (by decide +kernel) (by decide +kernel)
theorem wp_25 : Cond.selects "SealedTalksModel" ⟨"SealedTalksModel", "keep", "()V"⟩ ⟨"SealedTalksModel", "keep", "()V"⟩ ∈ z_WS := z_inp 25 (by decide +kernel) (by decide +kernel)
theorem wp_26 : Cond.selects "SealedTalksModel" ⟨"SealedTalksModel", "newMessage", "(I)I"⟩ ⟨"SealedTalksModel", "newMessage", "(I)I"⟩ ∈ z_WS := z_inp 26 (by decide +kernel) (by decide +kernel)
theorem wp_27 : Cond.selects "SealedTalksModel" ⟨"SealedTalksModel", "fetch", "(I)V"⟩ ⟨"SealedTalksModel", "fetch", "(I)V"⟩ ∈ z_WS := z_inp 27 (by decide +kernel) (by decide +kernel)
theorem wp_28 : Cond.selects "SealedTalksModel" ⟨"SealedTalksModel", "accepts", "(I)Z"⟩ ⟨"SealedTalksModel", "accepts", "(I)Z"⟩ ∈ z_WS := z_inp 28 (by decide +kernel) (by decide +kernel)
theorem wp_29 : Cond.selects "SealedTalksModel" ⟨"SealedTalksModel", "took", "(II)V"⟩ ⟨"SealedTalksModel", "took", "(II)V"⟩ ∈ z_WS := z_inp 29 (by decide +kernel) (by decide +kernel)
theorem wp_30 : Cond.selects "SealedTalksModel" ⟨"SealedTalksModel", "reads", "(I)Z"⟩ ⟨"SealedTalksModel", "reads", "(I)Z"⟩ ∈ z_WS := z_inp 30 (by decide +kernel) (by decide +kernel)
theorem wp_31 : Cond.selects "SealedTalksModel" ⟨"SealedTalksModel", "run", "(I)I"⟩ ⟨"SealedTalksModel", "run", "(I)I"⟩ ∈ z_WS := z_inp 31 (by decide +kernel) (by decide +kernel)
theorem wp_32 : Cond.selects "SealedTalksModel" ⟨"SealedTalksModel", "nextPart", "()I"⟩ ⟨"SealedTalksModel", "nextPart", "()I"⟩ ∈ z_WS := z_inp 32 (by decide +kernel) (by decide +kernel)
theorem wp_33 : Cond.selects "SealedTalksModel" ⟨"SealedTalksModel", "take", "(I)I"⟩ ⟨"SealedTalksModel", "take", "(I)I"⟩ ∈ z_WS := z_inp 33 (by decide +kernel) (by decide +kernel)
theorem wp_34 : Cond.selects "SealedTalksModel" ⟨"SealedTalksModel", "isPart", "(II)Z"⟩ ⟨"SealedTalksModel", "isPart", "(II)Z"⟩ ∈ z_WS := z_inp 34 (by decide +kernel) (by decide +kernel)
theorem wp_35 : Cond.selects "SealedTalksModel" ⟨"SealedTalksModel", "workOut", "()V"⟩ ⟨"SealedTalksModel", "workOut", "()V"⟩ ∈ z_WS := z_inp 35 (by decide +kernel) (by decide +kernel)
theorem fs_Ag : ∀ j, j < 12 → ([.null, .int 0, .int 0, .int 0, .int 0, .int 0, .int 0, .int 0, .int 0, .int 0, .int 0, .int 0] : List Value)[j]? = some (defaultValue (t_Ag j)) ∧ (defaultValue (t_Ag j) = .int 0 ∨ defaultValue (t_Ag j) = .null) := by decide +kernel
theorem fs_Ch : ∀ j, j < 6 → ([.null, .null, .int 0, .int 0, .int 0, .int 0] : List Value)[j]? = some (defaultValue (t_Ch j)) ∧ (defaultValue (t_Ch j) = .int 0 ∨ defaultValue (t_Ch j) = .null) := by decide +kernel
theorem fs_Me : ∀ j, j < 3 → ([.null, .null, .int 0] : List Value)[j]? = some (defaultValue (t_Me j)) ∧ (defaultValue (t_Me j) = .int 0 ∨ defaultValue (t_Me j) = .null) := by decide +kernel
theorem fs_Se : ∀ j, j < 8 → ([.null, .null, .null, .null, .int 0, .int 0, .int 0, .int 0] : List Value)[j]? = some (defaultValue (t_Se j)) ∧ (defaultValue (t_Se j) = .int 0 ∨ defaultValue (t_Se j) = .null) := by decide +kernel
theorem fs_Te : ∀ j, j < 11 → ([.null, .null, .null, .null, .null, .null, .null, .null, .null, .int 0, .int 0] : List Value)[j]? = some (defaultValue (t_Te j)) ∧ (defaultValue (t_Te j) = .int 0 ∨ defaultValue (t_Te j) = .null) := by decide +kernel
theorem fs_St : ∀ j, j < 4 → ([.null, .null, .null, .int 0] : List Value)[j]? = some (defaultValue (t_St j)) ∧ (defaultValue (t_St j) = .int 0 ∨ defaultValue (t_St j) = .null) := by decide +kernel
theorem fs_Mo : ∀ j, j < 43 → ([.int 0, .null, .null, .null, .null, .null, .null, .int 0, .null, .null, .int 0, .null, .int 0, .null, .null, .null, .null, .null, .null, .null, .null, .null, .null, .null, .null, .null, .null, .null, .null, .null, .null, .int 0, .int 0, .int 0, .int 0, .int 0, .int 0, .int 0, .int 0, .int 0, .null, .int 0, .int 0] : List Value)[j]? = some (defaultValue (t_Mo j)) ∧ (defaultValue (t_Mo j) = .int 0 ∨ defaultValue (t_Mo j) = .null) := by decide +kernel
end
section
/-! Each method of SealedTalks$Agreement is sound (0). By program. -/
section ZR00
variable {g : zG} {d : Nat} {p : Program} {l : Launch} {e : Env} {R : Room} {s : State} {m : MethodId} {args : Array Value} {below : List Frame} {meth : Method} {c : Code} {Q : State → Prop} {P : zP}
set_option maxRecDepth 100000 in
set_option maxHeartbeats 4000000 in
theorem s_Ag_init_0 (cx : z_cx zTab g d p l e R s m args below meth c prog_2_method_1_code "SealedTalks$Agreement" 2) (hn : meth.name = "<init>") (hf : z_fin g p l e R s m args below meth c Q prog_2_method_1_code P none) : ∀ x ∈ k_Ag_init_0, z_sn zTab g d p l e R s m args below meth c Q 2 P x := by
  unfold k_Ag_init_0
  refine z_k (S_aload_n cx (k := 0) (by decide +kernel) rfl) ?_
  refine z_k (S_oini cx w_134 w_15 w_16 (by decide +kernel)) ?_
  refine z_k (S_aload_n cx (k := 0) (by decide +kernel) rfl) ?_
  refine z_k (S_push cx (n := 0) (by decide +kernel) (by decide)) ?_
  refine z_k (S_putf cx (T := F_Ag) (N := 12) (k := 1) (ty := t_Ag) rfl in_Ag t_Ag_ok n_Ag (by decide) rfl w_136 rfl (Or.inl ⟨rfl, rfl⟩) (by decide +kernel)) ?_
  refine z_k (S_aload_n cx (k := 0) (by decide +kernel) rfl) ?_
  refine z_k (S_push cx (n := 0) (by decide +kernel) (by decide)) ?_
  refine z_k (S_putf cx (T := F_Ag) (N := 12) (k := 2) (ty := t_Ag) rfl in_Ag t_Ag_ok n_Ag (by decide) rfl w_137 rfl (Or.inr (Or.inl ⟨rfl, rfl⟩)) (by decide +kernel)) ?_
  refine z_k (S_aload_n cx (k := 0) (by decide +kernel) rfl) ?_
  refine z_k (S_push cx (n := 0) (by decide +kernel) (by decide)) ?_
  refine z_k (S_putf cx (T := F_Ag) (N := 12) (k := 3) (ty := t_Ag) rfl in_Ag t_Ag_ok n_Ag (by decide) rfl w_139 rfl (Or.inl ⟨rfl, rfl⟩) (by decide +kernel)) ?_
  refine z_k (S_aload_n cx (k := 0) (by decide +kernel) rfl) ?_
  refine z_k (S_push cx (n := 0) (by decide +kernel) (by decide)) ?_
  refine z_k (S_putf cx (T := F_Ag) (N := 12) (k := 4) (ty := t_Ag) rfl in_Ag t_Ag_ok n_Ag (by decide) rfl w_140 rfl (Or.inl ⟨rfl, rfl⟩) (by decide +kernel)) ?_
  refine z_k (S_aload_n cx (k := 0) (by decide +kernel) rfl) ?_
  refine z_k (S_push cx (n := 0) (by decide +kernel) (by decide)) ?_
  refine z_k (S_putf cx (T := F_Ag) (N := 12) (k := 5) (ty := t_Ag) rfl in_Ag t_Ag_ok n_Ag (by decide) rfl w_141 rfl (Or.inl ⟨rfl, rfl⟩) (by decide +kernel)) ?_
  refine z_k (S_aload_n cx (k := 0) (by decide +kernel) rfl) ?_
  refine z_k (S_push cx (n := 0) (by decide +kernel) (by decide)) ?_
  refine z_k (S_putf cx (T := F_Ag) (N := 12) (k := 6) (ty := t_Ag) rfl in_Ag t_Ag_ok n_Ag (by decide) rfl w_143 rfl (Or.inl ⟨rfl, rfl⟩) (by decide +kernel)) ?_
  refine z_k (S_aload_n cx (k := 0) (by decide +kernel) rfl) ?_
  refine z_k (S_push cx (n := 0) (by decide +kernel) (by decide)) ?_
  refine z_k (S_putf cx (T := F_Ag) (N := 12) (k := 7) (ty := t_Ag) rfl in_Ag t_Ag_ok n_Ag (by decide) rfl w_144 rfl (Or.inl ⟨rfl, rfl⟩) (by decide +kernel)) ?_
  refine z_k (S_aload_n cx (k := 0) (by decide +kernel) rfl) ?_
  exact z_k0
set_option maxRecDepth 100000 in
set_option maxHeartbeats 4000000 in
theorem s_Ag_init_1 (cx : z_cx zTab g d p l e R s m args below meth c prog_2_method_1_code "SealedTalks$Agreement" 2) (hn : meth.name = "<init>") (hf : z_fin g p l e R s m args below meth c Q prog_2_method_1_code P none) : ∀ x ∈ k_Ag_init_1, z_sn zTab g d p l e R s m args below meth c Q 2 P x := by
  unfold k_Ag_init_1
  refine z_k (S_push cx (n := 0) (by decide +kernel) (by decide)) ?_
  refine z_k (S_putf cx (T := F_Ag) (N := 12) (k := 8) (ty := t_Ag) rfl in_Ag t_Ag_ok n_Ag (by decide) rfl w_145 rfl (Or.inl ⟨rfl, rfl⟩) (by decide +kernel)) ?_
  refine z_k (S_aload_n cx (k := 0) (by decide +kernel) rfl) ?_
  refine z_k (S_push cx (n := 0) (by decide +kernel) (by decide)) ?_
  refine z_k (S_putf cx (T := F_Ag) (N := 12) (k := 9) (ty := t_Ag) rfl in_Ag t_Ag_ok n_Ag (by decide) rfl w_147 rfl (Or.inl ⟨rfl, rfl⟩) (by decide +kernel)) ?_
  refine z_k (S_aload_n cx (k := 0) (by decide +kernel) rfl) ?_
  refine z_k (S_push cx (n := 0) (by decide +kernel) (by decide)) ?_
  refine z_k (S_putf cx (T := F_Ag) (N := 12) (k := 10) (ty := t_Ag) rfl in_Ag t_Ag_ok n_Ag (by decide) rfl w_148 rfl (Or.inl ⟨rfl, rfl⟩) (by decide +kernel)) ?_
  refine z_k (S_aload_n cx (k := 0) (by decide +kernel) rfl) ?_
  refine z_k (S_push cx (n := 0) (by decide +kernel) (by decide)) ?_
  refine z_k (S_putf cx (T := F_Ag) (N := 12) (k := 11) (ty := t_Ag) rfl in_Ag t_Ag_ok n_Ag (by decide) rfl w_149 rfl (Or.inl ⟨rfl, rfl⟩) (by decide +kernel)) ?_
  refine z_k (S_aload_n cx (k := 0) (by decide +kernel) rfl) ?_
  refine z_k (S_aload_n cx (k := 1) (by decide +kernel) rfl) ?_
  refine z_k (S_putF cx (T := F_Ag) (N := 12) (k := 0) (ty := t_Ag) rfl in_Ag t_Ag_ok n_Ag (by decide) rfl w_135 rfl hn rfl (Or.inr (Or.inr ⟨rfl, Or.inl ⟨_, rfl⟩⟩)) (by decide +kernel)) ?_
  refine z_k (S_vret (hf.1 rfl) (by decide +kernel)) ?_
  exact z_k0
theorem s_Ag_init : z_snd zTab r_Ag_init := ⟨by decide +kernel, w_133, fun g d p l e R s m args below meth c Q P cx hn hf => z_k (s_Ag_init_0 cx hn hf) (z_k (s_Ag_init_1 cx hn hf) (z_k0))⟩
set_option maxRecDepth 100000 in
set_option maxHeartbeats 4000000 in
theorem s_Ag_begin_0 (cx : z_cx zTab g d p l e R s m args below meth c prog_2_method_2_code "SealedTalks$Agreement" 6) (hn : meth.name = "begin") (hf : z_fin g p l e R s m args below meth c Q prog_2_method_2_code P none) : ∀ x ∈ k_Ag_begin_0, z_sn zTab g d p l e R s m args below meth c Q 6 P x := by
  unfold k_Ag_begin_0
  refine z_k (S_aload_n cx (k := 0) (by decide +kernel) rfl) ?_
  refine z_k (S_iload_n cx (k := 1) (by decide +kernel) rfl) ?_
  refine z_k (S_putf cx (T := F_Ag) (N := 12) (k := 1) (ty := t_Ag) rfl in_Ag t_Ag_ok n_Ag (by decide) rfl w_136 rfl (Or.inl ⟨rfl, rfl⟩) (by decide +kernel)) ?_
  refine z_k (S_aload_n cx (k := 0) (by decide +kernel) rfl) ?_
  refine z_k (S_iload_n cx (k := 2) (by decide +kernel) rfl) ?_
  refine z_k (S_putf cx (T := F_Ag) (N := 12) (k := 2) (ty := t_Ag) rfl in_Ag t_Ag_ok n_Ag (by decide) rfl w_137 rfl (Or.inr (Or.inl ⟨rfl, rfl⟩)) (by decide +kernel)) ?_
  refine z_k (S_aload_n cx (k := 0) (by decide +kernel) rfl) ?_
  refine z_k (S_iload_n cx (k := 3) (by decide +kernel) rfl) ?_
  refine z_k (S_putf cx (T := F_Ag) (N := 12) (k := 3) (ty := t_Ag) rfl in_Ag t_Ag_ok n_Ag (by decide) rfl w_139 rfl (Or.inl ⟨rfl, rfl⟩) (by decide +kernel)) ?_
  refine z_k (S_aload_n cx (k := 0) (by decide +kernel) rfl) ?_
  refine z_k (S_iload cx (by decide +kernel)) ?_
  refine z_k (S_putf cx (T := F_Ag) (N := 12) (k := 5) (ty := t_Ag) rfl in_Ag t_Ag_ok n_Ag (by decide) rfl w_141 rfl (Or.inl ⟨rfl, rfl⟩) (by decide +kernel)) ?_
  refine z_k (S_aload_n cx (k := 0) (by decide +kernel) rfl) ?_
  refine z_k (S_aload_n cx (k := 0) (by decide +kernel) rfl) ?_
  refine z_k (S_getf cx (T := F_Ag) (N := 12) (k := 0) rfl in_Ag (by decide) rfl w_135 (by decide +kernel)) ?_
  refine z_k (S_aload_n cx (k := 0) (by decide +kernel) rfl) ?_
  refine z_k (S_getf cx (T := F_Ag) (N := 12) (k := 1) rfl in_Ag (by decide) rfl w_136 (by decide +kernel)) ?_
  refine z_k (S_callV cx (T := F_Te) (N := 11) (r := r_Te_num) rfl ⟨w_213, w_2, by decide, by decide +kernel⟩ w_210 w_211 w_212 rfl (by decide +kernel)) ?_
  refine z_k (S_putf cx (T := F_Ag) (N := 12) (k := 8) (ty := t_Ag) rfl in_Ag t_Ag_ok n_Ag (by decide) rfl w_145 rfl (Or.inl ⟨rfl, rfl⟩) (by decide +kernel)) ?_
  refine z_k (S_aload_n cx (k := 0) (by decide +kernel) rfl) ?_
  refine z_k (S_aload_n cx (k := 0) (by decide +kernel) rfl) ?_
  refine z_k (S_getf cx (T := F_Ag) (N := 12) (k := 0) rfl in_Ag (by decide) rfl w_135 (by decide +kernel)) ?_
  refine z_k (S_aload_n cx (k := 0) (by decide +kernel) rfl) ?_
  refine z_k (S_getf cx (T := F_Ag) (N := 12) (k := 8) rfl in_Ag (by decide) rfl w_145 (by decide +kernel)) ?_
  exact z_k0
set_option maxRecDepth 100000 in
set_option maxHeartbeats 4000000 in
theorem s_Ag_begin_1 (cx : z_cx zTab g d p l e R s m args below meth c prog_2_method_2_code "SealedTalks$Agreement" 6) (hn : meth.name = "begin") (hf : z_fin g p l e R s m args below meth c Q prog_2_method_2_code P none) : ∀ x ∈ k_Ag_begin_1, z_sn zTab g d p l e R s m args below meth c Q 6 P x := by
  unfold k_Ag_begin_1
  refine z_k (S_aload_n cx (k := 0) (by decide +kernel) rfl) ?_
  refine z_k (S_getf cx (T := F_Ag) (N := 12) (k := 0) rfl in_Ag (by decide) rfl w_135 (by decide +kernel)) ?_
  refine z_k (S_iload cx (by decide +kernel)) ?_
  refine z_k (S_callV cx (T := F_Te) (N := 11) (r := r_Te_num) rfl ⟨w_213, w_2, by decide, by decide +kernel⟩ w_210 w_211 w_212 rfl (by decide +kernel)) ?_
  refine z_k (S_callV cx (T := F_Te) (N := 11) (r := r_Te_hash) rfl ⟨w_228, w_2, by decide, by decide +kernel⟩ w_225 w_226 w_227 rfl (by decide +kernel)) ?_
  refine z_k (S_putf cx (T := F_Ag) (N := 12) (k := 7) (ty := t_Ag) rfl in_Ag t_Ag_ok n_Ag (by decide) rfl w_144 rfl (Or.inl ⟨rfl, rfl⟩) (by decide +kernel)) ?_
  refine z_k (S_aload_n cx (k := 0) (by decide +kernel) rfl) ?_
  refine z_k (S_getf cx (T := F_Ag) (N := 12) (k := 1) rfl in_Ag (by decide) rfl w_136 (by decide +kernel)) ?_
  refine z_k (S_push cx (n := 1) (by decide +kernel) (by decide)) ?_
  refine z_k (S_icmp_ne cx (off := 43) (by decide +kernel) (by decide)) ?_
  refine z_k (S_aload_n cx (k := 0) (by decide +kernel) rfl) ?_
  refine z_k (S_aload_n cx (k := 0) (by decide +kernel) rfl) ?_
  refine z_k (S_getf cx (T := F_Ag) (N := 12) (k := 0) rfl in_Ag (by decide) rfl w_135 (by decide +kernel)) ?_
  refine z_k (S_aload_n cx (k := 0) (by decide +kernel) rfl) ?_
  refine z_k (S_getf cx (T := F_Ag) (N := 12) (k := 7) rfl in_Ag (by decide) rfl w_144 (by decide +kernel)) ?_
  refine z_k (S_aload_n cx (k := 0) (by decide +kernel) rfl) ?_
  refine z_k (S_getf cx (T := F_Ag) (N := 12) (k := 0) rfl in_Ag (by decide) rfl w_135 (by decide +kernel)) ?_
  refine z_k (S_aload_n cx (k := 0) (by decide +kernel) rfl) ?_
  refine z_k (S_getf cx (T := F_Ag) (N := 12) (k := 2) rfl in_Ag (by decide) rfl w_137 (by decide +kernel)) ?_
  refine z_k (S_if_eq cx (off := 10) (by decide +kernel) (by decide)) ?_
  refine z_k (S_aload_n cx (k := 0) (by decide +kernel) rfl) ?_
  refine z_k (S_getf cx (T := F_Ag) (N := 12) (k := 5) rfl in_Ag (by decide) rfl w_141 (by decide +kernel)) ?_
  refine z_k (S_goto cx (off := 7) (by decide +kernel) (by decide)) ?_
  refine z_k (S_aload_n cx (k := 0) (by decide +kernel) rfl) ?_
  exact z_k0
set_option maxRecDepth 100000 in
set_option maxHeartbeats 4000000 in
theorem s_Ag_begin_2 (cx : z_cx zTab g d p l e R s m args below meth c prog_2_method_2_code "SealedTalks$Agreement" 6) (hn : meth.name = "begin") (hf : z_fin g p l e R s m args below meth c Q prog_2_method_2_code P none) : ∀ x ∈ k_Ag_begin_2, z_sn zTab g d p l e R s m args below meth c Q 6 P x := by
  unfold k_Ag_begin_2
  refine z_k (S_getf cx (T := F_Ag) (N := 12) (k := 3) rfl in_Ag (by decide) rfl w_139 (by decide +kernel)) ?_
  refine z_k (S_callV cx (T := F_Te) (N := 11) (r := r_Te_pub) rfl ⟨w_232, w_2, by decide, by decide +kernel⟩ w_229 w_230 w_231 rfl (by decide +kernel)) ?_
  refine z_k (S_callV cx (T := F_Te) (N := 11) (r := r_Te_hash) rfl ⟨w_228, w_2, by decide, by decide +kernel⟩ w_225 w_226 w_227 rfl (by decide +kernel)) ?_
  refine z_k (S_putf cx (T := F_Ag) (N := 12) (k := 7) (ty := t_Ag) rfl in_Ag t_Ag_ok n_Ag (by decide) rfl w_144 rfl (Or.inl ⟨rfl, rfl⟩) (by decide +kernel)) ?_
  refine z_k (S_vret (hf.1 rfl) (by decide +kernel)) ?_
  exact z_k0
theorem s_Ag_begin : z_snd zTab r_Ag_begin := ⟨by decide +kernel, w_209, fun g d p l e R s m args below meth c Q P cx hn hf => z_k (s_Ag_begin_0 cx hn hf) (z_k (s_Ag_begin_1 cx hn hf) (z_k (s_Ag_begin_2 cx hn hf) (z_k0)))⟩
set_option maxRecDepth 100000 in
set_option maxHeartbeats 4000000 in
theorem s_Ag_copyFrom_0 (cx : z_cx zTab g d p l e R s m args below meth c prog_2_method_3_code "SealedTalks$Agreement" 2) (hn : meth.name = "copyFrom") (hf : z_fin g p l e R s m args below meth c Q prog_2_method_3_code P none) : ∀ x ∈ k_Ag_copyFrom_0, z_sn zTab g d p l e R s m args below meth c Q 2 P x := by
  unfold k_Ag_copyFrom_0
  refine z_k (S_aload_n cx (k := 0) (by decide +kernel) rfl) ?_
  refine z_k (S_aload_n cx (k := 1) (by decide +kernel) rfl) ?_
  refine z_k (S_getf cx (T := F_Ag) (N := 12) (k := 1) rfl in_Ag (by decide) rfl w_136 (by decide +kernel)) ?_
  refine z_k (S_putf cx (T := F_Ag) (N := 12) (k := 1) (ty := t_Ag) rfl in_Ag t_Ag_ok n_Ag (by decide) rfl w_136 rfl (Or.inl ⟨rfl, rfl⟩) (by decide +kernel)) ?_
  refine z_k (S_aload_n cx (k := 0) (by decide +kernel) rfl) ?_
  refine z_k (S_aload_n cx (k := 1) (by decide +kernel) rfl) ?_
  refine z_k (S_getf cx (T := F_Ag) (N := 12) (k := 2) rfl in_Ag (by decide) rfl w_137 (by decide +kernel)) ?_
  refine z_k (S_putf cx (T := F_Ag) (N := 12) (k := 2) (ty := t_Ag) rfl in_Ag t_Ag_ok n_Ag (by decide) rfl w_137 rfl (Or.inr (Or.inl ⟨rfl, rfl⟩)) (by decide +kernel)) ?_
  refine z_k (S_aload_n cx (k := 0) (by decide +kernel) rfl) ?_
  refine z_k (S_aload_n cx (k := 1) (by decide +kernel) rfl) ?_
  refine z_k (S_getf cx (T := F_Ag) (N := 12) (k := 3) rfl in_Ag (by decide) rfl w_139 (by decide +kernel)) ?_
  refine z_k (S_putf cx (T := F_Ag) (N := 12) (k := 3) (ty := t_Ag) rfl in_Ag t_Ag_ok n_Ag (by decide) rfl w_139 rfl (Or.inl ⟨rfl, rfl⟩) (by decide +kernel)) ?_
  refine z_k (S_aload_n cx (k := 0) (by decide +kernel) rfl) ?_
  refine z_k (S_aload_n cx (k := 1) (by decide +kernel) rfl) ?_
  refine z_k (S_getf cx (T := F_Ag) (N := 12) (k := 4) rfl in_Ag (by decide) rfl w_140 (by decide +kernel)) ?_
  refine z_k (S_putf cx (T := F_Ag) (N := 12) (k := 4) (ty := t_Ag) rfl in_Ag t_Ag_ok n_Ag (by decide) rfl w_140 rfl (Or.inl ⟨rfl, rfl⟩) (by decide +kernel)) ?_
  refine z_k (S_aload_n cx (k := 0) (by decide +kernel) rfl) ?_
  refine z_k (S_aload_n cx (k := 1) (by decide +kernel) rfl) ?_
  refine z_k (S_getf cx (T := F_Ag) (N := 12) (k := 5) rfl in_Ag (by decide) rfl w_141 (by decide +kernel)) ?_
  refine z_k (S_putf cx (T := F_Ag) (N := 12) (k := 5) (ty := t_Ag) rfl in_Ag t_Ag_ok n_Ag (by decide) rfl w_141 rfl (Or.inl ⟨rfl, rfl⟩) (by decide +kernel)) ?_
  refine z_k (S_aload_n cx (k := 0) (by decide +kernel) rfl) ?_
  refine z_k (S_aload_n cx (k := 1) (by decide +kernel) rfl) ?_
  refine z_k (S_getf cx (T := F_Ag) (N := 12) (k := 6) rfl in_Ag (by decide) rfl w_143 (by decide +kernel)) ?_
  refine z_k (S_putf cx (T := F_Ag) (N := 12) (k := 6) (ty := t_Ag) rfl in_Ag t_Ag_ok n_Ag (by decide) rfl w_143 rfl (Or.inl ⟨rfl, rfl⟩) (by decide +kernel)) ?_
  exact z_k0
set_option maxRecDepth 100000 in
set_option maxHeartbeats 4000000 in
theorem s_Ag_copyFrom_1 (cx : z_cx zTab g d p l e R s m args below meth c prog_2_method_3_code "SealedTalks$Agreement" 2) (hn : meth.name = "copyFrom") (hf : z_fin g p l e R s m args below meth c Q prog_2_method_3_code P none) : ∀ x ∈ k_Ag_copyFrom_1, z_sn zTab g d p l e R s m args below meth c Q 2 P x := by
  unfold k_Ag_copyFrom_1
  refine z_k (S_aload_n cx (k := 0) (by decide +kernel) rfl) ?_
  refine z_k (S_aload_n cx (k := 1) (by decide +kernel) rfl) ?_
  refine z_k (S_getf cx (T := F_Ag) (N := 12) (k := 7) rfl in_Ag (by decide) rfl w_144 (by decide +kernel)) ?_
  refine z_k (S_putf cx (T := F_Ag) (N := 12) (k := 7) (ty := t_Ag) rfl in_Ag t_Ag_ok n_Ag (by decide) rfl w_144 rfl (Or.inl ⟨rfl, rfl⟩) (by decide +kernel)) ?_
  refine z_k (S_aload_n cx (k := 0) (by decide +kernel) rfl) ?_
  refine z_k (S_aload_n cx (k := 1) (by decide +kernel) rfl) ?_
  refine z_k (S_getf cx (T := F_Ag) (N := 12) (k := 8) rfl in_Ag (by decide) rfl w_145 (by decide +kernel)) ?_
  refine z_k (S_putf cx (T := F_Ag) (N := 12) (k := 8) (ty := t_Ag) rfl in_Ag t_Ag_ok n_Ag (by decide) rfl w_145 rfl (Or.inl ⟨rfl, rfl⟩) (by decide +kernel)) ?_
  refine z_k (S_aload_n cx (k := 0) (by decide +kernel) rfl) ?_
  refine z_k (S_aload_n cx (k := 1) (by decide +kernel) rfl) ?_
  refine z_k (S_getf cx (T := F_Ag) (N := 12) (k := 9) rfl in_Ag (by decide) rfl w_147 (by decide +kernel)) ?_
  refine z_k (S_putf cx (T := F_Ag) (N := 12) (k := 9) (ty := t_Ag) rfl in_Ag t_Ag_ok n_Ag (by decide) rfl w_147 rfl (Or.inl ⟨rfl, rfl⟩) (by decide +kernel)) ?_
  refine z_k (S_aload_n cx (k := 0) (by decide +kernel) rfl) ?_
  refine z_k (S_aload_n cx (k := 1) (by decide +kernel) rfl) ?_
  refine z_k (S_getf cx (T := F_Ag) (N := 12) (k := 10) rfl in_Ag (by decide) rfl w_148 (by decide +kernel)) ?_
  refine z_k (S_putf cx (T := F_Ag) (N := 12) (k := 10) (ty := t_Ag) rfl in_Ag t_Ag_ok n_Ag (by decide) rfl w_148 rfl (Or.inl ⟨rfl, rfl⟩) (by decide +kernel)) ?_
  refine z_k (S_aload_n cx (k := 0) (by decide +kernel) rfl) ?_
  refine z_k (S_aload_n cx (k := 1) (by decide +kernel) rfl) ?_
  refine z_k (S_getf cx (T := F_Ag) (N := 12) (k := 11) rfl in_Ag (by decide) rfl w_149 (by decide +kernel)) ?_
  refine z_k (S_putf cx (T := F_Ag) (N := 12) (k := 11) (ty := t_Ag) rfl in_Ag t_Ag_ok n_Ag (by decide) rfl w_149 rfl (Or.inl ⟨rfl, rfl⟩) (by decide +kernel)) ?_
  refine z_k (S_vret (hf.1 rfl) (by decide +kernel)) ?_
  exact z_k0
theorem s_Ag_copyFrom : z_snd zTab r_Ag_copyFrom := ⟨by decide +kernel, w_398, fun g d p l e R s m args below meth c Q P cx hn hf => z_k (s_Ag_copyFrom_0 cx hn hf) (z_k (s_Ag_copyFrom_1 cx hn hf) (z_k0))⟩
set_option maxRecDepth 100000 in
set_option maxHeartbeats 4000000 in
theorem s_Ag_isDone_0 (cx : z_cx zTab g d p l e R s m args below meth c prog_2_method_4_code "SealedTalks$Agreement" 1) (hn : meth.name = "isDone") (hf : z_fin g p l e R s m args below meth c Q prog_2_method_4_code P (some .boolean)) : ∀ x ∈ k_Ag_isDone_0, z_sn zTab g d p l e R s m args below meth c Q 1 P x := by
  unfold k_Ag_isDone_0
  refine z_k (S_aload_n cx (k := 0) (by decide +kernel) rfl) ?_
  refine z_k (S_getf cx (T := F_Ag) (N := 12) (k := 11) rfl in_Ag (by decide) rfl w_149 (by decide +kernel)) ?_
  refine z_k (S_aload_n cx (k := 0) (by decide +kernel) rfl) ?_
  refine z_k (S_getf cx (T := F_Ag) (N := 12) (k := 1) rfl in_Ag (by decide) rfl w_136 (by decide +kernel)) ?_
  refine z_k (S_if_ne cx (off := 7) (by decide +kernel) (by decide)) ?_
  refine z_k (S_push cx (n := 3) (by decide +kernel) (by decide)) ?_
  refine z_k (S_goto cx (off := 4) (by decide +kernel) (by decide)) ?_
  refine z_k (S_push cx (n := 2) (by decide +kernel) (by decide)) ?_
  refine z_k (S_icmp_lt cx (off := 7) (by decide +kernel) (by decide)) ?_
  refine z_k (S_push cx (n := 1) (by decide +kernel) (by decide)) ?_
  refine z_k (S_goto cx (off := 4) (by decide +kernel) (by decide)) ?_
  refine z_k (S_push cx (n := 0) (by decide +kernel) (by decide)) ?_
  refine z_k (S_zret (hf.2.2.1 rfl) (by decide +kernel)) ?_
  exact z_k0
theorem s_Ag_isDone : z_snd zTab r_Ag_isDone := ⟨by decide +kernel, w_248, fun g d p l e R s m args below meth c Q P cx hn hf => z_k (s_Ag_isDone_0 cx hn hf) (z_k0)⟩
set_option maxRecDepth 100000 in
set_option maxHeartbeats 4000000 in
theorem s_Ag_isOwnTurn_0 (cx : z_cx zTab g d p l e R s m args below meth c prog_2_method_5_code "SealedTalks$Agreement" 1) (hn : meth.name = "isOwnTurn") (hf : z_fin g p l e R s m args below meth c Q prog_2_method_5_code P (some .boolean)) : ∀ x ∈ k_Ag_isOwnTurn_0, z_sn zTab g d p l e R s m args below meth c Q 1 P x := by
  unfold k_Ag_isOwnTurn_0
  refine z_k (S_aload_n cx (k := 0) (by decide +kernel) rfl) ?_
  refine z_k (S_callV cx (T := F_Ag) (N := 12) (r := r_Ag_isDone) rfl ⟨w_248, w_7, by decide, by decide +kernel⟩ w_245 w_246 w_247 rfl (by decide +kernel)) ?_
  refine z_k (S_if_ne cx (off := 28) (by decide +kernel) (by decide)) ?_
  refine z_k (S_aload_n cx (k := 0) (by decide +kernel) rfl) ?_
  refine z_k (S_getf cx (T := F_Ag) (N := 12) (k := 2) rfl in_Ag (by decide) rfl w_137 (by decide +kernel)) ?_
  refine z_k (S_aload_n cx (k := 0) (by decide +kernel) rfl) ?_
  refine z_k (S_getf cx (T := F_Ag) (N := 12) (k := 11) rfl in_Ag (by decide) rfl w_149 (by decide +kernel)) ?_
  refine z_k (S_push cx (n := 2) (by decide +kernel) (by decide)) ?_
  refine z_k (S_irem cx (by decide +kernel)) ?_
  refine z_k (S_if_ne cx (off := 7) (by decide +kernel) (by decide)) ?_
  refine z_k (S_push cx (n := 1) (by decide +kernel) (by decide)) ?_
  refine z_k (S_goto cx (off := 4) (by decide +kernel) (by decide)) ?_
  refine z_k (S_push cx (n := 0) (by decide +kernel) (by decide)) ?_
  refine z_k (S_icmp_ne cx (off := 7) (by decide +kernel) (by decide)) ?_
  refine z_k (S_push cx (n := 1) (by decide +kernel) (by decide)) ?_
  refine z_k (S_goto cx (off := 4) (by decide +kernel) (by decide)) ?_
  refine z_k (S_push cx (n := 0) (by decide +kernel) (by decide)) ?_
  refine z_k (S_zret (hf.2.2.1 rfl) (by decide +kernel)) ?_
  exact z_k0
theorem s_Ag_isOwnTurn : z_snd zTab r_Ag_isOwnTurn := ⟨by decide +kernel, w_244, fun g d p l e R s m args below meth c Q P cx hn hf => z_k (s_Ag_isOwnTurn_0 cx hn hf) (z_k0)⟩
set_option maxRecDepth 100000 in
set_option maxHeartbeats 4000000 in
theorem s_Ag_writeNext_0 (cx : z_cx zTab g d p l e R s m args below meth c prog_2_method_6_code "SealedTalks$Agreement" 5) (hn : meth.name = "writeNext") (hf : z_fin g p l e R s m args below meth c Q prog_2_method_6_code P none) : ∀ x ∈ k_Ag_writeNext_0, z_sn zTab g d p l e R s m args below meth c Q 5 P x := by
  unfold k_Ag_writeNext_0
  refine z_k (S_push cx (n := 0) (by decide +kernel) (by decide)) ?_
  refine z_k (S_istore_n cx (by decide) (k := 3) (by decide +kernel) rfl) ?_
  refine z_k (S_iload_n cx (k := 3) (by decide +kernel) rfl) ?_
  refine z_k (S_push cx (n := 4) (by decide +kernel) (by decide)) ?_
  refine z_k (S_icmp_ge cx (off := 92) (by decide +kernel) (by decide)) ?_
  refine z_k (S_aload_n cx (k := 0) (by decide +kernel) rfl) ?_
  refine z_k (S_iload_n cx (k := 3) (by decide +kernel) rfl) ?_
  refine z_k (S_callV cx (T := F_Ag) (N := 12) (r := r_Ag_tokenAt) rfl ⟨w_264, w_7, by decide, by decide +kernel⟩ w_261 w_263 wp_3 rfl (by decide +kernel)) ?_
  refine z_k (S_istore cx (by decide) (by decide +kernel)) ?_
  refine z_k (S_iload cx (by decide +kernel)) ?_
  refine z_k (S_push cx (n := 1) (by decide +kernel) (by decide)) ?_
  refine z_k (S_icmp_ne cx (off := 33) (by decide +kernel) (by decide)) ?_
  refine z_k (S_aload_n cx (k := 0) (by decide +kernel) rfl) ?_
  refine z_k (S_aload_n cx (k := 0) (by decide +kernel) rfl) ?_
  refine z_k (S_getf cx (T := F_Ag) (N := 12) (k := 0) rfl in_Ag (by decide) rfl w_135 (by decide +kernel)) ?_
  refine z_k (S_callV cx (T := F_Te) (N := 11) (r := r_Te_makeKey) rfl ⟨w_270, w_2, by decide, by decide +kernel⟩ w_267 w_268 w_269 rfl (by decide +kernel)) ?_
  refine z_k (S_putf cx (T := F_Ag) (N := 12) (k := 4) (ty := t_Ag) rfl in_Ag t_Ag_ok n_Ag (by decide) rfl w_140 rfl (Or.inl ⟨rfl, rfl⟩) (by decide +kernel)) ?_
  refine z_k (S_aload_n cx (k := 0) (by decide +kernel) rfl) ?_
  refine z_k (S_aload_n cx (k := 1) (by decide +kernel) rfl) ?_
  refine z_k (S_aload_n cx (k := 0) (by decide +kernel) rfl) ?_
  refine z_k (S_getf cx (T := F_Ag) (N := 12) (k := 0) rfl in_Ag (by decide) rfl w_135 (by decide +kernel)) ?_
  refine z_k (S_aload_n cx (k := 0) (by decide +kernel) rfl) ?_
  refine z_k (S_getf cx (T := F_Ag) (N := 12) (k := 4) rfl in_Ag (by decide) rfl w_140 (by decide +kernel)) ?_
  refine z_k (S_callV cx (T := F_Te) (N := 11) (r := r_Te_pub) rfl ⟨w_232, w_2, by decide, by decide +kernel⟩ w_229 w_230 w_231 rfl (by decide +kernel)) ?_
  exact z_k0
set_option maxRecDepth 100000 in
set_option maxHeartbeats 4000000 in
theorem s_Ag_writeNext_1 (cx : z_cx zTab g d p l e R s m args below meth c prog_2_method_6_code "SealedTalks$Agreement" 5) (hn : meth.name = "writeNext") (hf : z_fin g p l e R s m args below meth c Q prog_2_method_6_code P none) : ∀ x ∈ k_Ag_writeNext_1, z_sn zTab g d p l e R s m args below meth c Q 5 P x := by
  unfold k_Ag_writeNext_1
  refine z_k (S_callV cx (T := F_Ag) (N := 12) (r := r_Ag_addPart) rfl ⟨w_274, w_7, by decide, by decide +kernel⟩ w_271 w_273 wp_4 rfl (by decide +kernel)) ?_
  refine z_k (S_goto cx (off := 43) (by decide +kernel) (by decide)) ?_
  refine z_k (S_iload cx (by decide +kernel)) ?_
  refine z_k (S_push cx (n := 2) (by decide +kernel) (by decide)) ?_
  refine z_k (S_icmp_ne cx (off := 26) (by decide +kernel) (by decide)) ?_
  refine z_k (S_aload_n cx (k := 0) (by decide +kernel) rfl) ?_
  refine z_k (S_aload_n cx (k := 1) (by decide +kernel) rfl) ?_
  refine z_k (S_aload_n cx (k := 0) (by decide +kernel) rfl) ?_
  refine z_k (S_aload_n cx (k := 0) (by decide +kernel) rfl) ?_
  refine z_k (S_getf cx (T := F_Ag) (N := 12) (k := 0) rfl in_Ag (by decide) rfl w_135 (by decide +kernel)) ?_
  refine z_k (S_aload_n cx (k := 0) (by decide +kernel) rfl) ?_
  refine z_k (S_getf cx (T := F_Ag) (N := 12) (k := 3) rfl in_Ag (by decide) rfl w_139 (by decide +kernel)) ?_
  refine z_k (S_callV cx (T := F_Te) (N := 11) (r := r_Te_pub) rfl ⟨w_232, w_2, by decide, by decide +kernel⟩ w_229 w_230 w_231 rfl (by decide +kernel)) ?_
  refine z_k (S_callV cx (T := F_Ag) (N := 12) (r := r_Ag_closedUp) rfl ⟨w_283, w_7, by decide, by decide +kernel⟩ w_280 w_282 wp_5 rfl (by decide +kernel)) ?_
  refine z_k (S_callV cx (T := F_Ag) (N := 12) (r := r_Ag_addPart) rfl ⟨w_274, w_7, by decide, by decide +kernel⟩ w_271 w_273 wp_4 rfl (by decide +kernel)) ?_
  refine z_k (S_goto cx (off := 14) (by decide +kernel) (by decide)) ?_
  refine z_k (S_iload cx (by decide +kernel)) ?_
  refine z_k (S_if_eq cx (off := 9) (by decide +kernel) (by decide)) ?_
  refine z_k (S_aload_n cx (k := 0) (by decide +kernel) rfl) ?_
  refine z_k (S_iload cx (by decide +kernel)) ?_
  refine z_k (S_callV cx (T := F_Ag) (N := 12) (r := r_Ag_mixKeys) rfl ⟨w_291, w_7, by decide, by decide +kernel⟩ w_288 w_290 wp_6 rfl (by decide +kernel)) ?_
  refine z_k (S_iinc cx (n := 1) (by decide) (by decide +kernel) (by decide)) ?_
  refine z_k (S_goto cx (off := -91) (by decide +kernel) (by decide)) ?_
  refine z_k (S_aload_n cx (k := 0) (by decide +kernel) rfl) ?_
  exact z_k0
set_option maxRecDepth 100000 in
set_option maxHeartbeats 4000000 in
theorem s_Ag_writeNext_2 (cx : z_cx zTab g d p l e R s m args below meth c prog_2_method_6_code "SealedTalks$Agreement" 5) (hn : meth.name = "writeNext") (hf : z_fin g p l e R s m args below meth c Q prog_2_method_6_code P none) : ∀ x ∈ k_Ag_writeNext_2, z_sn zTab g d p l e R s m args below meth c Q 5 P x := by
  unfold k_Ag_writeNext_2
  refine z_k (S_aload_n cx (k := 1) (by decide +kernel) rfl) ?_
  refine z_k (S_aload_n cx (k := 0) (by decide +kernel) rfl) ?_
  refine z_k (S_aload_n cx (k := 0) (by decide +kernel) rfl) ?_
  refine z_k (S_getf cx (T := F_Ag) (N := 12) (k := 0) rfl in_Ag (by decide) rfl w_135 (by decide +kernel)) ?_
  refine z_k (S_iload_n cx (k := 2) (by decide +kernel) rfl) ?_
  refine z_k (S_callV cx (T := F_Te) (N := 11) (r := r_Te_num) rfl ⟨w_213, w_2, by decide, by decide +kernel⟩ w_210 w_211 w_212 rfl (by decide +kernel)) ?_
  refine z_k (S_callV cx (T := F_Ag) (N := 12) (r := r_Ag_closedUp) rfl ⟨w_283, w_7, by decide, by decide +kernel⟩ w_280 w_282 wp_5 rfl (by decide +kernel)) ?_
  refine z_k (S_callV cx (T := F_Ag) (N := 12) (r := r_Ag_addPart) rfl ⟨w_274, w_7, by decide, by decide +kernel⟩ w_271 w_273 wp_4 rfl (by decide +kernel)) ?_
  refine z_k (S_aload_n cx (k := 0) (by decide +kernel) rfl) ?_
  refine z_k (S_dup cx (by decide +kernel)) ?_
  refine z_k (S_getf cx (T := F_Ag) (N := 12) (k := 11) rfl in_Ag (by decide) rfl w_149 (by decide +kernel)) ?_
  refine z_k (S_push cx (n := 1) (by decide +kernel) (by decide)) ?_
  refine z_k (S_iadd cx (by decide +kernel)) ?_
  refine z_k (S_putf cx (T := F_Ag) (N := 12) (k := 11) (ty := t_Ag) rfl in_Ag t_Ag_ok n_Ag (by decide) rfl w_149 rfl (Or.inl ⟨rfl, rfl⟩) (by decide +kernel)) ?_
  refine z_k (S_vret (hf.1 rfl) (by decide +kernel)) ?_
  exact z_k0
theorem s_Ag_writeNext : z_snd zTab r_Ag_writeNext := ⟨by decide +kernel, w_260, fun g d p l e R s m args below meth c Q P cx hn hf => z_k (s_Ag_writeNext_0 cx hn hf) (z_k (s_Ag_writeNext_1 cx hn hf) (z_k (s_Ag_writeNext_2 cx hn hf) (z_k0)))⟩
set_option maxRecDepth 100000 in
set_option maxHeartbeats 4000000 in
theorem s_Ag_readNext_0 (cx : z_cx zTab g d p l e R s m args below meth c prog_2_method_7_code "SealedTalks$Agreement" 6) (hn : meth.name = "readNext") (hf : z_fin g p l e R s m args below meth c Q prog_2_method_7_code P (some .int)) : ∀ x ∈ k_Ag_readNext_0, z_sn zTab g d p l e R s m args below meth c Q 6 P x := by
  unfold k_Ag_readNext_0
  refine z_k (S_aload_n cx (k := 1) (by decide +kernel) rfl) ?_
  refine z_k (S_iload_n cx (k := 2) (by decide +kernel) rfl) ?_
  refine z_k (S_callV cx (T := F_Me) (N := 3) (r := r_Me_sizeOf) rfl ⟨w_358, w_3, by decide, by decide +kernel⟩ w_403 w_356 w_357 rfl (by decide +kernel)) ?_
  refine z_k (S_aload_n cx (k := 0) (by decide +kernel) rfl) ?_
  refine z_k (S_callV cx (T := F_Ag) (N := 12) (r := r_Ag_partsOfNext) rfl ⟨w_407, w_7, by decide, by decide +kernel⟩ w_404 w_406 wp_9 rfl (by decide +kernel)) ?_
  refine z_k (S_icmp_eq cx (off := 5) (by decide +kernel) (by decide)) ?_
  refine z_k (S_push cx (n := 0) (by decide +kernel) (by decide)) ?_
  refine z_k (S_iret (hf.2.1 rfl) (by decide +kernel)) ?_
  refine z_k (S_push cx (n := 0) (by decide +kernel) (by decide)) ?_
  refine z_k (S_istore_n cx (by decide) (k := 3) (by decide +kernel) rfl) ?_
  refine z_k (S_push cx (n := 0) (by decide +kernel) (by decide)) ?_
  refine z_k (S_istore cx (by decide) (by decide +kernel)) ?_
  refine z_k (S_iload cx (by decide +kernel)) ?_
  refine z_k (S_push cx (n := 4) (by decide +kernel) (by decide)) ?_
  refine z_k (S_icmp_ge cx (off := 63) (by decide +kernel) (by decide)) ?_
  refine z_k (S_aload_n cx (k := 0) (by decide +kernel) rfl) ?_
  refine z_k (S_iload cx (by decide +kernel)) ?_
  refine z_k (S_callV cx (T := F_Ag) (N := 12) (r := r_Ag_tokenAt) rfl ⟨w_264, w_7, by decide, by decide +kernel⟩ w_261 w_263 wp_3 rfl (by decide +kernel)) ?_
  refine z_k (S_istore cx (by decide) (by decide +kernel)) ?_
  refine z_k (S_iload cx (by decide +kernel)) ?_
  refine z_k (S_push cx (n := 1) (by decide +kernel) (by decide)) ?_
  refine z_k (S_icmp_eq cx (off := 9) (by decide +kernel) (by decide)) ?_
  refine z_k (S_iload cx (by decide +kernel)) ?_
  refine z_k (S_push cx (n := 2) (by decide +kernel) (by decide)) ?_
  exact z_k0
set_option maxRecDepth 100000 in
set_option maxHeartbeats 4000000 in
theorem s_Ag_readNext_1 (cx : z_cx zTab g d p l e R s m args below meth c prog_2_method_7_code "SealedTalks$Agreement" 6) (hn : meth.name = "readNext") (hf : z_fin g p l e R s m args below meth c Q prog_2_method_7_code P (some .int)) : ∀ x ∈ k_Ag_readNext_1, z_sn zTab g d p l e R s m args below meth c Q 6 P x := by
  unfold k_Ag_readNext_1
  refine z_k (S_icmp_ne cx (off := 26) (by decide +kernel) (by decide)) ?_
  refine z_k (S_aload_n cx (k := 0) (by decide +kernel) rfl) ?_
  refine z_k (S_iload cx (by decide +kernel)) ?_
  refine z_k (S_aload_n cx (k := 1) (by decide +kernel) rfl) ?_
  refine z_k (S_iload_n cx (k := 2) (by decide +kernel) rfl) ?_
  refine z_k (S_iload_n cx (k := 3) (by decide +kernel) rfl) ?_
  refine z_k (S_callV cx (T := F_Me) (N := 3) (r := r_Me_partAt) rfl ⟨w_354, w_3, by decide, by decide +kernel⟩ w_408 w_352 w_353 rfl (by decide +kernel)) ?_
  refine z_k (S_callV cx (T := F_Ag) (N := 12) (r := r_Ag_readKey) rfl ⟨w_412, w_7, by decide, by decide +kernel⟩ w_409 w_411 wp_10 rfl (by decide +kernel)) ?_
  refine z_k (S_if_ne cx (off := 5) (by decide +kernel) (by decide)) ?_
  refine z_k (S_push cx (n := 0) (by decide +kernel) (by decide)) ?_
  refine z_k (S_iret (hf.2.1 rfl) (by decide +kernel)) ?_
  refine z_k (S_iinc cx (n := 1) (by decide) (by decide +kernel) (by decide)) ?_
  refine z_k (S_goto cx (off := 14) (by decide +kernel) (by decide)) ?_
  refine z_k (S_iload cx (by decide +kernel)) ?_
  refine z_k (S_if_eq cx (off := 9) (by decide +kernel) (by decide)) ?_
  refine z_k (S_aload_n cx (k := 0) (by decide +kernel) rfl) ?_
  refine z_k (S_iload cx (by decide +kernel)) ?_
  refine z_k (S_callV cx (T := F_Ag) (N := 12) (r := r_Ag_mixKeys) rfl ⟨w_291, w_7, by decide, by decide +kernel⟩ w_288 w_290 wp_6 rfl (by decide +kernel)) ?_
  refine z_k (S_iinc cx (n := 1) (by decide) (by decide +kernel) (by decide)) ?_
  refine z_k (S_goto cx (off := -63) (by decide +kernel) (by decide)) ?_
  refine z_k (S_aload_n cx (k := 1) (by decide +kernel) rfl) ?_
  refine z_k (S_iload_n cx (k := 2) (by decide +kernel) rfl) ?_
  refine z_k (S_iload_n cx (k := 3) (by decide +kernel) rfl) ?_
  refine z_k (S_callV cx (T := F_Me) (N := 3) (r := r_Me_partAt) rfl ⟨w_354, w_3, by decide, by decide +kernel⟩ w_408 w_352 w_353 rfl (by decide +kernel)) ?_
  exact z_k0
set_option maxRecDepth 100000 in
set_option maxHeartbeats 4000000 in
theorem s_Ag_readNext_2 (cx : z_cx zTab g d p l e R s m args below meth c prog_2_method_7_code "SealedTalks$Agreement" 6) (hn : meth.name = "readNext") (hf : z_fin g p l e R s m args below meth c Q prog_2_method_7_code P (some .int)) : ∀ x ∈ k_Ag_readNext_2, z_sn zTab g d p l e R s m args below meth c Q 6 P x := by
  unfold k_Ag_readNext_2
  refine z_k (S_istore cx (by decide) (by decide +kernel)) ?_
  refine z_k (S_aload_n cx (k := 0) (by decide +kernel) rfl) ?_
  refine z_k (S_iload cx (by decide +kernel)) ?_
  refine z_k (S_callV cx (T := F_Ag) (N := 12) (r := r_Ag_openedUp) rfl ⟨w_416, w_7, by decide, by decide +kernel⟩ w_413 w_415 wp_11 rfl (by decide +kernel)) ?_
  refine z_k (S_istore cx (by decide) (by decide +kernel)) ?_
  refine z_k (S_aload_n cx (k := 0) (by decide +kernel) rfl) ?_
  refine z_k (S_getf cx (T := F_Ag) (N := 12) (k := 0) rfl in_Ag (by decide) rfl w_135 (by decide +kernel)) ?_
  refine z_k (S_iload cx (by decide +kernel)) ?_
  refine z_k (S_callV cx (T := F_Te) (N := 11) (r := r_Te_isNum) rfl ⟨w_364, w_2, by decide, by decide +kernel⟩ w_424 w_362 w_363 rfl (by decide +kernel)) ?_
  refine z_k (S_if_ne cx (off := 5) (by decide +kernel) (by decide)) ?_
  refine z_k (S_push cx (n := 0) (by decide +kernel) (by decide)) ?_
  refine z_k (S_iret (hf.2.1 rfl) (by decide +kernel)) ?_
  refine z_k (S_aload_n cx (k := 0) (by decide +kernel) rfl) ?_
  refine z_k (S_aload_n cx (k := 0) (by decide +kernel) rfl) ?_
  refine z_k (S_getf cx (T := F_Ag) (N := 12) (k := 0) rfl in_Ag (by decide) rfl w_135 (by decide +kernel)) ?_
  refine z_k (S_aload_n cx (k := 0) (by decide +kernel) rfl) ?_
  refine z_k (S_getf cx (T := F_Ag) (N := 12) (k := 7) rfl in_Ag (by decide) rfl w_144 (by decide +kernel)) ?_
  refine z_k (S_iload cx (by decide +kernel)) ?_
  refine z_k (S_callV cx (T := F_Te) (N := 11) (r := r_Te_hash) rfl ⟨w_228, w_2, by decide, by decide +kernel⟩ w_225 w_226 w_227 rfl (by decide +kernel)) ?_
  refine z_k (S_putf cx (T := F_Ag) (N := 12) (k := 7) (ty := t_Ag) rfl in_Ag t_Ag_ok n_Ag (by decide) rfl w_144 rfl (Or.inl ⟨rfl, rfl⟩) (by decide +kernel)) ?_
  refine z_k (S_aload_n cx (k := 0) (by decide +kernel) rfl) ?_
  refine z_k (S_dup cx (by decide +kernel)) ?_
  refine z_k (S_getf cx (T := F_Ag) (N := 12) (k := 11) rfl in_Ag (by decide) rfl w_149 (by decide +kernel)) ?_
  refine z_k (S_push cx (n := 1) (by decide +kernel) (by decide)) ?_
  exact z_k0
set_option maxRecDepth 100000 in
set_option maxHeartbeats 4000000 in
theorem s_Ag_readNext_3 (cx : z_cx zTab g d p l e R s m args below meth c prog_2_method_7_code "SealedTalks$Agreement" 6) (hn : meth.name = "readNext") (hf : z_fin g p l e R s m args below meth c Q prog_2_method_7_code P (some .int)) : ∀ x ∈ k_Ag_readNext_3, z_sn zTab g d p l e R s m args below meth c Q 6 P x := by
  unfold k_Ag_readNext_3
  refine z_k (S_iadd cx (by decide +kernel)) ?_
  refine z_k (S_putf cx (T := F_Ag) (N := 12) (k := 11) (ty := t_Ag) rfl in_Ag t_Ag_ok n_Ag (by decide) rfl w_149 rfl (Or.inl ⟨rfl, rfl⟩) (by decide +kernel)) ?_
  refine z_k (S_iload cx (by decide +kernel)) ?_
  refine z_k (S_iret (hf.2.1 rfl) (by decide +kernel)) ?_
  exact z_k0
theorem s_Ag_readNext : z_snd zTab r_Ag_readNext := ⟨by decide +kernel, w_402, fun g d p l e R s m args below meth c Q P cx hn hf => z_k (s_Ag_readNext_0 cx hn hf) (z_k (s_Ag_readNext_1 cx hn hf) (z_k (s_Ag_readNext_2 cx hn hf) (z_k (s_Ag_readNext_3 cx hn hf) (z_k0))))⟩
set_option maxRecDepth 100000 in
set_option maxHeartbeats 4000000 in
theorem s_Ag_tokenAt_0 (cx : z_cx zTab g d p l e R s m args below meth c prog_2_method_8_code "SealedTalks$Agreement" 4) (hn : meth.name = "tokenAt") (hf : z_fin g p l e R s m args below meth c Q prog_2_method_8_code P (some .int)) : ∀ x ∈ k_Ag_tokenAt_0, z_sn zTab g d p l e R s m args below meth c Q 4 P x := by
  unfold k_Ag_tokenAt_0
  refine z_k (S_aload_n cx (k := 0) (by decide +kernel) rfl) ?_
  refine z_k (S_getf cx (T := F_Ag) (N := 12) (k := 1) rfl in_Ag (by decide) rfl w_136 (by decide +kernel)) ?_
  refine z_k (S_push cx (n := 3) (by decide +kernel) (by decide)) ?_
  refine z_k (S_imul cx (by decide +kernel)) ?_
  refine z_k (S_aload_n cx (k := 0) (by decide +kernel) rfl) ?_
  refine z_k (S_getf cx (T := F_Ag) (N := 12) (k := 11) rfl in_Ag (by decide) rfl w_149 (by decide +kernel)) ?_
  refine z_k (S_iadd cx (by decide +kernel)) ?_
  refine z_k (S_istore_n cx (by decide) (k := 2) (by decide +kernel) rfl) ?_
  refine z_k (S_iload_n cx (k := 2) (by decide +kernel) rfl) ?_
  refine z_k (S_push cx (n := 4) (by decide +kernel) (by decide)) ?_
  refine z_k (S_imul cx (by decide +kernel)) ?_
  refine z_k (S_iload_n cx (k := 1) (by decide +kernel) rfl) ?_
  refine z_k (S_iadd cx (by decide +kernel)) ?_
  refine z_k (S_istore_n cx (by decide) (k := 3) (by decide +kernel) rfl) ?_
  refine z_k (S_iload_n cx (k := 3) (by decide +kernel) rfl) ?_
  refine z_k (S_if_lt cx (off := 19) (by decide +kernel) (by decide)) ?_
  refine z_k (S_iload_n cx (k := 3) (by decide +kernel) rfl) ?_
  refine z_k (S_gets cx w_265 (by decide +kernel)) ?_
  refine z_k (S_alen cx (by decide +kernel)) ?_
  refine z_k (S_icmp_ge cx (off := 11) (by decide +kernel) (by decide)) ?_
  refine z_k (S_gets cx w_265 (by decide +kernel)) ?_
  refine z_k (S_iload_n cx (k := 3) (by decide +kernel) rfl) ?_
  refine z_k (S_iald cx (by decide +kernel)) ?_
  refine z_k (S_goto cx (off := 4) (by decide +kernel) (by decide)) ?_
  exact z_k0
set_option maxRecDepth 100000 in
set_option maxHeartbeats 4000000 in
theorem s_Ag_tokenAt_1 (cx : z_cx zTab g d p l e R s m args below meth c prog_2_method_8_code "SealedTalks$Agreement" 4) (hn : meth.name = "tokenAt") (hf : z_fin g p l e R s m args below meth c Q prog_2_method_8_code P (some .int)) : ∀ x ∈ k_Ag_tokenAt_1, z_sn zTab g d p l e R s m args below meth c Q 4 P x := by
  unfold k_Ag_tokenAt_1
  refine z_k (S_push cx (n := 0) (by decide +kernel) (by decide)) ?_
  refine z_k (S_iret (hf.2.1 rfl) (by decide +kernel)) ?_
  exact z_k0
theorem s_Ag_tokenAt : z_snd zTab r_Ag_tokenAt := ⟨by decide +kernel, w_264, fun g d p l e R s m args below meth c Q P cx hn hf => z_k (s_Ag_tokenAt_0 cx hn hf) (z_k (s_Ag_tokenAt_1 cx hn hf) (z_k0))⟩
set_option maxRecDepth 100000 in
set_option maxHeartbeats 4000000 in
theorem s_Ag_partsOfNext_0 (cx : z_cx zTab g d p l e R s m args below meth c prog_2_method_9_code "SealedTalks$Agreement" 3) (hn : meth.name = "partsOfNext") (hf : z_fin g p l e R s m args below meth c Q prog_2_method_9_code P (some .int)) : ∀ x ∈ k_Ag_partsOfNext_0, z_sn zTab g d p l e R s m args below meth c Q 3 P x := by
  unfold k_Ag_partsOfNext_0
  refine z_k (S_push cx (n := 1) (by decide +kernel) (by decide)) ?_
  refine z_k (S_istore_n cx (by decide) (k := 1) (by decide +kernel) rfl) ?_
  refine z_k (S_push cx (n := 0) (by decide +kernel) (by decide)) ?_
  refine z_k (S_istore_n cx (by decide) (k := 2) (by decide +kernel) rfl) ?_
  refine z_k (S_iload_n cx (k := 2) (by decide +kernel) rfl) ?_
  refine z_k (S_push cx (n := 4) (by decide +kernel) (by decide)) ?_
  refine z_k (S_icmp_ge cx (off := 30) (by decide +kernel) (by decide)) ?_
  refine z_k (S_aload_n cx (k := 0) (by decide +kernel) rfl) ?_
  refine z_k (S_iload_n cx (k := 2) (by decide +kernel) rfl) ?_
  refine z_k (S_callV cx (T := F_Ag) (N := 12) (r := r_Ag_tokenAt) rfl ⟨w_264, w_7, by decide, by decide +kernel⟩ w_261 w_263 wp_3 rfl (by decide +kernel)) ?_
  refine z_k (S_push cx (n := 1) (by decide +kernel) (by decide)) ?_
  refine z_k (S_icmp_eq cx (off := 12) (by decide +kernel) (by decide)) ?_
  refine z_k (S_aload_n cx (k := 0) (by decide +kernel) rfl) ?_
  refine z_k (S_iload_n cx (k := 2) (by decide +kernel) rfl) ?_
  refine z_k (S_callV cx (T := F_Ag) (N := 12) (r := r_Ag_tokenAt) rfl ⟨w_264, w_7, by decide, by decide +kernel⟩ w_261 w_263 wp_3 rfl (by decide +kernel)) ?_
  refine z_k (S_push cx (n := 2) (by decide +kernel) (by decide)) ?_
  refine z_k (S_icmp_ne cx (off := 6) (by decide +kernel) (by decide)) ?_
  refine z_k (S_iinc cx (n := 1) (by decide) (by decide +kernel) (by decide)) ?_
  refine z_k (S_iinc cx (n := 1) (by decide) (by decide +kernel) (by decide)) ?_
  refine z_k (S_goto cx (off := -29) (by decide +kernel) (by decide)) ?_
  refine z_k (S_iload_n cx (k := 1) (by decide +kernel) rfl) ?_
  refine z_k (S_iret (hf.2.1 rfl) (by decide +kernel)) ?_
  exact z_k0
theorem s_Ag_partsOfNext : z_snd zTab r_Ag_partsOfNext := ⟨by decide +kernel, w_407, fun g d p l e R s m args below meth c Q P cx hn hf => z_k (s_Ag_partsOfNext_0 cx hn hf) (z_k0)⟩
set_option maxRecDepth 100000 in
set_option maxHeartbeats 4000000 in
theorem s_Ag_addPart_0 (cx : z_cx zTab g d p l e R s m args below meth c prog_2_method_10_code "SealedTalks$Agreement" 3) (hn : meth.name = "addPart") (hf : z_fin g p l e R s m args below meth c Q prog_2_method_10_code P none) : ∀ x ∈ k_Ag_addPart_0, z_sn zTab g d p l e R s m args below meth c Q 3 P x := by
  unfold k_Ag_addPart_0
  refine z_k (S_aload_n cx (k := 1) (by decide +kernel) rfl) ?_
  refine z_k (S_iload_n cx (k := 2) (by decide +kernel) rfl) ?_
  refine z_k (S_callV cx (T := F_Me) (N := 3) (r := r_Me_addPart) rfl ⟨w_278, w_3, by decide, by decide +kernel⟩ w_275 w_276 w_277 rfl (by decide +kernel)) ?_
  refine z_k (S_aload_n cx (k := 0) (by decide +kernel) rfl) ?_
  refine z_k (S_aload_n cx (k := 0) (by decide +kernel) rfl) ?_
  refine z_k (S_getf cx (T := F_Ag) (N := 12) (k := 0) rfl in_Ag (by decide) rfl w_135 (by decide +kernel)) ?_
  refine z_k (S_aload_n cx (k := 0) (by decide +kernel) rfl) ?_
  refine z_k (S_getf cx (T := F_Ag) (N := 12) (k := 7) rfl in_Ag (by decide) rfl w_144 (by decide +kernel)) ?_
  refine z_k (S_iload_n cx (k := 2) (by decide +kernel) rfl) ?_
  refine z_k (S_callV cx (T := F_Te) (N := 11) (r := r_Te_hash) rfl ⟨w_228, w_2, by decide, by decide +kernel⟩ w_225 w_226 w_227 rfl (by decide +kernel)) ?_
  refine z_k (S_putf cx (T := F_Ag) (N := 12) (k := 7) (ty := t_Ag) rfl in_Ag t_Ag_ok n_Ag (by decide) rfl w_144 rfl (Or.inl ⟨rfl, rfl⟩) (by decide +kernel)) ?_
  refine z_k (S_vret (hf.1 rfl) (by decide +kernel)) ?_
  exact z_k0
theorem s_Ag_addPart : z_snd zTab r_Ag_addPart := ⟨by decide +kernel, w_274, fun g d p l e R s m args below meth c Q P cx hn hf => z_k (s_Ag_addPart_0 cx hn hf) (z_k0)⟩
set_option maxRecDepth 100000 in
set_option maxHeartbeats 4000000 in
theorem s_Ag_readKey_0 (cx : z_cx zTab g d p l e R s m args below meth c prog_2_method_11_code "SealedTalks$Agreement" 4) (hn : meth.name = "readKey") (hf : z_fin g p l e R s m args below meth c Q prog_2_method_11_code P (some .boolean)) : ∀ x ∈ k_Ag_readKey_0, z_sn zTab g d p l e R s m args below meth c Q 4 P x := by
  unfold k_Ag_readKey_0
  refine z_k (S_iload_n cx (k := 1) (by decide +kernel) rfl) ?_
  refine z_k (S_push cx (n := 1) (by decide +kernel) (by decide)) ?_
  refine z_k (S_icmp_ne cx (off := 7) (by decide +kernel) (by decide)) ?_
  refine z_k (S_iload_n cx (k := 2) (by decide +kernel) rfl) ?_
  refine z_k (S_goto cx (off := 8) (by decide +kernel) (by decide)) ?_
  refine z_k (S_aload_n cx (k := 0) (by decide +kernel) rfl) ?_
  refine z_k (S_iload_n cx (k := 2) (by decide +kernel) rfl) ?_
  refine z_k (S_callV cx (T := F_Ag) (N := 12) (r := r_Ag_openedUp) rfl ⟨w_416, w_7, by decide, by decide +kernel⟩ w_413 w_415 wp_11 rfl (by decide +kernel)) ?_
  refine z_k (S_istore_n cx (by decide) (k := 3) (by decide +kernel) rfl) ?_
  refine z_k (S_aload_n cx (k := 0) (by decide +kernel) rfl) ?_
  refine z_k (S_getf cx (T := F_Ag) (N := 12) (k := 0) rfl in_Ag (by decide) rfl w_135 (by decide +kernel)) ?_
  refine z_k (S_iload_n cx (k := 3) (by decide +kernel) rfl) ?_
  refine z_k (S_callV cx (T := F_Te) (N := 11) (r := r_Te_isPub) rfl ⟨w_422, w_2, by decide, by decide +kernel⟩ w_419 w_420 w_421 rfl (by decide +kernel)) ?_
  refine z_k (S_if_ne cx (off := 5) (by decide +kernel) (by decide)) ?_
  refine z_k (S_push cx (n := 0) (by decide +kernel) (by decide)) ?_
  refine z_k (S_zret (hf.2.2.1 rfl) (by decide +kernel)) ?_
  refine z_k (S_iload_n cx (k := 1) (by decide +kernel) rfl) ?_
  refine z_k (S_push cx (n := 1) (by decide +kernel) (by decide)) ?_
  refine z_k (S_icmp_ne cx (off := 18) (by decide +kernel) (by decide)) ?_
  refine z_k (S_aload_n cx (k := 0) (by decide +kernel) rfl) ?_
  refine z_k (S_aload_n cx (k := 0) (by decide +kernel) rfl) ?_
  refine z_k (S_getf cx (T := F_Ag) (N := 12) (k := 0) rfl in_Ag (by decide) rfl w_135 (by decide +kernel)) ?_
  refine z_k (S_iload_n cx (k := 3) (by decide +kernel) rfl) ?_
  refine z_k (S_callV cx (T := F_Te) (N := 11) (r := r_Te_valueOf) rfl ⟨w_368, w_2, by decide, by decide +kernel⟩ w_423 w_366 w_367 rfl (by decide +kernel)) ?_
  exact z_k0
set_option maxRecDepth 100000 in
set_option maxHeartbeats 4000000 in
theorem s_Ag_readKey_1 (cx : z_cx zTab g d p l e R s m args below meth c prog_2_method_11_code "SealedTalks$Agreement" 4) (hn : meth.name = "readKey") (hf : z_fin g p l e R s m args below meth c Q prog_2_method_11_code P (some .boolean)) : ∀ x ∈ k_Ag_readKey_1, z_sn zTab g d p l e R s m args below meth c Q 4 P x := by
  unfold k_Ag_readKey_1
  refine z_k (S_putf cx (T := F_Ag) (N := 12) (k := 6) (ty := t_Ag) rfl in_Ag t_Ag_ok n_Ag (by decide) rfl w_143 rfl (Or.inl ⟨rfl, rfl⟩) (by decide +kernel)) ?_
  refine z_k (S_goto cx (off := 15) (by decide +kernel) (by decide)) ?_
  refine z_k (S_aload_n cx (k := 0) (by decide +kernel) rfl) ?_
  refine z_k (S_aload_n cx (k := 0) (by decide +kernel) rfl) ?_
  refine z_k (S_getf cx (T := F_Ag) (N := 12) (k := 0) rfl in_Ag (by decide) rfl w_135 (by decide +kernel)) ?_
  refine z_k (S_iload_n cx (k := 3) (by decide +kernel) rfl) ?_
  refine z_k (S_callV cx (T := F_Te) (N := 11) (r := r_Te_valueOf) rfl ⟨w_368, w_2, by decide, by decide +kernel⟩ w_423 w_366 w_367 rfl (by decide +kernel)) ?_
  refine z_k (S_putf cx (T := F_Ag) (N := 12) (k := 5) (ty := t_Ag) rfl in_Ag t_Ag_ok n_Ag (by decide) rfl w_141 rfl (Or.inl ⟨rfl, rfl⟩) (by decide +kernel)) ?_
  refine z_k (S_aload_n cx (k := 0) (by decide +kernel) rfl) ?_
  refine z_k (S_aload_n cx (k := 0) (by decide +kernel) rfl) ?_
  refine z_k (S_getf cx (T := F_Ag) (N := 12) (k := 0) rfl in_Ag (by decide) rfl w_135 (by decide +kernel)) ?_
  refine z_k (S_aload_n cx (k := 0) (by decide +kernel) rfl) ?_
  refine z_k (S_getf cx (T := F_Ag) (N := 12) (k := 7) rfl in_Ag (by decide) rfl w_144 (by decide +kernel)) ?_
  refine z_k (S_iload_n cx (k := 2) (by decide +kernel) rfl) ?_
  refine z_k (S_callV cx (T := F_Te) (N := 11) (r := r_Te_hash) rfl ⟨w_228, w_2, by decide, by decide +kernel⟩ w_225 w_226 w_227 rfl (by decide +kernel)) ?_
  refine z_k (S_putf cx (T := F_Ag) (N := 12) (k := 7) (ty := t_Ag) rfl in_Ag t_Ag_ok n_Ag (by decide) rfl w_144 rfl (Or.inl ⟨rfl, rfl⟩) (by decide +kernel)) ?_
  refine z_k (S_push cx (n := 1) (by decide +kernel) (by decide)) ?_
  refine z_k (S_zret (hf.2.2.1 rfl) (by decide +kernel)) ?_
  exact z_k0
theorem s_Ag_readKey : z_snd zTab r_Ag_readKey := ⟨by decide +kernel, w_412, fun g d p l e R s m args below meth c Q P cx hn hf => z_k (s_Ag_readKey_0 cx hn hf) (z_k (s_Ag_readKey_1 cx hn hf) (z_k0))⟩
set_option maxRecDepth 100000 in
set_option maxHeartbeats 4000000 in
theorem s_Ag_closedUp_0 (cx : z_cx zTab g d p l e R s m args below meth c prog_2_method_12_code "SealedTalks$Agreement" 2) (hn : meth.name = "closedUp") (hf : z_fin g p l e R s m args below meth c Q prog_2_method_12_code P (some .int)) : ∀ x ∈ k_Ag_closedUp_0, z_sn zTab g d p l e R s m args below meth c Q 2 P x := by
  unfold k_Ag_closedUp_0
  refine z_k (S_aload_n cx (k := 0) (by decide +kernel) rfl) ?_
  refine z_k (S_getf cx (T := F_Ag) (N := 12) (k := 9) rfl in_Ag (by decide) rfl w_147 (by decide +kernel)) ?_
  refine z_k (S_if_ne cx (off := 5) (by decide +kernel) (by decide)) ?_
  refine z_k (S_iload_n cx (k := 1) (by decide +kernel) rfl) ?_
  refine z_k (S_iret (hf.2.1 rfl) (by decide +kernel)) ?_
  refine z_k (S_aload_n cx (k := 0) (by decide +kernel) rfl) ?_
  refine z_k (S_dup cx (by decide +kernel)) ?_
  refine z_k (S_getf cx (T := F_Ag) (N := 12) (k := 10) rfl in_Ag (by decide) rfl w_148 (by decide +kernel)) ?_
  refine z_k (S_push cx (n := 1) (by decide +kernel) (by decide)) ?_
  refine z_k (S_iadd cx (by decide +kernel)) ?_
  refine z_k (S_putf cx (T := F_Ag) (N := 12) (k := 10) (ty := t_Ag) rfl in_Ag t_Ag_ok n_Ag (by decide) rfl w_148 rfl (Or.inl ⟨rfl, rfl⟩) (by decide +kernel)) ?_
  refine z_k (S_aload_n cx (k := 0) (by decide +kernel) rfl) ?_
  refine z_k (S_getf cx (T := F_Ag) (N := 12) (k := 0) rfl in_Ag (by decide) rfl w_135 (by decide +kernel)) ?_
  refine z_k (S_aload_n cx (k := 0) (by decide +kernel) rfl) ?_
  refine z_k (S_getf cx (T := F_Ag) (N := 12) (k := 9) rfl in_Ag (by decide) rfl w_147 (by decide +kernel)) ?_
  refine z_k (S_aload_n cx (k := 0) (by decide +kernel) rfl) ?_
  refine z_k (S_getf cx (T := F_Ag) (N := 12) (k := 10) rfl in_Ag (by decide) rfl w_148 (by decide +kernel)) ?_
  refine z_k (S_push cx (n := 1) (by decide +kernel) (by decide)) ?_
  refine z_k (S_isub cx (by decide +kernel)) ?_
  refine z_k (S_aload_n cx (k := 0) (by decide +kernel) rfl) ?_
  refine z_k (S_getf cx (T := F_Ag) (N := 12) (k := 7) rfl in_Ag (by decide) rfl w_144 (by decide +kernel)) ?_
  refine z_k (S_iload_n cx (k := 1) (by decide +kernel) rfl) ?_
  refine z_k (S_callV cx (T := F_Te) (N := 11) (r := r_Te_seal) rfl ⟨w_287, w_2, by decide, by decide +kernel⟩ w_284 w_285 w_286 rfl (by decide +kernel)) ?_
  refine z_k (S_iret (hf.2.1 rfl) (by decide +kernel)) ?_
  exact z_k0
theorem s_Ag_closedUp : z_snd zTab r_Ag_closedUp := ⟨by decide +kernel, w_283, fun g d p l e R s m args below meth c Q P cx hn hf => z_k (s_Ag_closedUp_0 cx hn hf) (z_k0)⟩
set_option maxRecDepth 100000 in
set_option maxHeartbeats 4000000 in
theorem s_Ag_openedUp_0 (cx : z_cx zTab g d p l e R s m args below meth c prog_2_method_13_code "SealedTalks$Agreement" 2) (hn : meth.name = "openedUp") (hf : z_fin g p l e R s m args below meth c Q prog_2_method_13_code P (some .int)) : ∀ x ∈ k_Ag_openedUp_0, z_sn zTab g d p l e R s m args below meth c Q 2 P x := by
  unfold k_Ag_openedUp_0
  refine z_k (S_aload_n cx (k := 0) (by decide +kernel) rfl) ?_
  refine z_k (S_getf cx (T := F_Ag) (N := 12) (k := 9) rfl in_Ag (by decide) rfl w_147 (by decide +kernel)) ?_
  refine z_k (S_if_ne cx (off := 5) (by decide +kernel) (by decide)) ?_
  refine z_k (S_iload_n cx (k := 1) (by decide +kernel) rfl) ?_
  refine z_k (S_iret (hf.2.1 rfl) (by decide +kernel)) ?_
  refine z_k (S_aload_n cx (k := 0) (by decide +kernel) rfl) ?_
  refine z_k (S_getf cx (T := F_Ag) (N := 12) (k := 0) rfl in_Ag (by decide) rfl w_135 (by decide +kernel)) ?_
  refine z_k (S_iload_n cx (k := 1) (by decide +kernel) rfl) ?_
  refine z_k (S_aload_n cx (k := 0) (by decide +kernel) rfl) ?_
  refine z_k (S_getf cx (T := F_Ag) (N := 12) (k := 9) rfl in_Ag (by decide) rfl w_147 (by decide +kernel)) ?_
  refine z_k (S_aload_n cx (k := 0) (by decide +kernel) rfl) ?_
  refine z_k (S_getf cx (T := F_Ag) (N := 12) (k := 10) rfl in_Ag (by decide) rfl w_148 (by decide +kernel)) ?_
  refine z_k (S_aload_n cx (k := 0) (by decide +kernel) rfl) ?_
  refine z_k (S_getf cx (T := F_Ag) (N := 12) (k := 7) rfl in_Ag (by decide) rfl w_144 (by decide +kernel)) ?_
  refine z_k (S_callV cx (T := F_Te) (N := 11) (r := r_Te_isSealOf) rfl ⟨w_376, w_2, by decide, by decide +kernel⟩ w_417 w_374 w_375 rfl (by decide +kernel)) ?_
  refine z_k (S_if_ne cx (off := 5) (by decide +kernel) (by decide)) ?_
  refine z_k (S_push cx (n := 0) (by decide +kernel) (by decide)) ?_
  refine z_k (S_iret (hf.2.1 rfl) (by decide +kernel)) ?_
  refine z_k (S_aload_n cx (k := 0) (by decide +kernel) rfl) ?_
  refine z_k (S_dup cx (by decide +kernel)) ?_
  refine z_k (S_getf cx (T := F_Ag) (N := 12) (k := 10) rfl in_Ag (by decide) rfl w_148 (by decide +kernel)) ?_
  refine z_k (S_push cx (n := 1) (by decide +kernel) (by decide)) ?_
  refine z_k (S_iadd cx (by decide +kernel)) ?_
  refine z_k (S_putf cx (T := F_Ag) (N := 12) (k := 10) (ty := t_Ag) rfl in_Ag t_Ag_ok n_Ag (by decide) rfl w_148 rfl (Or.inl ⟨rfl, rfl⟩) (by decide +kernel)) ?_
  exact z_k0
set_option maxRecDepth 100000 in
set_option maxHeartbeats 4000000 in
theorem s_Ag_openedUp_1 (cx : z_cx zTab g d p l e R s m args below meth c prog_2_method_13_code "SealedTalks$Agreement" 2) (hn : meth.name = "openedUp") (hf : z_fin g p l e R s m args below meth c Q prog_2_method_13_code P (some .int)) : ∀ x ∈ k_Ag_openedUp_1, z_sn zTab g d p l e R s m args below meth c Q 2 P x := by
  unfold k_Ag_openedUp_1
  refine z_k (S_aload_n cx (k := 0) (by decide +kernel) rfl) ?_
  refine z_k (S_getf cx (T := F_Ag) (N := 12) (k := 0) rfl in_Ag (by decide) rfl w_135 (by decide +kernel)) ?_
  refine z_k (S_iload_n cx (k := 1) (by decide +kernel) rfl) ?_
  refine z_k (S_callV cx (T := F_Te) (N := 11) (r := r_Te_insideOf) rfl ⟨w_384, w_2, by decide, by decide +kernel⟩ w_418 w_382 w_383 rfl (by decide +kernel)) ?_
  refine z_k (S_iret (hf.2.1 rfl) (by decide +kernel)) ?_
  exact z_k0
theorem s_Ag_openedUp : z_snd zTab r_Ag_openedUp := ⟨by decide +kernel, w_416, fun g d p l e R s m args below meth c Q P cx hn hf => z_k (s_Ag_openedUp_0 cx hn hf) (z_k (s_Ag_openedUp_1 cx hn hf) (z_k0))⟩
set_option maxRecDepth 100000 in
set_option maxHeartbeats 4000000 in
theorem s_Ag_mixKeys_0 (cx : z_cx zTab g d p l e R s m args below meth c prog_2_method_14_code "SealedTalks$Agreement" 5) (hn : meth.name = "mixKeys") (hf : z_fin g p l e R s m args below meth c Q prog_2_method_14_code P none) : ∀ x ∈ k_Ag_mixKeys_0, z_sn zTab g d p l e R s m args below meth c Q 5 P x := by
  unfold k_Ag_mixKeys_0
  refine z_k (S_iload_n cx (k := 1) (by decide +kernel) rfl) ?_
  refine z_k (S_push cx (n := 3) (by decide +kernel) (by decide)) ?_
  refine z_k (S_icmp_eq cx (off := 19) (by decide +kernel) (by decide)) ?_
  refine z_k (S_iload_n cx (k := 1) (by decide +kernel) rfl) ?_
  refine z_k (S_aload_n cx (k := 0) (by decide +kernel) rfl) ?_
  refine z_k (S_getf cx (T := F_Ag) (N := 12) (k := 2) rfl in_Ag (by decide) rfl w_137 (by decide +kernel)) ?_
  refine z_k (S_if_eq cx (off := 7) (by decide +kernel) (by decide)) ?_
  refine z_k (S_push cx (n := 4) (by decide +kernel) (by decide)) ?_
  refine z_k (S_goto cx (off := 4) (by decide +kernel) (by decide)) ?_
  refine z_k (S_push cx (n := 5) (by decide +kernel) (by decide)) ?_
  refine z_k (S_icmp_ne cx (off := 7) (by decide +kernel) (by decide)) ?_
  refine z_k (S_push cx (n := 1) (by decide +kernel) (by decide)) ?_
  refine z_k (S_goto cx (off := 4) (by decide +kernel) (by decide)) ?_
  refine z_k (S_push cx (n := 0) (by decide +kernel) (by decide)) ?_
  refine z_k (S_istore_n cx (by decide) (k := 2) (by decide +kernel) rfl) ?_
  refine z_k (S_iload_n cx (k := 1) (by decide +kernel) rfl) ?_
  refine z_k (S_push cx (n := 3) (by decide +kernel) (by decide)) ?_
  refine z_k (S_icmp_eq cx (off := 19) (by decide +kernel) (by decide)) ?_
  refine z_k (S_iload_n cx (k := 1) (by decide +kernel) rfl) ?_
  refine z_k (S_aload_n cx (k := 0) (by decide +kernel) rfl) ?_
  refine z_k (S_getf cx (T := F_Ag) (N := 12) (k := 2) rfl in_Ag (by decide) rfl w_137 (by decide +kernel)) ?_
  refine z_k (S_if_eq cx (off := 7) (by decide +kernel) (by decide)) ?_
  refine z_k (S_push cx (n := 5) (by decide +kernel) (by decide)) ?_
  refine z_k (S_goto cx (off := 4) (by decide +kernel) (by decide)) ?_
  exact z_k0
set_option maxRecDepth 100000 in
set_option maxHeartbeats 4000000 in
theorem s_Ag_mixKeys_1 (cx : z_cx zTab g d p l e R s m args below meth c prog_2_method_14_code "SealedTalks$Agreement" 5) (hn : meth.name = "mixKeys") (hf : z_fin g p l e R s m args below meth c Q prog_2_method_14_code P none) : ∀ x ∈ k_Ag_mixKeys_1, z_sn zTab g d p l e R s m args below meth c Q 5 P x := by
  unfold k_Ag_mixKeys_1
  refine z_k (S_push cx (n := 4) (by decide +kernel) (by decide)) ?_
  refine z_k (S_icmp_ne cx (off := 7) (by decide +kernel) (by decide)) ?_
  refine z_k (S_push cx (n := 1) (by decide +kernel) (by decide)) ?_
  refine z_k (S_goto cx (off := 4) (by decide +kernel) (by decide)) ?_
  refine z_k (S_push cx (n := 0) (by decide +kernel) (by decide)) ?_
  refine z_k (S_istore_n cx (by decide) (k := 3) (by decide +kernel) rfl) ?_
  refine z_k (S_aload_n cx (k := 0) (by decide +kernel) rfl) ?_
  refine z_k (S_getf cx (T := F_Ag) (N := 12) (k := 0) rfl in_Ag (by decide) rfl w_135 (by decide +kernel)) ?_
  refine z_k (S_iload_n cx (k := 2) (by decide +kernel) rfl) ?_
  refine z_k (S_if_eq cx (off := 10) (by decide +kernel) (by decide)) ?_
  refine z_k (S_aload_n cx (k := 0) (by decide +kernel) rfl) ?_
  refine z_k (S_getf cx (T := F_Ag) (N := 12) (k := 4) rfl in_Ag (by decide) rfl w_140 (by decide +kernel)) ?_
  refine z_k (S_goto cx (off := 7) (by decide +kernel) (by decide)) ?_
  refine z_k (S_aload_n cx (k := 0) (by decide +kernel) rfl) ?_
  refine z_k (S_getf cx (T := F_Ag) (N := 12) (k := 3) rfl in_Ag (by decide) rfl w_139 (by decide +kernel)) ?_
  refine z_k (S_iload_n cx (k := 3) (by decide +kernel) rfl) ?_
  refine z_k (S_if_eq cx (off := 10) (by decide +kernel) (by decide)) ?_
  refine z_k (S_aload_n cx (k := 0) (by decide +kernel) rfl) ?_
  refine z_k (S_getf cx (T := F_Ag) (N := 12) (k := 6) rfl in_Ag (by decide) rfl w_143 (by decide +kernel)) ?_
  refine z_k (S_goto cx (off := 7) (by decide +kernel) (by decide)) ?_
  refine z_k (S_aload_n cx (k := 0) (by decide +kernel) rfl) ?_
  refine z_k (S_getf cx (T := F_Ag) (N := 12) (k := 5) rfl in_Ag (by decide) rfl w_141 (by decide +kernel)) ?_
  refine z_k (S_callV cx (T := F_Te) (N := 11) (r := r_Te_dh) rfl ⟨w_295, w_2, by decide, by decide +kernel⟩ w_292 w_293 w_294 rfl (by decide +kernel)) ?_
  refine z_k (S_istore cx (by decide) (by decide +kernel)) ?_
  exact z_k0
set_option maxRecDepth 100000 in
set_option maxHeartbeats 4000000 in
theorem s_Ag_mixKeys_2 (cx : z_cx zTab g d p l e R s m args below meth c prog_2_method_14_code "SealedTalks$Agreement" 5) (hn : meth.name = "mixKeys") (hf : z_fin g p l e R s m args below meth c Q prog_2_method_14_code P none) : ∀ x ∈ k_Ag_mixKeys_2, z_sn zTab g d p l e R s m args below meth c Q 5 P x := by
  unfold k_Ag_mixKeys_2
  refine z_k (S_aload_n cx (k := 0) (by decide +kernel) rfl) ?_
  refine z_k (S_aload_n cx (k := 0) (by decide +kernel) rfl) ?_
  refine z_k (S_getf cx (T := F_Ag) (N := 12) (k := 0) rfl in_Ag (by decide) rfl w_135 (by decide +kernel)) ?_
  refine z_k (S_aload_n cx (k := 0) (by decide +kernel) rfl) ?_
  refine z_k (S_getf cx (T := F_Ag) (N := 12) (k := 8) rfl in_Ag (by decide) rfl w_145 (by decide +kernel)) ?_
  refine z_k (S_iload cx (by decide +kernel)) ?_
  refine z_k (S_callV cx (T := F_Te) (N := 11) (r := r_Te_key) rfl ⟨w_305, w_2, by decide, by decide +kernel⟩ w_302 w_303 w_304 rfl (by decide +kernel)) ?_
  refine z_k (S_putf cx (T := F_Ag) (N := 12) (k := 9) (ty := t_Ag) rfl in_Ag t_Ag_ok n_Ag (by decide) rfl w_147 rfl (Or.inl ⟨rfl, rfl⟩) (by decide +kernel)) ?_
  refine z_k (S_aload_n cx (k := 0) (by decide +kernel) rfl) ?_
  refine z_k (S_aload_n cx (k := 0) (by decide +kernel) rfl) ?_
  refine z_k (S_getf cx (T := F_Ag) (N := 12) (k := 0) rfl in_Ag (by decide) rfl w_135 (by decide +kernel)) ?_
  refine z_k (S_aload_n cx (k := 0) (by decide +kernel) rfl) ?_
  refine z_k (S_getf cx (T := F_Ag) (N := 12) (k := 8) rfl in_Ag (by decide) rfl w_145 (by decide +kernel)) ?_
  refine z_k (S_iload cx (by decide +kernel)) ?_
  refine z_k (S_callV cx (T := F_Te) (N := 11) (r := r_Te_chain) rfl ⟨w_309, w_2, by decide, by decide +kernel⟩ w_306 w_307 w_308 rfl (by decide +kernel)) ?_
  refine z_k (S_putf cx (T := F_Ag) (N := 12) (k := 8) (ty := t_Ag) rfl in_Ag t_Ag_ok n_Ag (by decide) rfl w_145 rfl (Or.inl ⟨rfl, rfl⟩) (by decide +kernel)) ?_
  refine z_k (S_aload_n cx (k := 0) (by decide +kernel) rfl) ?_
  refine z_k (S_push cx (n := 0) (by decide +kernel) (by decide)) ?_
  refine z_k (S_putf cx (T := F_Ag) (N := 12) (k := 10) (ty := t_Ag) rfl in_Ag t_Ag_ok n_Ag (by decide) rfl w_148 rfl (Or.inl ⟨rfl, rfl⟩) (by decide +kernel)) ?_
  refine z_k (S_vret (hf.1 rfl) (by decide +kernel)) ?_
  exact z_k0
theorem s_Ag_mixKeys : z_snd zTab r_Ag_mixKeys := ⟨by decide +kernel, w_291, fun g d p l e R s m args below meth c Q P cx hn hf => z_k (s_Ag_mixKeys_0 cx hn hf) (z_k (s_Ag_mixKeys_1 cx hn hf) (z_k (s_Ag_mixKeys_2 cx hn hf) (z_k0)))⟩
end ZR00
end
section
/-! Each method of SealedTalks$Channel, SealedTalks$Messages, SealedTalks$Session is sound (0). By program. -/
section ZR10
variable {g : zG} {d : Nat} {p : Program} {l : Launch} {e : Env} {R : Room} {s : State} {m : MethodId} {args : Array Value} {below : List Frame} {meth : Method} {c : Code} {Q : State → Prop} {P : zP}
set_option maxRecDepth 100000 in
set_option maxHeartbeats 4000000 in
theorem s_Ch_init_0 (cx : z_cx zTab g d p l e R s m args below meth c prog_3_method_1_code "SealedTalks$Channel" 2) (hn : meth.name = "<init>") (hf : z_fin g p l e R s m args below meth c Q prog_3_method_1_code P none) : ∀ x ∈ k_Ch_init_0, z_sn zTab g d p l e R s m args below meth c Q 2 P x := by
  unfold k_Ch_init_0
  refine z_k (S_aload_n cx (k := 0) (by decide +kernel) rfl) ?_
  refine z_k (S_oini cx w_107 w_15 w_16 (by decide +kernel)) ?_
  refine z_k (S_aload_n cx (k := 0) (by decide +kernel) rfl) ?_
  refine z_k (S_bipush cx (n := 60) (by decide +kernel) (by decide)) ?_
  refine z_k (S_newa cx (kd := 1) (at0 := .boolean) (ty := .boolean) rfl rfl w_58 (by decide) rfl (fun _ _ h => h) (by decide +kernel)) ?_
  refine z_k (S_putF cx (T := F_Ch) (N := 6) (k := 1) (ty := t_Ch) rfl in_Ch t_Ch_ok n_Ch (by decide) rfl w_109 rfl hn rfl (Or.inr (Or.inr ⟨rfl, Or.inr ⟨_, rfl⟩⟩)) (by decide +kernel)) ?_
  refine z_k (S_aload_n cx (k := 0) (by decide +kernel) rfl) ?_
  refine z_k (S_push cx (n := 0) (by decide +kernel) (by decide)) ?_
  refine z_k (S_putf cx (T := F_Ch) (N := 6) (k := 2) (ty := t_Ch) rfl in_Ch t_Ch_ok n_Ch (by decide) rfl w_110 rfl (Or.inl ⟨rfl, rfl⟩) (by decide +kernel)) ?_
  refine z_k (S_aload_n cx (k := 0) (by decide +kernel) rfl) ?_
  refine z_k (S_push cx (n := 0) (by decide +kernel) (by decide)) ?_
  refine z_k (S_putf cx (T := F_Ch) (N := 6) (k := 3) (ty := t_Ch) rfl in_Ch t_Ch_ok n_Ch (by decide) rfl w_112 rfl (Or.inl ⟨rfl, rfl⟩) (by decide +kernel)) ?_
  refine z_k (S_aload_n cx (k := 0) (by decide +kernel) rfl) ?_
  refine z_k (S_push cx (n := 0) (by decide +kernel) (by decide)) ?_
  refine z_k (S_putf cx (T := F_Ch) (N := 6) (k := 4) (ty := t_Ch) rfl in_Ch t_Ch_ok n_Ch (by decide) rfl w_114 rfl (Or.inl ⟨rfl, rfl⟩) (by decide +kernel)) ?_
  refine z_k (S_aload_n cx (k := 0) (by decide +kernel) rfl) ?_
  refine z_k (S_push cx (n := -1) (by decide +kernel) (by decide)) ?_
  refine z_k (S_putf cx (T := F_Ch) (N := 6) (k := 5) (ty := t_Ch) rfl in_Ch t_Ch_ok n_Ch (by decide) rfl w_115 rfl (Or.inl ⟨rfl, rfl⟩) (by decide +kernel)) ?_
  refine z_k (S_aload_n cx (k := 0) (by decide +kernel) rfl) ?_
  refine z_k (S_aload_n cx (k := 1) (by decide +kernel) rfl) ?_
  refine z_k (S_putF cx (T := F_Ch) (N := 6) (k := 0) (ty := t_Ch) rfl in_Ch t_Ch_ok n_Ch (by decide) rfl w_108 rfl hn rfl (Or.inr (Or.inr ⟨rfl, Or.inl ⟨_, rfl⟩⟩)) (by decide +kernel)) ?_
  refine z_k (S_vret (hf.1 rfl) (by decide +kernel)) ?_
  exact z_k0
theorem s_Ch_init : z_snd zTab r_Ch_init := ⟨by decide +kernel, w_106, fun g d p l e R s m args below meth c Q P cx hn hf => z_k (s_Ch_init_0 cx hn hf) (z_k0)⟩
set_option maxRecDepth 100000 in
set_option maxHeartbeats 4000000 in
theorem s_Ch_setKeys_0 (cx : z_cx zTab g d p l e R s m args below meth c prog_3_method_2_code "SealedTalks$Channel" 3) (hn : meth.name = "setKeys") (hf : z_fin g p l e R s m args below meth c Q prog_3_method_2_code P none) : ∀ x ∈ k_Ch_setKeys_0, z_sn zTab g d p l e R s m args below meth c Q 3 P x := by
  unfold k_Ch_setKeys_0
  refine z_k (S_aload_n cx (k := 0) (by decide +kernel) rfl) ?_
  refine z_k (S_aload_n cx (k := 0) (by decide +kernel) rfl) ?_
  refine z_k (S_getf cx (T := F_Ch) (N := 6) (k := 0) rfl in_Ch (by decide) rfl w_108 (by decide +kernel)) ?_
  refine z_k (S_iload_n cx (k := 1) (by decide +kernel) rfl) ?_
  refine z_k (S_iload_n cx (k := 2) (by decide +kernel) rfl) ?_
  refine z_k (S_if_eq cx (off := 7) (by decide +kernel) (by decide)) ?_
  refine z_k (S_push cx (n := 1) (by decide +kernel) (by decide)) ?_
  refine z_k (S_goto cx (off := 4) (by decide +kernel) (by decide)) ?_
  refine z_k (S_push cx (n := 2) (by decide +kernel) (by decide)) ?_
  refine z_k (S_callV cx (T := F_Te) (N := 11) (r := r_Te_half) rfl ⟨w_322, w_2, by decide, by decide +kernel⟩ w_319 w_320 w_321 rfl (by decide +kernel)) ?_
  refine z_k (S_putf cx (T := F_Ch) (N := 6) (k := 2) (ty := t_Ch) rfl in_Ch t_Ch_ok n_Ch (by decide) rfl w_110 rfl (Or.inl ⟨rfl, rfl⟩) (by decide +kernel)) ?_
  refine z_k (S_aload_n cx (k := 0) (by decide +kernel) rfl) ?_
  refine z_k (S_aload_n cx (k := 0) (by decide +kernel) rfl) ?_
  refine z_k (S_getf cx (T := F_Ch) (N := 6) (k := 0) rfl in_Ch (by decide) rfl w_108 (by decide +kernel)) ?_
  refine z_k (S_iload_n cx (k := 1) (by decide +kernel) rfl) ?_
  refine z_k (S_iload_n cx (k := 2) (by decide +kernel) rfl) ?_
  refine z_k (S_if_eq cx (off := 7) (by decide +kernel) (by decide)) ?_
  refine z_k (S_push cx (n := 2) (by decide +kernel) (by decide)) ?_
  refine z_k (S_goto cx (off := 4) (by decide +kernel) (by decide)) ?_
  refine z_k (S_push cx (n := 1) (by decide +kernel) (by decide)) ?_
  refine z_k (S_callV cx (T := F_Te) (N := 11) (r := r_Te_half) rfl ⟨w_322, w_2, by decide, by decide +kernel⟩ w_319 w_320 w_321 rfl (by decide +kernel)) ?_
  refine z_k (S_putf cx (T := F_Ch) (N := 6) (k := 3) (ty := t_Ch) rfl in_Ch t_Ch_ok n_Ch (by decide) rfl w_112 rfl (Or.inl ⟨rfl, rfl⟩) (by decide +kernel)) ?_
  refine z_k (S_vret (hf.1 rfl) (by decide +kernel)) ?_
  exact z_k0
theorem s_Ch_setKeys : z_snd zTab r_Ch_setKeys := ⟨by decide +kernel, w_318, fun g d p l e R s m args below meth c Q P cx hn hf => z_k (s_Ch_setKeys_0 cx hn hf) (z_k0)⟩
set_option maxRecDepth 100000 in
set_option maxHeartbeats 4000000 in
theorem s_Ch_sendNext_0 (cx : z_cx zTab g d p l e R s m args below meth c prog_3_method_3_code "SealedTalks$Channel" 3) (hn : meth.name = "sendNext") (hf : z_fin g p l e R s m args below meth c Q prog_3_method_3_code P none) : ∀ x ∈ k_Ch_sendNext_0, z_sn zTab g d p l e R s m args below meth c Q 3 P x := by
  unfold k_Ch_sendNext_0
  refine z_k (S_aload_n cx (k := 1) (by decide +kernel) rfl) ?_
  refine z_k (S_aload_n cx (k := 0) (by decide +kernel) rfl) ?_
  refine z_k (S_getf cx (T := F_Ch) (N := 6) (k := 0) rfl in_Ch (by decide) rfl w_108 (by decide +kernel)) ?_
  refine z_k (S_aload_n cx (k := 0) (by decide +kernel) rfl) ?_
  refine z_k (S_getf cx (T := F_Ch) (N := 6) (k := 4) rfl in_Ch (by decide) rfl w_114 (by decide +kernel)) ?_
  refine z_k (S_callV cx (T := F_Te) (N := 11) (r := r_Te_num) rfl ⟨w_213, w_2, by decide, by decide +kernel⟩ w_336 w_211 w_212 rfl (by decide +kernel)) ?_
  refine z_k (S_callV cx (T := F_Me) (N := 3) (r := r_Me_addPart) rfl ⟨w_278, w_3, by decide, by decide +kernel⟩ w_337 w_276 w_277 rfl (by decide +kernel)) ?_
  refine z_k (S_aload_n cx (k := 1) (by decide +kernel) rfl) ?_
  refine z_k (S_aload_n cx (k := 0) (by decide +kernel) rfl) ?_
  refine z_k (S_getf cx (T := F_Ch) (N := 6) (k := 0) rfl in_Ch (by decide) rfl w_108 (by decide +kernel)) ?_
  refine z_k (S_aload_n cx (k := 0) (by decide +kernel) rfl) ?_
  refine z_k (S_getf cx (T := F_Ch) (N := 6) (k := 2) rfl in_Ch (by decide) rfl w_110 (by decide +kernel)) ?_
  refine z_k (S_aload_n cx (k := 0) (by decide +kernel) rfl) ?_
  refine z_k (S_getf cx (T := F_Ch) (N := 6) (k := 4) rfl in_Ch (by decide) rfl w_114 (by decide +kernel)) ?_
  refine z_k (S_aload_n cx (k := 0) (by decide +kernel) rfl) ?_
  refine z_k (S_getf cx (T := F_Ch) (N := 6) (k := 0) rfl in_Ch (by decide) rfl w_108 (by decide +kernel)) ?_
  refine z_k (S_push cx (n := 0) (by decide +kernel) (by decide)) ?_
  refine z_k (S_callV cx (T := F_Te) (N := 11) (r := r_Te_num) rfl ⟨w_213, w_2, by decide, by decide +kernel⟩ w_336 w_211 w_212 rfl (by decide +kernel)) ?_
  refine z_k (S_aload_n cx (k := 0) (by decide +kernel) rfl) ?_
  refine z_k (S_getf cx (T := F_Ch) (N := 6) (k := 0) rfl in_Ch (by decide) rfl w_108 (by decide +kernel)) ?_
  refine z_k (S_iload_n cx (k := 2) (by decide +kernel) rfl) ?_
  refine z_k (S_callV cx (T := F_Te) (N := 11) (r := r_Te_num) rfl ⟨w_213, w_2, by decide, by decide +kernel⟩ w_336 w_211 w_212 rfl (by decide +kernel)) ?_
  refine z_k (S_callV cx (T := F_Te) (N := 11) (r := r_Te_seal) rfl ⟨w_287, w_2, by decide, by decide +kernel⟩ w_338 w_285 w_286 rfl (by decide +kernel)) ?_
  refine z_k (S_callV cx (T := F_Me) (N := 3) (r := r_Me_addPart) rfl ⟨w_278, w_3, by decide, by decide +kernel⟩ w_337 w_276 w_277 rfl (by decide +kernel)) ?_
  exact z_k0
set_option maxRecDepth 100000 in
set_option maxHeartbeats 4000000 in
theorem s_Ch_sendNext_1 (cx : z_cx zTab g d p l e R s m args below meth c prog_3_method_3_code "SealedTalks$Channel" 3) (hn : meth.name = "sendNext") (hf : z_fin g p l e R s m args below meth c Q prog_3_method_3_code P none) : ∀ x ∈ k_Ch_sendNext_1, z_sn zTab g d p l e R s m args below meth c Q 3 P x := by
  unfold k_Ch_sendNext_1
  refine z_k (S_aload_n cx (k := 0) (by decide +kernel) rfl) ?_
  refine z_k (S_dup cx (by decide +kernel)) ?_
  refine z_k (S_getf cx (T := F_Ch) (N := 6) (k := 4) rfl in_Ch (by decide) rfl w_114 (by decide +kernel)) ?_
  refine z_k (S_push cx (n := 1) (by decide +kernel) (by decide)) ?_
  refine z_k (S_iadd cx (by decide +kernel)) ?_
  refine z_k (S_putf cx (T := F_Ch) (N := 6) (k := 4) (ty := t_Ch) rfl in_Ch t_Ch_ok n_Ch (by decide) rfl w_114 rfl (Or.inl ⟨rfl, rfl⟩) (by decide +kernel)) ?_
  refine z_k (S_vret (hf.1 rfl) (by decide +kernel)) ?_
  exact z_k0
theorem s_Ch_sendNext : z_snd zTab r_Ch_sendNext := ⟨by decide +kernel, w_335, fun g d p l e R s m args below meth c Q P cx hn hf => z_k (s_Ch_sendNext_0 cx hn hf) (z_k (s_Ch_sendNext_1 cx hn hf) (z_k0))⟩
set_option maxRecDepth 100000 in
set_option maxHeartbeats 4000000 in
theorem s_Ch_acceptNext_0 (cx : z_cx zTab g d p l e R s m args below meth c prog_3_method_4_code "SealedTalks$Channel" 6) (hn : meth.name = "acceptNext") (hf : z_fin g p l e R s m args below meth c Q prog_3_method_4_code P (some .int)) : ∀ x ∈ k_Ch_acceptNext_0, z_sn zTab g d p l e R s m args below meth c Q 6 P x := by
  unfold k_Ch_acceptNext_0
  refine z_k (S_aload_n cx (k := 1) (by decide +kernel) rfl) ?_
  refine z_k (S_iload_n cx (k := 2) (by decide +kernel) rfl) ?_
  refine z_k (S_push cx (n := 0) (by decide +kernel) (by decide)) ?_
  refine z_k (S_callV cx (T := F_Me) (N := 3) (r := r_Me_partAt) rfl ⟨w_354, w_3, by decide, by decide +kernel⟩ w_351 w_352 w_353 rfl (by decide +kernel)) ?_
  refine z_k (S_istore_n cx (by decide) (k := 3) (by decide +kernel) rfl) ?_
  refine z_k (S_aload_n cx (k := 1) (by decide +kernel) rfl) ?_
  refine z_k (S_iload_n cx (k := 2) (by decide +kernel) rfl) ?_
  refine z_k (S_push cx (n := 1) (by decide +kernel) (by decide)) ?_
  refine z_k (S_callV cx (T := F_Me) (N := 3) (r := r_Me_partAt) rfl ⟨w_354, w_3, by decide, by decide +kernel⟩ w_351 w_352 w_353 rfl (by decide +kernel)) ?_
  refine z_k (S_istore cx (by decide) (by decide +kernel)) ?_
  refine z_k (S_aload_n cx (k := 1) (by decide +kernel) rfl) ?_
  refine z_k (S_iload_n cx (k := 2) (by decide +kernel) rfl) ?_
  refine z_k (S_callV cx (T := F_Me) (N := 3) (r := r_Me_sizeOf) rfl ⟨w_358, w_3, by decide, by decide +kernel⟩ w_360 w_356 w_357 rfl (by decide +kernel)) ?_
  refine z_k (S_push cx (n := 2) (by decide +kernel) (by decide)) ?_
  refine z_k (S_icmp_ne cx (off := 14) (by decide +kernel) (by decide)) ?_
  refine z_k (S_aload_n cx (k := 0) (by decide +kernel) rfl) ?_
  refine z_k (S_getf cx (T := F_Ch) (N := 6) (k := 0) rfl in_Ch (by decide) rfl w_108 (by decide +kernel)) ?_
  refine z_k (S_iload_n cx (k := 3) (by decide +kernel) rfl) ?_
  refine z_k (S_callV cx (T := F_Te) (N := 11) (r := r_Te_isNum) rfl ⟨w_364, w_2, by decide, by decide +kernel⟩ w_361 w_362 w_363 rfl (by decide +kernel)) ?_
  refine z_k (S_if_ne cx (off := 5) (by decide +kernel) (by decide)) ?_
  refine z_k (S_push cx (n := 0) (by decide +kernel) (by decide)) ?_
  refine z_k (S_iret (hf.2.1 rfl) (by decide +kernel)) ?_
  refine z_k (S_aload_n cx (k := 0) (by decide +kernel) rfl) ?_
  refine z_k (S_getf cx (T := F_Ch) (N := 6) (k := 0) rfl in_Ch (by decide) rfl w_108 (by decide +kernel)) ?_
  exact z_k0
set_option maxRecDepth 100000 in
set_option maxHeartbeats 4000000 in
theorem s_Ch_acceptNext_1 (cx : z_cx zTab g d p l e R s m args below meth c prog_3_method_4_code "SealedTalks$Channel" 6) (hn : meth.name = "acceptNext") (hf : z_fin g p l e R s m args below meth c Q prog_3_method_4_code P (some .int)) : ∀ x ∈ k_Ch_acceptNext_1, z_sn zTab g d p l e R s m args below meth c Q 6 P x := by
  unfold k_Ch_acceptNext_1
  refine z_k (S_iload_n cx (k := 3) (by decide +kernel) rfl) ?_
  refine z_k (S_callV cx (T := F_Te) (N := 11) (r := r_Te_valueOf) rfl ⟨w_368, w_2, by decide, by decide +kernel⟩ w_365 w_366 w_367 rfl (by decide +kernel)) ?_
  refine z_k (S_istore cx (by decide) (by decide +kernel)) ?_
  refine z_k (S_aload_n cx (k := 0) (by decide +kernel) rfl) ?_
  refine z_k (S_iload cx (by decide +kernel)) ?_
  refine z_k (S_callV cx (T := F_Ch) (N := 6) (r := r_Ch_isFresh) rfl ⟨w_372, w_6, by decide, by decide +kernel⟩ w_369 w_371 wp_8 rfl (by decide +kernel)) ?_
  refine z_k (S_if_eq cx (off := 48) (by decide +kernel) (by decide)) ?_
  refine z_k (S_aload_n cx (k := 0) (by decide +kernel) rfl) ?_
  refine z_k (S_getf cx (T := F_Ch) (N := 6) (k := 0) rfl in_Ch (by decide) rfl w_108 (by decide +kernel)) ?_
  refine z_k (S_iload cx (by decide +kernel)) ?_
  refine z_k (S_aload_n cx (k := 0) (by decide +kernel) rfl) ?_
  refine z_k (S_getf cx (T := F_Ch) (N := 6) (k := 3) rfl in_Ch (by decide) rfl w_112 (by decide +kernel)) ?_
  refine z_k (S_iload cx (by decide +kernel)) ?_
  refine z_k (S_aload_n cx (k := 0) (by decide +kernel) rfl) ?_
  refine z_k (S_getf cx (T := F_Ch) (N := 6) (k := 0) rfl in_Ch (by decide) rfl w_108 (by decide +kernel)) ?_
  refine z_k (S_push cx (n := 0) (by decide +kernel) (by decide)) ?_
  refine z_k (S_callV cx (T := F_Te) (N := 11) (r := r_Te_num) rfl ⟨w_213, w_2, by decide, by decide +kernel⟩ w_336 w_211 w_212 rfl (by decide +kernel)) ?_
  refine z_k (S_callV cx (T := F_Te) (N := 11) (r := r_Te_isSealOf) rfl ⟨w_376, w_2, by decide, by decide +kernel⟩ w_373 w_374 w_375 rfl (by decide +kernel)) ?_
  refine z_k (S_if_eq cx (off := 22) (by decide +kernel) (by decide)) ?_
  refine z_k (S_aload_n cx (k := 0) (by decide +kernel) rfl) ?_
  refine z_k (S_getf cx (T := F_Ch) (N := 6) (k := 0) rfl in_Ch (by decide) rfl w_108 (by decide +kernel)) ?_
  refine z_k (S_aload_n cx (k := 0) (by decide +kernel) rfl) ?_
  refine z_k (S_getf cx (T := F_Ch) (N := 6) (k := 0) rfl in_Ch (by decide) rfl w_108 (by decide +kernel)) ?_
  refine z_k (S_iload cx (by decide +kernel)) ?_
  exact z_k0
set_option maxRecDepth 100000 in
set_option maxHeartbeats 4000000 in
theorem s_Ch_acceptNext_2 (cx : z_cx zTab g d p l e R s m args below meth c prog_3_method_4_code "SealedTalks$Channel" 6) (hn : meth.name = "acceptNext") (hf : z_fin g p l e R s m args below meth c Q prog_3_method_4_code P (some .int)) : ∀ x ∈ k_Ch_acceptNext_2, z_sn zTab g d p l e R s m args below meth c Q 6 P x := by
  unfold k_Ch_acceptNext_2
  refine z_k (S_callV cx (T := F_Te) (N := 11) (r := r_Te_insideOf) rfl ⟨w_384, w_2, by decide, by decide +kernel⟩ w_381 w_382 w_383 rfl (by decide +kernel)) ?_
  refine z_k (S_callV cx (T := F_Te) (N := 11) (r := r_Te_isNum) rfl ⟨w_364, w_2, by decide, by decide +kernel⟩ w_361 w_362 w_363 rfl (by decide +kernel)) ?_
  refine z_k (S_if_ne cx (off := 5) (by decide +kernel) (by decide)) ?_
  refine z_k (S_push cx (n := 0) (by decide +kernel) (by decide)) ?_
  refine z_k (S_iret (hf.2.1 rfl) (by decide +kernel)) ?_
  refine z_k (S_aload_n cx (k := 0) (by decide +kernel) rfl) ?_
  refine z_k (S_getf cx (T := F_Ch) (N := 6) (k := 1) rfl in_Ch (by decide) rfl w_109 (by decide +kernel)) ?_
  refine z_k (S_iload cx (by decide +kernel)) ?_
  refine z_k (S_push cx (n := 1) (by decide +kernel) (by decide)) ?_
  refine z_k (S_zast cx (by decide +kernel)) ?_
  refine z_k (S_aload_n cx (k := 0) (by decide +kernel) rfl) ?_
  refine z_k (S_aload_n cx (k := 0) (by decide +kernel) rfl) ?_
  refine z_k (S_getf cx (T := F_Ch) (N := 6) (k := 5) rfl in_Ch (by decide) rfl w_115 (by decide +kernel)) ?_
  refine z_k (S_iload cx (by decide +kernel)) ?_
  refine z_k (S_mmax cx w_385 w_300 w_8 w_301 (by decide +kernel)) ?_
  refine z_k (S_putf cx (T := F_Ch) (N := 6) (k := 5) (ty := t_Ch) rfl in_Ch t_Ch_ok n_Ch (by decide) rfl w_115 rfl (Or.inl ⟨rfl, rfl⟩) (by decide +kernel)) ?_
  refine z_k (S_aload_n cx (k := 0) (by decide +kernel) rfl) ?_
  refine z_k (S_getf cx (T := F_Ch) (N := 6) (k := 0) rfl in_Ch (by decide) rfl w_108 (by decide +kernel)) ?_
  refine z_k (S_iload cx (by decide +kernel)) ?_
  refine z_k (S_callV cx (T := F_Te) (N := 11) (r := r_Te_insideOf) rfl ⟨w_384, w_2, by decide, by decide +kernel⟩ w_381 w_382 w_383 rfl (by decide +kernel)) ?_
  refine z_k (S_iret (hf.2.1 rfl) (by decide +kernel)) ?_
  exact z_k0
theorem s_Ch_acceptNext : z_snd zTab r_Ch_acceptNext := ⟨by decide +kernel, w_350, fun g d p l e R s m args below meth c Q P cx hn hf => z_k (s_Ch_acceptNext_0 cx hn hf) (z_k (s_Ch_acceptNext_1 cx hn hf) (z_k (s_Ch_acceptNext_2 cx hn hf) (z_k0)))⟩
set_option maxRecDepth 100000 in
set_option maxHeartbeats 4000000 in
theorem s_Ch_isFresh_0 (cx : z_cx zTab g d p l e R s m args below meth c prog_3_method_5_code "SealedTalks$Channel" 2) (hn : meth.name = "isFresh") (hf : z_fin g p l e R s m args below meth c Q prog_3_method_5_code P (some .boolean)) : ∀ x ∈ k_Ch_isFresh_0, z_sn zTab g d p l e R s m args below meth c Q 2 P x := by
  unfold k_Ch_isFresh_0
  refine z_k (S_iload_n cx (k := 1) (by decide +kernel) rfl) ?_
  refine z_k (S_if_lt cx (off := 33) (by decide +kernel) (by decide)) ?_
  refine z_k (S_iload_n cx (k := 1) (by decide +kernel) rfl) ?_
  refine z_k (S_bipush cx (n := 60) (by decide +kernel) (by decide)) ?_
  refine z_k (S_icmp_ge cx (off := 27) (by decide +kernel) (by decide)) ?_
  refine z_k (S_iload_n cx (k := 1) (by decide +kernel) rfl) ?_
  refine z_k (S_aload_n cx (k := 0) (by decide +kernel) rfl) ?_
  refine z_k (S_getf cx (T := F_Ch) (N := 6) (k := 5) rfl in_Ch (by decide) rfl w_115 (by decide +kernel)) ?_
  refine z_k (S_bipush cx (n := 8) (by decide +kernel) (by decide)) ?_
  refine z_k (S_isub cx (by decide +kernel)) ?_
  refine z_k (S_icmp_le cx (off := 16) (by decide +kernel) (by decide)) ?_
  refine z_k (S_aload_n cx (k := 0) (by decide +kernel) rfl) ?_
  refine z_k (S_getf cx (T := F_Ch) (N := 6) (k := 1) rfl in_Ch (by decide) rfl w_109 (by decide +kernel)) ?_
  refine z_k (S_iload_n cx (k := 1) (by decide +kernel) rfl) ?_
  refine z_k (S_zald cx (by decide +kernel)) ?_
  refine z_k (S_if_ne cx (off := 7) (by decide +kernel) (by decide)) ?_
  refine z_k (S_push cx (n := 1) (by decide +kernel) (by decide)) ?_
  refine z_k (S_goto cx (off := 4) (by decide +kernel) (by decide)) ?_
  refine z_k (S_push cx (n := 0) (by decide +kernel) (by decide)) ?_
  refine z_k (S_zret (hf.2.2.1 rfl) (by decide +kernel)) ?_
  exact z_k0
theorem s_Ch_isFresh : z_snd zTab r_Ch_isFresh := ⟨by decide +kernel, w_372, fun g d p l e R s m args below meth c Q P cx hn hf => z_k (s_Ch_isFresh_0 cx hn hf) (z_k0)⟩
set_option maxRecDepth 100000 in
set_option maxHeartbeats 4000000 in
theorem s_Me_init_0 (cx : z_cx zTab g d p l e R s m args below meth c prog_4_method_1_code "SealedTalks$Messages" 1) (hn : meth.name = "<init>") (hf : z_fin g p l e R s m args below meth c Q prog_4_method_1_code P none) : ∀ x ∈ k_Me_init_0, z_sn zTab g d p l e R s m args below meth c Q 1 P x := by
  unfold k_Me_init_0
  refine z_k (S_aload_n cx (k := 0) (by decide +kernel) rfl) ?_
  refine z_k (S_oini cx w_64 w_15 w_16 (by decide +kernel)) ?_
  refine z_k (S_aload_n cx (k := 0) (by decide +kernel) rfl) ?_
  refine z_k (S_bipush cx (n := 60) (by decide +kernel) (by decide)) ?_
  refine z_k (S_newa cx (kd := 0) (at0 := .int) (ty := .int) rfl rfl w_57 (by decide) rfl (fun _ _ h => h) (by decide +kernel)) ?_
  refine z_k (S_putF cx (T := F_Me) (N := 3) (k := 0) (ty := t_Me) rfl in_Me t_Me_ok n_Me (by decide) rfl w_65 rfl hn rfl (Or.inr (Or.inr ⟨rfl, Or.inr ⟨_, rfl⟩⟩)) (by decide +kernel)) ?_
  refine z_k (S_aload_n cx (k := 0) (by decide +kernel) rfl) ?_
  refine z_k (S_sipush cx (n := 180) (by decide +kernel) (by decide)) ?_
  refine z_k (S_newa cx (kd := 0) (at0 := .int) (ty := .int) rfl rfl w_57 (by decide) rfl (fun _ _ h => h) (by decide +kernel)) ?_
  refine z_k (S_putF cx (T := F_Me) (N := 3) (k := 1) (ty := t_Me) rfl in_Me t_Me_ok n_Me (by decide) rfl w_66 rfl hn rfl (Or.inr (Or.inr ⟨rfl, Or.inr ⟨_, rfl⟩⟩)) (by decide +kernel)) ?_
  refine z_k (S_aload_n cx (k := 0) (by decide +kernel) rfl) ?_
  refine z_k (S_push cx (n := 0) (by decide +kernel) (by decide)) ?_
  refine z_k (S_putf cx (T := F_Me) (N := 3) (k := 2) (ty := t_Me) rfl in_Me t_Me_ok n_Me (by decide) rfl w_67 rfl (Or.inl ⟨rfl, rfl⟩) (by decide +kernel)) ?_
  refine z_k (S_vret (hf.1 rfl) (by decide +kernel)) ?_
  exact z_k0
theorem s_Me_init : z_snd zTab r_Me_init := ⟨by decide +kernel, w_63, fun g d p l e R s m args below meth c Q P cx hn hf => z_k (s_Me_init_0 cx hn hf) (z_k0)⟩
set_option maxRecDepth 100000 in
set_option maxHeartbeats 4000000 in
theorem s_Me_isFull_0 (cx : z_cx zTab g d p l e R s m args below meth c prog_4_method_2_code "SealedTalks$Messages" 1) (hn : meth.name = "isFull") (hf : z_fin g p l e R s m args below meth c Q prog_4_method_2_code P (some .boolean)) : ∀ x ∈ k_Me_isFull_0, z_sn zTab g d p l e R s m args below meth c Q 1 P x := by
  unfold k_Me_isFull_0
  refine z_k (S_aload_n cx (k := 0) (by decide +kernel) rfl) ?_
  refine z_k (S_getf cx (T := F_Me) (N := 3) (k := 2) rfl in_Me (by decide) rfl w_67 (by decide +kernel)) ?_
  refine z_k (S_bipush cx (n := 60) (by decide +kernel) (by decide)) ?_
  refine z_k (S_icmp_lt cx (off := 7) (by decide +kernel) (by decide)) ?_
  refine z_k (S_push cx (n := 1) (by decide +kernel) (by decide)) ?_
  refine z_k (S_goto cx (off := 4) (by decide +kernel) (by decide)) ?_
  refine z_k (S_push cx (n := 0) (by decide +kernel) (by decide)) ?_
  refine z_k (S_zret (hf.2.2.1 rfl) (by decide +kernel)) ?_
  exact z_k0
theorem s_Me_isFull : z_snd zTab r_Me_isFull := ⟨by decide +kernel, w_252, fun g d p l e R s m args below meth c Q P cx hn hf => z_k (s_Me_isFull_0 cx hn hf) (z_k0)⟩
set_option maxRecDepth 100000 in
set_option maxHeartbeats 4000000 in
theorem s_Me_has_0 (cx : z_cx zTab g d p l e R s m args below meth c prog_4_method_3_code "SealedTalks$Messages" 2) (hn : meth.name = "has") (hf : z_fin g p l e R s m args below meth c Q prog_4_method_3_code P (some .boolean)) : ∀ x ∈ k_Me_has_0, z_sn zTab g d p l e R s m args below meth c Q 2 P x := by
  unfold k_Me_has_0
  refine z_k (S_iload_n cx (k := 1) (by decide +kernel) rfl) ?_
  refine z_k (S_if_lt cx (off := 15) (by decide +kernel) (by decide)) ?_
  refine z_k (S_iload_n cx (k := 1) (by decide +kernel) rfl) ?_
  refine z_k (S_aload_n cx (k := 0) (by decide +kernel) rfl) ?_
  refine z_k (S_getf cx (T := F_Me) (N := 3) (k := 2) rfl in_Me (by decide) rfl w_67 (by decide +kernel)) ?_
  refine z_k (S_icmp_ge cx (off := 7) (by decide +kernel) (by decide)) ?_
  refine z_k (S_push cx (n := 1) (by decide +kernel) (by decide)) ?_
  refine z_k (S_goto cx (off := 4) (by decide +kernel) (by decide)) ?_
  refine z_k (S_push cx (n := 0) (by decide +kernel) (by decide)) ?_
  refine z_k (S_zret (hf.2.2.1 rfl) (by decide +kernel)) ?_
  exact z_k0
theorem s_Me_has : z_snd zTab r_Me_has := ⟨by decide +kernel, w_346, fun g d p l e R s m args below meth c Q P cx hn hf => z_k (s_Me_has_0 cx hn hf) (z_k0)⟩
set_option maxRecDepth 100000 in
set_option maxHeartbeats 4000000 in
theorem s_Me_sizeOf_0 (cx : z_cx zTab g d p l e R s m args below meth c prog_4_method_4_code "SealedTalks$Messages" 2) (hn : meth.name = "sizeOf") (hf : z_fin g p l e R s m args below meth c Q prog_4_method_4_code P (some .int)) : ∀ x ∈ k_Me_sizeOf_0, z_sn zTab g d p l e R s m args below meth c Q 2 P x := by
  unfold k_Me_sizeOf_0
  refine z_k (S_aload_n cx (k := 0) (by decide +kernel) rfl) ?_
  refine z_k (S_iload_n cx (k := 1) (by decide +kernel) rfl) ?_
  refine z_k (S_callV cx (T := F_Me) (N := 3) (r := r_Me_has) rfl ⟨w_346, w_3, by decide, by decide +kernel⟩ w_359 w_344 w_345 rfl (by decide +kernel)) ?_
  refine z_k (S_if_eq cx (off := 12) (by decide +kernel) (by decide)) ?_
  refine z_k (S_aload_n cx (k := 0) (by decide +kernel) rfl) ?_
  refine z_k (S_getf cx (T := F_Me) (N := 3) (k := 0) rfl in_Me (by decide) rfl w_65 (by decide +kernel)) ?_
  refine z_k (S_iload_n cx (k := 1) (by decide +kernel) rfl) ?_
  refine z_k (S_iald cx (by decide +kernel)) ?_
  refine z_k (S_goto cx (off := 4) (by decide +kernel) (by decide)) ?_
  refine z_k (S_push cx (n := 0) (by decide +kernel) (by decide)) ?_
  refine z_k (S_iret (hf.2.1 rfl) (by decide +kernel)) ?_
  exact z_k0
theorem s_Me_sizeOf : z_snd zTab r_Me_sizeOf := ⟨by decide +kernel, w_358, fun g d p l e R s m args below meth c Q P cx hn hf => z_k (s_Me_sizeOf_0 cx hn hf) (z_k0)⟩
set_option maxRecDepth 100000 in
set_option maxHeartbeats 4000000 in
theorem s_Me_partAt_0 (cx : z_cx zTab g d p l e R s m args below meth c prog_4_method_5_code "SealedTalks$Messages" 3) (hn : meth.name = "partAt") (hf : z_fin g p l e R s m args below meth c Q prog_4_method_5_code P (some .int)) : ∀ x ∈ k_Me_partAt_0, z_sn zTab g d p l e R s m args below meth c Q 3 P x := by
  unfold k_Me_partAt_0
  refine z_k (S_iload_n cx (k := 2) (by decide +kernel) rfl) ?_
  refine z_k (S_if_lt cx (off := 12) (by decide +kernel) (by decide)) ?_
  refine z_k (S_iload_n cx (k := 2) (by decide +kernel) rfl) ?_
  refine z_k (S_aload_n cx (k := 0) (by decide +kernel) rfl) ?_
  refine z_k (S_iload_n cx (k := 1) (by decide +kernel) rfl) ?_
  refine z_k (S_callV cx (T := F_Me) (N := 3) (r := r_Me_sizeOf) rfl ⟨w_358, w_3, by decide, by decide +kernel⟩ w_355 w_356 w_357 rfl (by decide +kernel)) ?_
  refine z_k (S_icmp_lt cx (off := 5) (by decide +kernel) (by decide)) ?_
  refine z_k (S_push cx (n := 0) (by decide +kernel) (by decide)) ?_
  refine z_k (S_iret (hf.2.1 rfl) (by decide +kernel)) ?_
  refine z_k (S_aload_n cx (k := 0) (by decide +kernel) rfl) ?_
  refine z_k (S_getf cx (T := F_Me) (N := 3) (k := 1) rfl in_Me (by decide) rfl w_66 (by decide +kernel)) ?_
  refine z_k (S_iload_n cx (k := 1) (by decide +kernel) rfl) ?_
  refine z_k (S_push cx (n := 3) (by decide +kernel) (by decide)) ?_
  refine z_k (S_imul cx (by decide +kernel)) ?_
  refine z_k (S_iload_n cx (k := 2) (by decide +kernel) rfl) ?_
  refine z_k (S_iadd cx (by decide +kernel)) ?_
  refine z_k (S_iald cx (by decide +kernel)) ?_
  refine z_k (S_iret (hf.2.1 rfl) (by decide +kernel)) ?_
  exact z_k0
theorem s_Me_partAt : z_snd zTab r_Me_partAt := ⟨by decide +kernel, w_354, fun g d p l e R s m args below meth c Q P cx hn hf => z_k (s_Me_partAt_0 cx hn hf) (z_k0)⟩
set_option maxRecDepth 100000 in
set_option maxHeartbeats 4000000 in
theorem s_Me_addPart_0 (cx : z_cx zTab g d p l e R s m args below meth c prog_4_method_6_code "SealedTalks$Messages" 2) (hn : meth.name = "addPart") (hf : z_fin g p l e R s m args below meth c Q prog_4_method_6_code P none) : ∀ x ∈ k_Me_addPart_0, z_sn zTab g d p l e R s m args below meth c Q 2 P x := by
  unfold k_Me_addPart_0
  refine z_k (S_aload_n cx (k := 0) (by decide +kernel) rfl) ?_
  refine z_k (S_callV cx (T := F_Me) (N := 3) (r := r_Me_isFull) rfl ⟨w_252, w_3, by decide, by decide +kernel⟩ w_279 w_250 w_251 rfl (by decide +kernel)) ?_
  refine z_k (S_if_ne cx (off := 16) (by decide +kernel) (by decide)) ?_
  refine z_k (S_aload_n cx (k := 0) (by decide +kernel) rfl) ?_
  refine z_k (S_getf cx (T := F_Me) (N := 3) (k := 0) rfl in_Me (by decide) rfl w_65 (by decide +kernel)) ?_
  refine z_k (S_aload_n cx (k := 0) (by decide +kernel) rfl) ?_
  refine z_k (S_getf cx (T := F_Me) (N := 3) (k := 2) rfl in_Me (by decide) rfl w_67 (by decide +kernel)) ?_
  refine z_k (S_iald cx (by decide +kernel)) ?_
  refine z_k (S_push cx (n := 3) (by decide +kernel) (by decide)) ?_
  refine z_k (S_icmp_lt cx (off := 4) (by decide +kernel) (by decide)) ?_
  refine z_k (S_vret (hf.1 rfl) (by decide +kernel)) ?_
  refine z_k (S_aload_n cx (k := 0) (by decide +kernel) rfl) ?_
  refine z_k (S_getf cx (T := F_Me) (N := 3) (k := 1) rfl in_Me (by decide) rfl w_66 (by decide +kernel)) ?_
  refine z_k (S_aload_n cx (k := 0) (by decide +kernel) rfl) ?_
  refine z_k (S_getf cx (T := F_Me) (N := 3) (k := 2) rfl in_Me (by decide) rfl w_67 (by decide +kernel)) ?_
  refine z_k (S_push cx (n := 3) (by decide +kernel) (by decide)) ?_
  refine z_k (S_imul cx (by decide +kernel)) ?_
  refine z_k (S_aload_n cx (k := 0) (by decide +kernel) rfl) ?_
  refine z_k (S_getf cx (T := F_Me) (N := 3) (k := 0) rfl in_Me (by decide) rfl w_65 (by decide +kernel)) ?_
  refine z_k (S_aload_n cx (k := 0) (by decide +kernel) rfl) ?_
  refine z_k (S_getf cx (T := F_Me) (N := 3) (k := 2) rfl in_Me (by decide) rfl w_67 (by decide +kernel)) ?_
  refine z_k (S_iald cx (by decide +kernel)) ?_
  refine z_k (S_iadd cx (by decide +kernel)) ?_
  refine z_k (S_iload_n cx (k := 1) (by decide +kernel) rfl) ?_
  exact z_k0
set_option maxRecDepth 100000 in
set_option maxHeartbeats 4000000 in
theorem s_Me_addPart_1 (cx : z_cx zTab g d p l e R s m args below meth c prog_4_method_6_code "SealedTalks$Messages" 2) (hn : meth.name = "addPart") (hf : z_fin g p l e R s m args below meth c Q prog_4_method_6_code P none) : ∀ x ∈ k_Me_addPart_1, z_sn zTab g d p l e R s m args below meth c Q 2 P x := by
  unfold k_Me_addPart_1
  refine z_k (S_iast cx (by decide +kernel)) ?_
  refine z_k (S_aload_n cx (k := 0) (by decide +kernel) rfl) ?_
  refine z_k (S_getf cx (T := F_Me) (N := 3) (k := 0) rfl in_Me (by decide) rfl w_65 (by decide +kernel)) ?_
  refine z_k (S_aload_n cx (k := 0) (by decide +kernel) rfl) ?_
  refine z_k (S_getf cx (T := F_Me) (N := 3) (k := 2) rfl in_Me (by decide) rfl w_67 (by decide +kernel)) ?_
  refine z_k (S_dup2 cx (by decide +kernel)) ?_
  refine z_k (S_iald cx (by decide +kernel)) ?_
  refine z_k (S_push cx (n := 1) (by decide +kernel) (by decide)) ?_
  refine z_k (S_iadd cx (by decide +kernel)) ?_
  refine z_k (S_iast cx (by decide +kernel)) ?_
  refine z_k (S_vret (hf.1 rfl) (by decide +kernel)) ?_
  exact z_k0
theorem s_Me_addPart : z_snd zTab r_Me_addPart := ⟨by decide +kernel, w_278, fun g d p l e R s m args below meth c Q P cx hn hf => z_k (s_Me_addPart_0 cx hn hf) (z_k (s_Me_addPart_1 cx hn hf) (z_k0))⟩
set_option maxRecDepth 100000 in
set_option maxHeartbeats 4000000 in
theorem s_Me_finish_0 (cx : z_cx zTab g d p l e R s m args below meth c prog_4_method_7_code "SealedTalks$Messages" 1) (hn : meth.name = "finish") (hf : z_fin g p l e R s m args below meth c Q prog_4_method_7_code P (some .int)) : ∀ x ∈ k_Me_finish_0, z_sn zTab g d p l e R s m args below meth c Q 1 P x := by
  unfold k_Me_finish_0
  refine z_k (S_aload_n cx (k := 0) (by decide +kernel) rfl) ?_
  refine z_k (S_dup cx (by decide +kernel)) ?_
  refine z_k (S_getf cx (T := F_Me) (N := 3) (k := 2) rfl in_Me (by decide) rfl w_67 (by decide +kernel)) ?_
  refine z_k (S_push cx (n := 1) (by decide +kernel) (by decide)) ?_
  refine z_k (S_iadd cx (by decide +kernel)) ?_
  refine z_k (S_putf cx (T := F_Me) (N := 3) (k := 2) (ty := t_Me) rfl in_Me t_Me_ok n_Me (by decide) rfl w_67 rfl (Or.inl ⟨rfl, rfl⟩) (by decide +kernel)) ?_
  refine z_k (S_aload_n cx (k := 0) (by decide +kernel) rfl) ?_
  refine z_k (S_getf cx (T := F_Me) (N := 3) (k := 2) rfl in_Me (by decide) rfl w_67 (by decide +kernel)) ?_
  refine z_k (S_push cx (n := 1) (by decide +kernel) (by decide)) ?_
  refine z_k (S_isub cx (by decide +kernel)) ?_
  refine z_k (S_iret (hf.2.1 rfl) (by decide +kernel)) ?_
  exact z_k0
theorem s_Me_finish : z_snd zTab r_Me_finish := ⟨by decide +kernel, w_326, fun g d p l e R s m args below meth c Q P cx hn hf => z_k (s_Me_finish_0 cx hn hf) (z_k0)⟩
set_option maxRecDepth 100000 in
set_option maxHeartbeats 4000000 in
theorem s_Se_init_0 (cx : z_cx zTab g d p l e R s m args below meth c prog_5_method_1_code "SealedTalks$Session" 2) (hn : meth.name = "<init>") (hf : z_fin g p l e R s m args below meth c Q prog_5_method_1_code P none) : ∀ x ∈ k_Se_init_0, z_sn zTab g d p l e R s m args below meth c Q 2 P x := by
  unfold k_Se_init_0
  refine z_k (S_aload_n cx (k := 0) (by decide +kernel) rfl) ?_
  refine z_k (S_oini cx w_101 w_15 w_16 (by decide +kernel)) ?_
  refine z_k (S_aload_n cx (k := 0) (by decide +kernel) rfl) ?_
  refine z_k (S_push cx (n := 0) (by decide +kernel) (by decide)) ?_
  refine z_k (S_putf cx (T := F_Se) (N := 8) (k := 4) (ty := t_Se) rfl in_Se t_Se_ok n_Se (by decide) rfl w_182 rfl (Or.inr (Or.inl ⟨rfl, rfl⟩)) (by decide +kernel)) ?_
  refine z_k (S_aload_n cx (k := 0) (by decide +kernel) rfl) ?_
  refine z_k (S_push cx (n := 0) (by decide +kernel) (by decide)) ?_
  refine z_k (S_putf cx (T := F_Se) (N := 8) (k := 5) (ty := t_Se) rfl in_Se t_Se_ok n_Se (by decide) rfl w_184 rfl (Or.inl ⟨rfl, rfl⟩) (by decide +kernel)) ?_
  refine z_k (S_aload_n cx (k := 0) (by decide +kernel) rfl) ?_
  refine z_k (S_push cx (n := 0) (by decide +kernel) (by decide)) ?_
  refine z_k (S_putf cx (T := F_Se) (N := 8) (k := 6) (ty := t_Se) rfl in_Se t_Se_ok n_Se (by decide) rfl w_185 rfl (Or.inl ⟨rfl, rfl⟩) (by decide +kernel)) ?_
  refine z_k (S_aload_n cx (k := 0) (by decide +kernel) rfl) ?_
  refine z_k (S_push cx (n := 0) (by decide +kernel) (by decide)) ?_
  refine z_k (S_putf cx (T := F_Se) (N := 8) (k := 7) (ty := t_Se) rfl in_Se t_Se_ok n_Se (by decide) rfl w_187 rfl (Or.inl ⟨rfl, rfl⟩) (by decide +kernel)) ?_
  refine z_k (S_aload_n cx (k := 0) (by decide +kernel) rfl) ?_
  refine z_k (S_aload_n cx (k := 1) (by decide +kernel) rfl) ?_
  refine z_k (S_putF cx (T := F_Se) (N := 8) (k := 0) (ty := t_Se) rfl in_Se t_Se_ok n_Se (by decide) rfl w_176 rfl hn rfl (Or.inr (Or.inr ⟨rfl, Or.inl ⟨_, rfl⟩⟩)) (by decide +kernel)) ?_
  refine z_k (S_aload_n cx (k := 0) (by decide +kernel) rfl) ?_
  refine z_k (S_new cx (T := F_Ch) (ty := t_Ch) rfl in_Ch t_Ch_ok w_102 w_103 w_6 fs_Ch (by decide +kernel)) ?_
  refine z_k (S_dup cx (by decide +kernel)) ?_
  refine z_k (S_aload_n cx (k := 1) (by decide +kernel) rfl) ?_
  refine z_k (S_callI cx (r := r_Ch_init) rfl ⟨w_106, w_6, by decide, by decide +kernel⟩ w_104 w_105 rfl rfl (by decide +kernel)) ?_
  refine z_k (S_putF cx (T := F_Se) (N := 8) (k := 1) (ty := t_Se) rfl in_Se t_Se_ok n_Se (by decide) rfl w_177 rfl hn rfl (Or.inr (Or.inr ⟨rfl, Or.inl ⟨_, rfl⟩⟩)) (by decide +kernel)) ?_
  refine z_k (S_aload_n cx (k := 0) (by decide +kernel) rfl) ?_
  exact z_k0
set_option maxRecDepth 100000 in
set_option maxHeartbeats 4000000 in
theorem s_Se_init_1 (cx : z_cx zTab g d p l e R s m args below meth c prog_5_method_1_code "SealedTalks$Session" 2) (hn : meth.name = "<init>") (hf : z_fin g p l e R s m args below meth c Q prog_5_method_1_code P none) : ∀ x ∈ k_Se_init_1, z_sn zTab g d p l e R s m args below meth c Q 2 P x := by
  unfold k_Se_init_1
  refine z_k (S_new cx (T := F_Ag) (ty := t_Ag) rfl in_Ag t_Ag_ok w_129 w_130 w_7 fs_Ag (by decide +kernel)) ?_
  refine z_k (S_dup cx (by decide +kernel)) ?_
  refine z_k (S_aload_n cx (k := 1) (by decide +kernel) rfl) ?_
  refine z_k (S_callI cx (r := r_Ag_init) rfl ⟨w_133, w_7, by decide, by decide +kernel⟩ w_131 w_132 rfl rfl (by decide +kernel)) ?_
  refine z_k (S_putF cx (T := F_Se) (N := 8) (k := 2) (ty := t_Se) rfl in_Se t_Se_ok n_Se (by decide) rfl w_179 rfl hn rfl (Or.inr (Or.inr ⟨rfl, Or.inl ⟨_, rfl⟩⟩)) (by decide +kernel)) ?_
  refine z_k (S_aload_n cx (k := 0) (by decide +kernel) rfl) ?_
  refine z_k (S_new cx (T := F_Ag) (ty := t_Ag) rfl in_Ag t_Ag_ok w_129 w_130 w_7 fs_Ag (by decide +kernel)) ?_
  refine z_k (S_dup cx (by decide +kernel)) ?_
  refine z_k (S_aload_n cx (k := 1) (by decide +kernel) rfl) ?_
  refine z_k (S_callI cx (r := r_Ag_init) rfl ⟨w_133, w_7, by decide, by decide +kernel⟩ w_131 w_132 rfl rfl (by decide +kernel)) ?_
  refine z_k (S_putF cx (T := F_Se) (N := 8) (k := 3) (ty := t_Se) rfl in_Se t_Se_ok n_Se (by decide) rfl w_181 rfl hn rfl (Or.inr (Or.inr ⟨rfl, Or.inl ⟨_, rfl⟩⟩)) (by decide +kernel)) ?_
  refine z_k (S_vret (hf.1 rfl) (by decide +kernel)) ?_
  exact z_k0
theorem s_Se_init : z_snd zTab r_Se_init := ⟨by decide +kernel, w_100, fun g d p l e R s m args below meth c Q P cx hn hf => z_k (s_Se_init_0 cx hn hf) (z_k (s_Se_init_1 cx hn hf) (z_k0))⟩
set_option maxRecDepth 100000 in
set_option maxHeartbeats 4000000 in
theorem s_Se_writeNext_0 (cx : z_cx zTab g d p l e R s m args below meth c prog_5_method_2_code "SealedTalks$Session" 3) (hn : meth.name = "writeNext") (hf : z_fin g p l e R s m args below meth c Q prog_5_method_2_code P none) : ∀ x ∈ k_Se_writeNext_0, z_sn zTab g d p l e R s m args below meth c Q 3 P x := by
  unfold k_Se_writeNext_0
  refine z_k (S_aload_n cx (k := 0) (by decide +kernel) rfl) ?_
  refine z_k (S_getf cx (T := F_Se) (N := 8) (k := 2) rfl in_Se (by decide) rfl w_179 (by decide +kernel)) ?_
  refine z_k (S_aload_n cx (k := 1) (by decide +kernel) rfl) ?_
  refine z_k (S_iload_n cx (k := 2) (by decide +kernel) rfl) ?_
  refine z_k (S_callV cx (T := F_Ag) (N := 12) (r := r_Ag_writeNext) rfl ⟨w_260, w_7, by decide, by decide +kernel⟩ w_257 w_258 w_259 rfl (by decide +kernel)) ?_
  refine z_k (S_aload_n cx (k := 0) (by decide +kernel) rfl) ?_
  refine z_k (S_callV cx (T := F_Se) (N := 8) (r := r_Se_endAgreement) rfl ⟨w_313, w_5, by decide, by decide +kernel⟩ w_310 w_312 wp_7 rfl (by decide +kernel)) ?_
  refine z_k (S_vret (hf.1 rfl) (by decide +kernel)) ?_
  exact z_k0
theorem s_Se_writeNext : z_snd zTab r_Se_writeNext := ⟨by decide +kernel, w_256, fun g d p l e R s m args below meth c Q P cx hn hf => z_k (s_Se_writeNext_0 cx hn hf) (z_k0)⟩
set_option maxRecDepth 100000 in
set_option maxHeartbeats 4000000 in
theorem s_Se_readNext_0 (cx : z_cx zTab g d p l e R s m args below meth c prog_5_method_3_code "SealedTalks$Session" 5) (hn : meth.name = "readNext") (hf : z_fin g p l e R s m args below meth c Q prog_5_method_3_code P (some .int)) : ∀ x ∈ k_Se_readNext_0, z_sn zTab g d p l e R s m args below meth c Q 5 P x := by
  unfold k_Se_readNext_0
  refine z_k (S_aload_n cx (k := 0) (by decide +kernel) rfl) ?_
  refine z_k (S_getf cx (T := F_Se) (N := 8) (k := 2) rfl in_Se (by decide) rfl w_179 (by decide +kernel)) ?_
  refine z_k (S_callV cx (T := F_Ag) (N := 12) (r := r_Ag_isOwnTurn) rfl ⟨w_244, w_7, by decide, by decide +kernel⟩ w_390 w_242 w_243 rfl (by decide +kernel)) ?_
  refine z_k (S_if_eq cx (off := 5) (by decide +kernel) (by decide)) ?_
  refine z_k (S_push cx (n := 0) (by decide +kernel) (by decide)) ?_
  refine z_k (S_iret (hf.2.1 rfl) (by decide +kernel)) ?_
  refine z_k (S_aload_n cx (k := 0) (by decide +kernel) rfl) ?_
  refine z_k (S_getf cx (T := F_Se) (N := 8) (k := 0) rfl in_Se (by decide) rfl w_176 (by decide +kernel)) ?_
  refine z_k (S_callV cx (T := F_Te) (N := 11) (r := r_Te_newest) rfl ⟨w_394, w_2, by decide, by decide +kernel⟩ w_391 w_392 w_393 rfl (by decide +kernel)) ?_
  refine z_k (S_istore_n cx (by decide) (k := 3) (by decide +kernel) rfl) ?_
  refine z_k (S_aload_n cx (k := 0) (by decide +kernel) rfl) ?_
  refine z_k (S_getf cx (T := F_Se) (N := 8) (k := 3) rfl in_Se (by decide) rfl w_181 (by decide +kernel)) ?_
  refine z_k (S_aload_n cx (k := 0) (by decide +kernel) rfl) ?_
  refine z_k (S_getf cx (T := F_Se) (N := 8) (k := 2) rfl in_Se (by decide) rfl w_179 (by decide +kernel)) ?_
  refine z_k (S_callV cx (T := F_Ag) (N := 12) (r := r_Ag_copyFrom) rfl ⟨w_398, w_7, by decide, by decide +kernel⟩ w_395 w_396 w_397 rfl (by decide +kernel)) ?_
  refine z_k (S_aload_n cx (k := 0) (by decide +kernel) rfl) ?_
  refine z_k (S_getf cx (T := F_Se) (N := 8) (k := 3) rfl in_Se (by decide) rfl w_181 (by decide +kernel)) ?_
  refine z_k (S_aload_n cx (k := 1) (by decide +kernel) rfl) ?_
  refine z_k (S_iload_n cx (k := 2) (by decide +kernel) rfl) ?_
  refine z_k (S_callV cx (T := F_Ag) (N := 12) (r := r_Ag_readNext) rfl ⟨w_402, w_7, by decide, by decide +kernel⟩ w_399 w_400 w_401 rfl (by decide +kernel)) ?_
  refine z_k (S_istore cx (by decide) (by decide +kernel)) ?_
  refine z_k (S_iload cx (by decide +kernel)) ?_
  refine z_k (S_if_ne cx (off := 13) (by decide +kernel) (by decide)) ?_
  refine z_k (S_aload_n cx (k := 0) (by decide +kernel) rfl) ?_
  exact z_k0
set_option maxRecDepth 100000 in
set_option maxHeartbeats 4000000 in
theorem s_Se_readNext_1 (cx : z_cx zTab g d p l e R s m args below meth c prog_5_method_3_code "SealedTalks$Session" 5) (hn : meth.name = "readNext") (hf : z_fin g p l e R s m args below meth c Q prog_5_method_3_code P (some .int)) : ∀ x ∈ k_Se_readNext_1, z_sn zTab g d p l e R s m args below meth c Q 5 P x := by
  unfold k_Se_readNext_1
  refine z_k (S_getf cx (T := F_Se) (N := 8) (k := 0) rfl in_Se (by decide) rfl w_176 (by decide +kernel)) ?_
  refine z_k (S_iload_n cx (k := 3) (by decide +kernel) rfl) ?_
  refine z_k (S_callV cx (T := F_Te) (N := 11) (r := r_Te_dropBehind) rfl ⟨w_428, w_2, by decide, by decide +kernel⟩ w_425 w_426 w_427 rfl (by decide +kernel)) ?_
  refine z_k (S_push cx (n := 0) (by decide +kernel) (by decide)) ?_
  refine z_k (S_iret (hf.2.1 rfl) (by decide +kernel)) ?_
  refine z_k (S_aload_n cx (k := 0) (by decide +kernel) rfl) ?_
  refine z_k (S_getf cx (T := F_Se) (N := 8) (k := 2) rfl in_Se (by decide) rfl w_179 (by decide +kernel)) ?_
  refine z_k (S_aload_n cx (k := 0) (by decide +kernel) rfl) ?_
  refine z_k (S_getf cx (T := F_Se) (N := 8) (k := 3) rfl in_Se (by decide) rfl w_181 (by decide +kernel)) ?_
  refine z_k (S_callV cx (T := F_Ag) (N := 12) (r := r_Ag_copyFrom) rfl ⟨w_398, w_7, by decide, by decide +kernel⟩ w_395 w_396 w_397 rfl (by decide +kernel)) ?_
  refine z_k (S_aload_n cx (k := 0) (by decide +kernel) rfl) ?_
  refine z_k (S_callV cx (T := F_Se) (N := 8) (r := r_Se_endAgreement) rfl ⟨w_313, w_5, by decide, by decide +kernel⟩ w_310 w_312 wp_7 rfl (by decide +kernel)) ?_
  refine z_k (S_iload cx (by decide +kernel)) ?_
  refine z_k (S_iret (hf.2.1 rfl) (by decide +kernel)) ?_
  exact z_k0
theorem s_Se_readNext : z_snd zTab r_Se_readNext := ⟨by decide +kernel, w_389, fun g d p l e R s m args below meth c Q P cx hn hf => z_k (s_Se_readNext_0 cx hn hf) (z_k (s_Se_readNext_1 cx hn hf) (z_k0))⟩
set_option maxRecDepth 100000 in
set_option maxHeartbeats 4000000 in
theorem s_Se_notePayload_0 (cx : z_cx zTab g d p l e R s m args below meth c prog_5_method_4_code "SealedTalks$Session" 2) (hn : meth.name = "notePayload") (hf : z_fin g p l e R s m args below meth c Q prog_5_method_4_code P none) : ∀ x ∈ k_Se_notePayload_0, z_sn zTab g d p l e R s m args below meth c Q 2 P x := by
  unfold k_Se_notePayload_0
  refine z_k (S_aload_n cx (k := 0) (by decide +kernel) rfl) ?_
  refine z_k (S_iload_n cx (k := 1) (by decide +kernel) rfl) ?_
  refine z_k (S_putf cx (T := F_Se) (N := 8) (k := 6) (ty := t_Se) rfl in_Se t_Se_ok n_Se (by decide) rfl w_185 rfl (Or.inl ⟨rfl, rfl⟩) (by decide +kernel)) ?_
  refine z_k (S_aload_n cx (k := 0) (by decide +kernel) rfl) ?_
  refine z_k (S_dup cx (by decide +kernel)) ?_
  refine z_k (S_getf cx (T := F_Se) (N := 8) (k := 7) rfl in_Se (by decide) rfl w_187 (by decide +kernel)) ?_
  refine z_k (S_push cx (n := 1) (by decide +kernel) (by decide)) ?_
  refine z_k (S_iadd cx (by decide +kernel)) ?_
  refine z_k (S_putf cx (T := F_Se) (N := 8) (k := 7) (ty := t_Se) rfl in_Se t_Se_ok n_Se (by decide) rfl w_187 rfl (Or.inl ⟨rfl, rfl⟩) (by decide +kernel)) ?_
  refine z_k (S_vret (hf.1 rfl) (by decide +kernel)) ?_
  exact z_k0
theorem s_Se_notePayload : z_snd zTab r_Se_notePayload := ⟨by decide +kernel, w_433, fun g d p l e R s m args below meth c Q P cx hn hf => z_k (s_Se_notePayload_0 cx hn hf) (z_k0)⟩
set_option maxRecDepth 100000 in
set_option maxHeartbeats 4000000 in
theorem s_Se_passTick_0 (cx : z_cx zTab g d p l e R s m args below meth c prog_5_method_5_code "SealedTalks$Session" 1) (hn : meth.name = "passTick") (hf : z_fin g p l e R s m args below meth c Q prog_5_method_5_code P (some .boolean)) : ∀ x ∈ k_Se_passTick_0, z_sn zTab g d p l e R s m args below meth c Q 1 P x := by
  unfold k_Se_passTick_0
  refine z_k (S_aload_n cx (k := 0) (by decide +kernel) rfl) ?_
  refine z_k (S_getf cx (T := F_Se) (N := 8) (k := 4) rfl in_Se (by decide) rfl w_182 (by decide +kernel)) ?_
  refine z_k (S_if_eq cx (off := 5) (by decide +kernel) (by decide)) ?_
  refine z_k (S_push cx (n := 0) (by decide +kernel) (by decide)) ?_
  refine z_k (S_zret (hf.2.2.1 rfl) (by decide +kernel)) ?_
  refine z_k (S_aload_n cx (k := 0) (by decide +kernel) rfl) ?_
  refine z_k (S_dup cx (by decide +kernel)) ?_
  refine z_k (S_getf cx (T := F_Se) (N := 8) (k := 5) rfl in_Se (by decide) rfl w_184 (by decide +kernel)) ?_
  refine z_k (S_push cx (n := 1) (by decide +kernel) (by decide)) ?_
  refine z_k (S_iadd cx (by decide +kernel)) ?_
  refine z_k (S_putf cx (T := F_Se) (N := 8) (k := 5) (ty := t_Se) rfl in_Se t_Se_ok n_Se (by decide) rfl w_184 rfl (Or.inl ⟨rfl, rfl⟩) (by decide +kernel)) ?_
  refine z_k (S_aload_n cx (k := 0) (by decide +kernel) rfl) ?_
  refine z_k (S_aload_n cx (k := 0) (by decide +kernel) rfl) ?_
  refine z_k (S_getf cx (T := F_Se) (N := 8) (k := 5) rfl in_Se (by decide) rfl w_184 (by decide +kernel)) ?_
  refine z_k (S_aload_n cx (k := 0) (by decide +kernel) rfl) ?_
  refine z_k (S_getf cx (T := F_Se) (N := 8) (k := 2) rfl in_Se (by decide) rfl w_179 (by decide +kernel)) ?_
  refine z_k (S_callV cx (T := F_Ag) (N := 12) (r := r_Ag_isDone) rfl ⟨w_248, w_7, by decide, by decide +kernel⟩ w_314 w_246 w_247 rfl (by decide +kernel)) ?_
  refine z_k (S_if_eq cx (off := 8) (by decide +kernel) (by decide)) ?_
  refine z_k (S_bipush cx (n := 30) (by decide +kernel) (by decide)) ?_
  refine z_k (S_goto cx (off := 5) (by decide +kernel) (by decide)) ?_
  refine z_k (S_bipush cx (n := 6) (by decide +kernel) (by decide)) ?_
  refine z_k (S_icmp_lt cx (off := 7) (by decide +kernel) (by decide)) ?_
  refine z_k (S_push cx (n := 1) (by decide +kernel) (by decide)) ?_
  refine z_k (S_goto cx (off := 4) (by decide +kernel) (by decide)) ?_
  exact z_k0
set_option maxRecDepth 100000 in
set_option maxHeartbeats 4000000 in
theorem s_Se_passTick_1 (cx : z_cx zTab g d p l e R s m args below meth c prog_5_method_5_code "SealedTalks$Session" 1) (hn : meth.name = "passTick") (hf : z_fin g p l e R s m args below meth c Q prog_5_method_5_code P (some .boolean)) : ∀ x ∈ k_Se_passTick_1, z_sn zTab g d p l e R s m args below meth c Q 1 P x := by
  unfold k_Se_passTick_1
  refine z_k (S_push cx (n := 0) (by decide +kernel) (by decide)) ?_
  refine z_k (S_putf cx (T := F_Se) (N := 8) (k := 4) (ty := t_Se) rfl in_Se t_Se_ok n_Se (by decide) rfl w_182 rfl (Or.inr (Or.inl ⟨rfl, rfl⟩)) (by decide +kernel)) ?_
  refine z_k (S_aload_n cx (k := 0) (by decide +kernel) rfl) ?_
  refine z_k (S_getf cx (T := F_Se) (N := 8) (k := 4) rfl in_Se (by decide) rfl w_182 (by decide +kernel)) ?_
  refine z_k (S_zret (hf.2.2.1 rfl) (by decide +kernel)) ?_
  exact z_k0
theorem s_Se_passTick : z_snd zTab r_Se_passTick := ⟨by decide +kernel, w_465, fun g d p l e R s m args below meth c Q P cx hn hf => z_k (s_Se_passTick_0 cx hn hf) (z_k (s_Se_passTick_1 cx hn hf) (z_k0))⟩
set_option maxRecDepth 100000 in
set_option maxHeartbeats 4000000 in
theorem s_Se_endAgreement_0 (cx : z_cx zTab g d p l e R s m args below meth c prog_5_method_6_code "SealedTalks$Session" 1) (hn : meth.name = "endAgreement") (hf : z_fin g p l e R s m args below meth c Q prog_5_method_6_code P none) : ∀ x ∈ k_Se_endAgreement_0, z_sn zTab g d p l e R s m args below meth c Q 1 P x := by
  unfold k_Se_endAgreement_0
  refine z_k (S_aload_n cx (k := 0) (by decide +kernel) rfl) ?_
  refine z_k (S_getf cx (T := F_Se) (N := 8) (k := 2) rfl in_Se (by decide) rfl w_179 (by decide +kernel)) ?_
  refine z_k (S_callV cx (T := F_Ag) (N := 12) (r := r_Ag_isDone) rfl ⟨w_248, w_7, by decide, by decide +kernel⟩ w_314 w_246 w_247 rfl (by decide +kernel)) ?_
  refine z_k (S_if_eq cx (off := 29) (by decide +kernel) (by decide)) ?_
  refine z_k (S_aload_n cx (k := 0) (by decide +kernel) rfl) ?_
  refine z_k (S_getf cx (T := F_Se) (N := 8) (k := 1) rfl in_Se (by decide) rfl w_177 (by decide +kernel)) ?_
  refine z_k (S_aload_n cx (k := 0) (by decide +kernel) rfl) ?_
  refine z_k (S_getf cx (T := F_Se) (N := 8) (k := 2) rfl in_Se (by decide) rfl w_179 (by decide +kernel)) ?_
  refine z_k (S_getfN cx (T := F_Ag) (N := 12) (k := 8) rfl in_Ag (by decide) rfl w_146 (by decide +kernel)) ?_
  refine z_k (S_aload_n cx (k := 0) (by decide +kernel) rfl) ?_
  refine z_k (S_getf cx (T := F_Se) (N := 8) (k := 2) rfl in_Se (by decide) rfl w_179 (by decide +kernel)) ?_
  refine z_k (S_getfN cx (T := F_Ag) (N := 12) (k := 2) rfl in_Ag (by decide) rfl w_138 (by decide +kernel)) ?_
  refine z_k (S_callV cx (T := F_Ch) (N := 6) (r := r_Ch_setKeys) rfl ⟨w_318, w_6, by decide, by decide +kernel⟩ w_315 w_316 w_317 rfl (by decide +kernel)) ?_
  refine z_k (S_aload_n cx (k := 0) (by decide +kernel) rfl) ?_
  refine z_k (S_push cx (n := 0) (by decide +kernel) (by decide)) ?_
  refine z_k (S_putf cx (T := F_Se) (N := 8) (k := 5) (ty := t_Se) rfl in_Se t_Se_ok n_Se (by decide) rfl w_184 rfl (Or.inl ⟨rfl, rfl⟩) (by decide +kernel)) ?_
  refine z_k (S_vret (hf.1 rfl) (by decide +kernel)) ?_
  exact z_k0
theorem s_Se_endAgreement : z_snd zTab r_Se_endAgreement := ⟨by decide +kernel, w_313, fun g d p l e R s m args below meth c Q P cx hn hf => z_k (s_Se_endAgreement_0 cx hn hf) (z_k0)⟩
end ZR10
end
section
/-! Each method of SealedTalks$Terms is sound (0). By program. -/
section ZR20
variable {g : zG} {d : Nat} {p : Program} {l : Launch} {e : Env} {R : Room} {s : State} {m : MethodId} {args : Array Value} {below : List Frame} {meth : Method} {c : Code} {Q : State → Prop} {P : zP}
set_option maxRecDepth 100000 in
set_option maxHeartbeats 4000000 in
theorem s_Te_init_0 (cx : z_cx zTab g d p l e R s m args below meth c prog_6_method_1_code "SealedTalks$Terms" 1) (hn : meth.name = "<init>") (hf : z_fin g p l e R s m args below meth c Q prog_6_method_1_code P none) : ∀ x ∈ k_Te_init_0, z_sn zTab g d p l e R s m args below meth c Q 1 P x := by
  unfold k_Te_init_0
  refine z_k (S_aload_n cx (k := 0) (by decide +kernel) rfl) ?_
  refine z_k (S_oini cx w_22 w_15 w_16 (by decide +kernel)) ?_
  refine z_k (S_aload_n cx (k := 0) (by decide +kernel) rfl) ?_
  refine z_k (S_sipush cx (n := 720) (by decide +kernel) (by decide)) ?_
  refine z_k (S_newa cx (kd := 0) (at0 := .int) (ty := .int) rfl rfl w_57 (by decide) rfl (fun _ _ h => h) (by decide +kernel)) ?_
  refine z_k (S_putF cx (T := F_Te) (N := 11) (k := 0) (ty := t_Te) rfl in_Te t_Te_ok n_Te (by decide) rfl w_23 rfl hn rfl (Or.inr (Or.inr ⟨rfl, Or.inr ⟨_, rfl⟩⟩)) (by decide +kernel)) ?_
  refine z_k (S_aload_n cx (k := 0) (by decide +kernel) rfl) ?_
  refine z_k (S_sipush cx (n := 720) (by decide +kernel) (by decide)) ?_
  refine z_k (S_newa cx (kd := 0) (at0 := .int) (ty := .int) rfl rfl w_57 (by decide) rfl (fun _ _ h => h) (by decide +kernel)) ?_
  refine z_k (S_putF cx (T := F_Te) (N := 11) (k := 1) (ty := t_Te) rfl in_Te t_Te_ok n_Te (by decide) rfl w_24 rfl hn rfl (Or.inr (Or.inr ⟨rfl, Or.inr ⟨_, rfl⟩⟩)) (by decide +kernel)) ?_
  refine z_k (S_aload_n cx (k := 0) (by decide +kernel) rfl) ?_
  refine z_k (S_sipush cx (n := 720) (by decide +kernel) (by decide)) ?_
  refine z_k (S_newa cx (kd := 0) (at0 := .int) (ty := .int) rfl rfl w_57 (by decide) rfl (fun _ _ h => h) (by decide +kernel)) ?_
  refine z_k (S_putF cx (T := F_Te) (N := 11) (k := 2) (ty := t_Te) rfl in_Te t_Te_ok n_Te (by decide) rfl w_25 rfl hn rfl (Or.inr (Or.inr ⟨rfl, Or.inr ⟨_, rfl⟩⟩)) (by decide +kernel)) ?_
  refine z_k (S_aload_n cx (k := 0) (by decide +kernel) rfl) ?_
  refine z_k (S_sipush cx (n := 720) (by decide +kernel) (by decide)) ?_
  refine z_k (S_newa cx (kd := 0) (at0 := .int) (ty := .int) rfl rfl w_57 (by decide) rfl (fun _ _ h => h) (by decide +kernel)) ?_
  refine z_k (S_putF cx (T := F_Te) (N := 11) (k := 3) (ty := t_Te) rfl in_Te t_Te_ok n_Te (by decide) rfl w_26 rfl hn rfl (Or.inr (Or.inr ⟨rfl, Or.inr ⟨_, rfl⟩⟩)) (by decide +kernel)) ?_
  refine z_k (S_aload_n cx (k := 0) (by decide +kernel) rfl) ?_
  refine z_k (S_sipush cx (n := 720) (by decide +kernel) (by decide)) ?_
  refine z_k (S_newa cx (kd := 0) (at0 := .int) (ty := .int) rfl rfl w_57 (by decide) rfl (fun _ _ h => h) (by decide +kernel)) ?_
  refine z_k (S_putF cx (T := F_Te) (N := 11) (k := 4) (ty := t_Te) rfl in_Te t_Te_ok n_Te (by decide) rfl w_27 rfl hn rfl (Or.inr (Or.inr ⟨rfl, Or.inr ⟨_, rfl⟩⟩)) (by decide +kernel)) ?_
  refine z_k (S_aload_n cx (k := 0) (by decide +kernel) rfl) ?_
  refine z_k (S_sipush cx (n := 720) (by decide +kernel) (by decide)) ?_
  exact z_k0
set_option maxRecDepth 100000 in
set_option maxHeartbeats 4000000 in
theorem s_Te_init_1 (cx : z_cx zTab g d p l e R s m args below meth c prog_6_method_1_code "SealedTalks$Terms" 1) (hn : meth.name = "<init>") (hf : z_fin g p l e R s m args below meth c Q prog_6_method_1_code P none) : ∀ x ∈ k_Te_init_1, z_sn zTab g d p l e R s m args below meth c Q 1 P x := by
  unfold k_Te_init_1
  refine z_k (S_newa cx (kd := 1) (at0 := .boolean) (ty := .boolean) rfl rfl w_58 (by decide) rfl (fun _ _ h => h) (by decide +kernel)) ?_
  refine z_k (S_putF cx (T := F_Te) (N := 11) (k := 5) (ty := t_Te) rfl in_Te t_Te_ok n_Te (by decide) rfl w_28 rfl hn rfl (Or.inr (Or.inr ⟨rfl, Or.inr ⟨_, rfl⟩⟩)) (by decide +kernel)) ?_
  refine z_k (S_aload_n cx (k := 0) (by decide +kernel) rfl) ?_
  refine z_k (S_sipush cx (n := 720) (by decide +kernel) (by decide)) ?_
  refine z_k (S_newa cx (kd := 0) (at0 := .int) (ty := .int) rfl rfl w_57 (by decide) rfl (fun _ _ h => h) (by decide +kernel)) ?_
  refine z_k (S_putF cx (T := F_Te) (N := 11) (k := 6) (ty := t_Te) rfl in_Te t_Te_ok n_Te (by decide) rfl w_29 rfl hn rfl (Or.inr (Or.inr ⟨rfl, Or.inr ⟨_, rfl⟩⟩)) (by decide +kernel)) ?_
  refine z_k (S_aload_n cx (k := 0) (by decide +kernel) rfl) ?_
  refine z_k (S_sipush cx (n := 128) (by decide +kernel) (by decide)) ?_
  refine z_k (S_newa cx (kd := 0) (at0 := .int) (ty := .int) rfl rfl w_57 (by decide) rfl (fun _ _ h => h) (by decide +kernel)) ?_
  refine z_k (S_putF cx (T := F_Te) (N := 11) (k := 7) (ty := t_Te) rfl in_Te t_Te_ok n_Te (by decide) rfl w_30 rfl hn rfl (Or.inr (Or.inr ⟨rfl, Or.inr ⟨_, rfl⟩⟩)) (by decide +kernel)) ?_
  refine z_k (S_aload_n cx (k := 0) (by decide +kernel) rfl) ?_
  refine z_k (S_bipush cx (n := 21) (by decide +kernel) (by decide)) ?_
  refine z_k (S_newa cx (kd := 1) (at0 := .boolean) (ty := .boolean) rfl rfl w_58 (by decide) rfl (fun _ _ h => h) (by decide +kernel)) ?_
  refine z_k (S_putF cx (T := F_Te) (N := 11) (k := 8) (ty := t_Te) rfl in_Te t_Te_ok n_Te (by decide) rfl w_31 rfl hn rfl (Or.inr (Or.inr ⟨rfl, Or.inr ⟨_, rfl⟩⟩)) (by decide +kernel)) ?_
  refine z_k (S_aload_n cx (k := 0) (by decide +kernel) rfl) ?_
  refine z_k (S_push cx (n := 0) (by decide +kernel) (by decide)) ?_
  refine z_k (S_putf cx (T := F_Te) (N := 11) (k := 9) (ty := t_Te) rfl in_Te t_Te_ok n_Te (by decide) rfl w_32 rfl (Or.inl ⟨rfl, rfl⟩) (by decide +kernel)) ?_
  refine z_k (S_aload_n cx (k := 0) (by decide +kernel) rfl) ?_
  refine z_k (S_bipush cx (n := 8) (by decide +kernel) (by decide)) ?_
  refine z_k (S_putf cx (T := F_Te) (N := 11) (k := 10) (ty := t_Te) rfl in_Te t_Te_ok n_Te (by decide) rfl w_33 rfl (Or.inl ⟨rfl, rfl⟩) (by decide +kernel)) ?_
  refine z_k (S_vret (hf.1 rfl) (by decide +kernel)) ?_
  exact z_k0
theorem s_Te_init : z_snd zTab r_Te_init := ⟨by decide +kernel, w_21, fun g d p l e R s m args below meth c Q P cx hn hf => z_k (s_Te_init_0 cx hn hf) (z_k (s_Te_init_1 cx hn hf) (z_k0))⟩
set_option maxRecDepth 100000 in
set_option maxHeartbeats 4000000 in
theorem s_Te_num_0 (cx : z_cx zTab g d p l e R s m args below meth c prog_6_method_2_code "SealedTalks$Terms" 2) (hn : meth.name = "num") (hf : z_fin g p l e R s m args below meth c Q prog_6_method_2_code P (some .int)) : ∀ x ∈ k_Te_num_0, z_sn zTab g d p l e R s m args below meth c Q 2 P x := by
  unfold k_Te_num_0
  refine z_k (S_aload_n cx (k := 0) (by decide +kernel) rfl) ?_
  refine z_k (S_push cx (n := 1) (by decide +kernel) (by decide)) ?_
  refine z_k (S_iload_n cx (k := 1) (by decide +kernel) rfl) ?_
  refine z_k (S_push cx (n := 0) (by decide +kernel) (by decide)) ?_
  refine z_k (S_push cx (n := 0) (by decide +kernel) (by decide)) ?_
  refine z_k (S_push cx (n := 0) (by decide +kernel) (by decide)) ?_
  refine z_k (S_callV cx (T := F_Te) (N := 11) (r := r_Te_make) rfl ⟨w_217, w_2, by decide, by decide +kernel⟩ w_214 w_216 wp_0 rfl (by decide +kernel)) ?_
  refine z_k (S_iret (hf.2.1 rfl) (by decide +kernel)) ?_
  exact z_k0
theorem s_Te_num : z_snd zTab r_Te_num := ⟨by decide +kernel, w_213, fun g d p l e R s m args below meth c Q P cx hn hf => z_k (s_Te_num_0 cx hn hf) (z_k0)⟩
set_option maxRecDepth 100000 in
set_option maxHeartbeats 4000000 in
theorem s_Te_pub_0 (cx : z_cx zTab g d p l e R s m args below meth c prog_6_method_3_code "SealedTalks$Terms" 2) (hn : meth.name = "pub") (hf : z_fin g p l e R s m args below meth c Q prog_6_method_3_code P (some .int)) : ∀ x ∈ k_Te_pub_0, z_sn zTab g d p l e R s m args below meth c Q 2 P x := by
  unfold k_Te_pub_0
  refine z_k (S_aload_n cx (k := 0) (by decide +kernel) rfl) ?_
  refine z_k (S_push cx (n := 2) (by decide +kernel) (by decide)) ?_
  refine z_k (S_iload_n cx (k := 1) (by decide +kernel) rfl) ?_
  refine z_k (S_push cx (n := 0) (by decide +kernel) (by decide)) ?_
  refine z_k (S_push cx (n := 0) (by decide +kernel) (by decide)) ?_
  refine z_k (S_push cx (n := 0) (by decide +kernel) (by decide)) ?_
  refine z_k (S_callV cx (T := F_Te) (N := 11) (r := r_Te_make) rfl ⟨w_217, w_2, by decide, by decide +kernel⟩ w_214 w_216 wp_0 rfl (by decide +kernel)) ?_
  refine z_k (S_iret (hf.2.1 rfl) (by decide +kernel)) ?_
  exact z_k0
theorem s_Te_pub : z_snd zTab r_Te_pub := ⟨by decide +kernel, w_232, fun g d p l e R s m args below meth c Q P cx hn hf => z_k (s_Te_pub_0 cx hn hf) (z_k0)⟩
set_option maxRecDepth 100000 in
set_option maxHeartbeats 4000000 in
theorem s_Te_dh_0 (cx : z_cx zTab g d p l e R s m args below meth c prog_6_method_4_code "SealedTalks$Terms" 3) (hn : meth.name = "dh") (hf : z_fin g p l e R s m args below meth c Q prog_6_method_4_code P (some .int)) : ∀ x ∈ k_Te_dh_0, z_sn zTab g d p l e R s m args below meth c Q 3 P x := by
  unfold k_Te_dh_0
  refine z_k (S_aload_n cx (k := 0) (by decide +kernel) rfl) ?_
  refine z_k (S_push cx (n := 3) (by decide +kernel) (by decide)) ?_
  refine z_k (S_iload_n cx (k := 1) (by decide +kernel) rfl) ?_
  refine z_k (S_iload_n cx (k := 2) (by decide +kernel) rfl) ?_
  refine z_k (S_mmin cx w_296 w_297 w_8 w_298 (by decide +kernel)) ?_
  refine z_k (S_iload_n cx (k := 1) (by decide +kernel) rfl) ?_
  refine z_k (S_iload_n cx (k := 2) (by decide +kernel) rfl) ?_
  refine z_k (S_mmax cx w_299 w_300 w_8 w_301 (by decide +kernel)) ?_
  refine z_k (S_push cx (n := 0) (by decide +kernel) (by decide)) ?_
  refine z_k (S_push cx (n := 0) (by decide +kernel) (by decide)) ?_
  refine z_k (S_callV cx (T := F_Te) (N := 11) (r := r_Te_make) rfl ⟨w_217, w_2, by decide, by decide +kernel⟩ w_214 w_216 wp_0 rfl (by decide +kernel)) ?_
  refine z_k (S_iret (hf.2.1 rfl) (by decide +kernel)) ?_
  exact z_k0
theorem s_Te_dh : z_snd zTab r_Te_dh := ⟨by decide +kernel, w_295, fun g d p l e R s m args below meth c Q P cx hn hf => z_k (s_Te_dh_0 cx hn hf) (z_k0)⟩
set_option maxRecDepth 100000 in
set_option maxHeartbeats 4000000 in
theorem s_Te_hash_0 (cx : z_cx zTab g d p l e R s m args below meth c prog_6_method_5_code "SealedTalks$Terms" 3) (hn : meth.name = "hash") (hf : z_fin g p l e R s m args below meth c Q prog_6_method_5_code P (some .int)) : ∀ x ∈ k_Te_hash_0, z_sn zTab g d p l e R s m args below meth c Q 3 P x := by
  unfold k_Te_hash_0
  refine z_k (S_aload_n cx (k := 0) (by decide +kernel) rfl) ?_
  refine z_k (S_push cx (n := 4) (by decide +kernel) (by decide)) ?_
  refine z_k (S_iload_n cx (k := 1) (by decide +kernel) rfl) ?_
  refine z_k (S_iload_n cx (k := 2) (by decide +kernel) rfl) ?_
  refine z_k (S_push cx (n := 0) (by decide +kernel) (by decide)) ?_
  refine z_k (S_push cx (n := 0) (by decide +kernel) (by decide)) ?_
  refine z_k (S_callV cx (T := F_Te) (N := 11) (r := r_Te_make) rfl ⟨w_217, w_2, by decide, by decide +kernel⟩ w_214 w_216 wp_0 rfl (by decide +kernel)) ?_
  refine z_k (S_iret (hf.2.1 rfl) (by decide +kernel)) ?_
  exact z_k0
theorem s_Te_hash : z_snd zTab r_Te_hash := ⟨by decide +kernel, w_228, fun g d p l e R s m args below meth c Q P cx hn hf => z_k (s_Te_hash_0 cx hn hf) (z_k0)⟩
set_option maxRecDepth 100000 in
set_option maxHeartbeats 4000000 in
theorem s_Te_chain_0 (cx : z_cx zTab g d p l e R s m args below meth c prog_6_method_6_code "SealedTalks$Terms" 3) (hn : meth.name = "chain") (hf : z_fin g p l e R s m args below meth c Q prog_6_method_6_code P (some .int)) : ∀ x ∈ k_Te_chain_0, z_sn zTab g d p l e R s m args below meth c Q 3 P x := by
  unfold k_Te_chain_0
  refine z_k (S_aload_n cx (k := 0) (by decide +kernel) rfl) ?_
  refine z_k (S_push cx (n := 5) (by decide +kernel) (by decide)) ?_
  refine z_k (S_iload_n cx (k := 1) (by decide +kernel) rfl) ?_
  refine z_k (S_iload_n cx (k := 2) (by decide +kernel) rfl) ?_
  refine z_k (S_push cx (n := 0) (by decide +kernel) (by decide)) ?_
  refine z_k (S_push cx (n := 0) (by decide +kernel) (by decide)) ?_
  refine z_k (S_callV cx (T := F_Te) (N := 11) (r := r_Te_make) rfl ⟨w_217, w_2, by decide, by decide +kernel⟩ w_214 w_216 wp_0 rfl (by decide +kernel)) ?_
  refine z_k (S_iret (hf.2.1 rfl) (by decide +kernel)) ?_
  exact z_k0
theorem s_Te_chain : z_snd zTab r_Te_chain := ⟨by decide +kernel, w_309, fun g d p l e R s m args below meth c Q P cx hn hf => z_k (s_Te_chain_0 cx hn hf) (z_k0)⟩
set_option maxRecDepth 100000 in
set_option maxHeartbeats 4000000 in
theorem s_Te_key_0 (cx : z_cx zTab g d p l e R s m args below meth c prog_6_method_7_code "SealedTalks$Terms" 3) (hn : meth.name = "key") (hf : z_fin g p l e R s m args below meth c Q prog_6_method_7_code P (some .int)) : ∀ x ∈ k_Te_key_0, z_sn zTab g d p l e R s m args below meth c Q 3 P x := by
  unfold k_Te_key_0
  refine z_k (S_aload_n cx (k := 0) (by decide +kernel) rfl) ?_
  refine z_k (S_bipush cx (n := 6) (by decide +kernel) (by decide)) ?_
  refine z_k (S_iload_n cx (k := 1) (by decide +kernel) rfl) ?_
  refine z_k (S_iload_n cx (k := 2) (by decide +kernel) rfl) ?_
  refine z_k (S_push cx (n := 0) (by decide +kernel) (by decide)) ?_
  refine z_k (S_push cx (n := 0) (by decide +kernel) (by decide)) ?_
  refine z_k (S_callV cx (T := F_Te) (N := 11) (r := r_Te_make) rfl ⟨w_217, w_2, by decide, by decide +kernel⟩ w_214 w_216 wp_0 rfl (by decide +kernel)) ?_
  refine z_k (S_iret (hf.2.1 rfl) (by decide +kernel)) ?_
  exact z_k0
theorem s_Te_key : z_snd zTab r_Te_key := ⟨by decide +kernel, w_305, fun g d p l e R s m args below meth c Q P cx hn hf => z_k (s_Te_key_0 cx hn hf) (z_k0)⟩
set_option maxRecDepth 100000 in
set_option maxHeartbeats 4000000 in
theorem s_Te_half_0 (cx : z_cx zTab g d p l e R s m args below meth c prog_6_method_8_code "SealedTalks$Terms" 3) (hn : meth.name = "half") (hf : z_fin g p l e R s m args below meth c Q prog_6_method_8_code P (some .int)) : ∀ x ∈ k_Te_half_0, z_sn zTab g d p l e R s m args below meth c Q 3 P x := by
  unfold k_Te_half_0
  refine z_k (S_aload_n cx (k := 0) (by decide +kernel) rfl) ?_
  refine z_k (S_bipush cx (n := 7) (by decide +kernel) (by decide)) ?_
  refine z_k (S_iload_n cx (k := 1) (by decide +kernel) rfl) ?_
  refine z_k (S_iload_n cx (k := 2) (by decide +kernel) rfl) ?_
  refine z_k (S_push cx (n := 0) (by decide +kernel) (by decide)) ?_
  refine z_k (S_push cx (n := 0) (by decide +kernel) (by decide)) ?_
  refine z_k (S_callV cx (T := F_Te) (N := 11) (r := r_Te_make) rfl ⟨w_217, w_2, by decide, by decide +kernel⟩ w_214 w_216 wp_0 rfl (by decide +kernel)) ?_
  refine z_k (S_iret (hf.2.1 rfl) (by decide +kernel)) ?_
  exact z_k0
theorem s_Te_half : z_snd zTab r_Te_half := ⟨by decide +kernel, w_322, fun g d p l e R s m args below meth c Q P cx hn hf => z_k (s_Te_half_0 cx hn hf) (z_k0)⟩
set_option maxRecDepth 100000 in
set_option maxHeartbeats 4000000 in
theorem s_Te_seal_0 (cx : z_cx zTab g d p l e R s m args below meth c prog_6_method_9_code "SealedTalks$Terms" 5) (hn : meth.name = "seal") (hf : z_fin g p l e R s m args below meth c Q prog_6_method_9_code P (some .int)) : ∀ x ∈ k_Te_seal_0, z_sn zTab g d p l e R s m args below meth c Q 5 P x := by
  unfold k_Te_seal_0
  refine z_k (S_aload_n cx (k := 0) (by decide +kernel) rfl) ?_
  refine z_k (S_bipush cx (n := 8) (by decide +kernel) (by decide)) ?_
  refine z_k (S_iload_n cx (k := 1) (by decide +kernel) rfl) ?_
  refine z_k (S_iload_n cx (k := 2) (by decide +kernel) rfl) ?_
  refine z_k (S_iload_n cx (k := 3) (by decide +kernel) rfl) ?_
  refine z_k (S_iload cx (by decide +kernel)) ?_
  refine z_k (S_callV cx (T := F_Te) (N := 11) (r := r_Te_make) rfl ⟨w_217, w_2, by decide, by decide +kernel⟩ w_214 w_216 wp_0 rfl (by decide +kernel)) ?_
  refine z_k (S_iret (hf.2.1 rfl) (by decide +kernel)) ?_
  exact z_k0
theorem s_Te_seal : z_snd zTab r_Te_seal := ⟨by decide +kernel, w_287, fun g d p l e R s m args below meth c Q P cx hn hf => z_k (s_Te_seal_0 cx hn hf) (z_k0)⟩
set_option maxRecDepth 100000 in
set_option maxHeartbeats 4000000 in
theorem s_Te_isNum_0 (cx : z_cx zTab g d p l e R s m args below meth c prog_6_method_10_code "SealedTalks$Terms" 2) (hn : meth.name = "isNum") (hf : z_fin g p l e R s m args below meth c Q prog_6_method_10_code P (some .boolean)) : ∀ x ∈ k_Te_isNum_0, z_sn zTab g d p l e R s m args below meth c Q 2 P x := by
  unfold k_Te_isNum_0
  refine z_k (S_aload_n cx (k := 0) (by decide +kernel) rfl) ?_
  refine z_k (S_getf cx (T := F_Te) (N := 11) (k := 0) rfl in_Te (by decide) rfl w_23 (by decide +kernel)) ?_
  refine z_k (S_iload_n cx (k := 1) (by decide +kernel) rfl) ?_
  refine z_k (S_iald cx (by decide +kernel)) ?_
  refine z_k (S_push cx (n := 1) (by decide +kernel) (by decide)) ?_
  refine z_k (S_icmp_ne cx (off := 7) (by decide +kernel) (by decide)) ?_
  refine z_k (S_push cx (n := 1) (by decide +kernel) (by decide)) ?_
  refine z_k (S_goto cx (off := 4) (by decide +kernel) (by decide)) ?_
  refine z_k (S_push cx (n := 0) (by decide +kernel) (by decide)) ?_
  refine z_k (S_zret (hf.2.2.1 rfl) (by decide +kernel)) ?_
  exact z_k0
theorem s_Te_isNum : z_snd zTab r_Te_isNum := ⟨by decide +kernel, w_364, fun g d p l e R s m args below meth c Q P cx hn hf => z_k (s_Te_isNum_0 cx hn hf) (z_k0)⟩
set_option maxRecDepth 100000 in
set_option maxHeartbeats 4000000 in
theorem s_Te_isPub_0 (cx : z_cx zTab g d p l e R s m args below meth c prog_6_method_11_code "SealedTalks$Terms" 2) (hn : meth.name = "isPub") (hf : z_fin g p l e R s m args below meth c Q prog_6_method_11_code P (some .boolean)) : ∀ x ∈ k_Te_isPub_0, z_sn zTab g d p l e R s m args below meth c Q 2 P x := by
  unfold k_Te_isPub_0
  refine z_k (S_aload_n cx (k := 0) (by decide +kernel) rfl) ?_
  refine z_k (S_getf cx (T := F_Te) (N := 11) (k := 0) rfl in_Te (by decide) rfl w_23 (by decide +kernel)) ?_
  refine z_k (S_iload_n cx (k := 1) (by decide +kernel) rfl) ?_
  refine z_k (S_iald cx (by decide +kernel)) ?_
  refine z_k (S_push cx (n := 2) (by decide +kernel) (by decide)) ?_
  refine z_k (S_icmp_ne cx (off := 7) (by decide +kernel) (by decide)) ?_
  refine z_k (S_push cx (n := 1) (by decide +kernel) (by decide)) ?_
  refine z_k (S_goto cx (off := 4) (by decide +kernel) (by decide)) ?_
  refine z_k (S_push cx (n := 0) (by decide +kernel) (by decide)) ?_
  refine z_k (S_zret (hf.2.2.1 rfl) (by decide +kernel)) ?_
  exact z_k0
theorem s_Te_isPub : z_snd zTab r_Te_isPub := ⟨by decide +kernel, w_422, fun g d p l e R s m args below meth c Q P cx hn hf => z_k (s_Te_isPub_0 cx hn hf) (z_k0)⟩
set_option maxRecDepth 100000 in
set_option maxHeartbeats 4000000 in
theorem s_Te_isSeal_0 (cx : z_cx zTab g d p l e R s m args below meth c prog_6_method_12_code "SealedTalks$Terms" 2) (hn : meth.name = "isSeal") (hf : z_fin g p l e R s m args below meth c Q prog_6_method_12_code P (some .boolean)) : ∀ x ∈ k_Te_isSeal_0, z_sn zTab g d p l e R s m args below meth c Q 2 P x := by
  unfold k_Te_isSeal_0
  refine z_k (S_aload_n cx (k := 0) (by decide +kernel) rfl) ?_
  refine z_k (S_getf cx (T := F_Te) (N := 11) (k := 0) rfl in_Te (by decide) rfl w_23 (by decide +kernel)) ?_
  refine z_k (S_iload_n cx (k := 1) (by decide +kernel) rfl) ?_
  refine z_k (S_iald cx (by decide +kernel)) ?_
  refine z_k (S_bipush cx (n := 8) (by decide +kernel) (by decide)) ?_
  refine z_k (S_icmp_ne cx (off := 7) (by decide +kernel) (by decide)) ?_
  refine z_k (S_push cx (n := 1) (by decide +kernel) (by decide)) ?_
  refine z_k (S_goto cx (off := 4) (by decide +kernel) (by decide)) ?_
  refine z_k (S_push cx (n := 0) (by decide +kernel) (by decide)) ?_
  refine z_k (S_zret (hf.2.2.1 rfl) (by decide +kernel)) ?_
  exact z_k0
theorem s_Te_isSeal : z_snd zTab r_Te_isSeal := ⟨by decide +kernel, w_380, fun g d p l e R s m args below meth c Q P cx hn hf => z_k (s_Te_isSeal_0 cx hn hf) (z_k0)⟩
set_option maxRecDepth 100000 in
set_option maxHeartbeats 4000000 in
theorem s_Te_isSealOf_0 (cx : z_cx zTab g d p l e R s m args below meth c prog_6_method_13_code "SealedTalks$Terms" 5) (hn : meth.name = "isSealOf") (hf : z_fin g p l e R s m args below meth c Q prog_6_method_13_code P (some .boolean)) : ∀ x ∈ k_Te_isSealOf_0, z_sn zTab g d p l e R s m args below meth c Q 5 P x := by
  unfold k_Te_isSealOf_0
  refine z_k (S_aload_n cx (k := 0) (by decide +kernel) rfl) ?_
  refine z_k (S_iload_n cx (k := 1) (by decide +kernel) rfl) ?_
  refine z_k (S_callV cx (T := F_Te) (N := 11) (r := r_Te_isSeal) rfl ⟨w_380, w_2, by decide, by decide +kernel⟩ w_377 w_378 w_379 rfl (by decide +kernel)) ?_
  refine z_k (S_if_eq cx (off := 38) (by decide +kernel) (by decide)) ?_
  refine z_k (S_aload_n cx (k := 0) (by decide +kernel) rfl) ?_
  refine z_k (S_getf cx (T := F_Te) (N := 11) (k := 1) rfl in_Te (by decide) rfl w_24 (by decide +kernel)) ?_
  refine z_k (S_iload_n cx (k := 1) (by decide +kernel) rfl) ?_
  refine z_k (S_iald cx (by decide +kernel)) ?_
  refine z_k (S_iload_n cx (k := 2) (by decide +kernel) rfl) ?_
  refine z_k (S_icmp_ne cx (off := 28) (by decide +kernel) (by decide)) ?_
  refine z_k (S_aload_n cx (k := 0) (by decide +kernel) rfl) ?_
  refine z_k (S_getf cx (T := F_Te) (N := 11) (k := 2) rfl in_Te (by decide) rfl w_25 (by decide +kernel)) ?_
  refine z_k (S_iload_n cx (k := 1) (by decide +kernel) rfl) ?_
  refine z_k (S_iald cx (by decide +kernel)) ?_
  refine z_k (S_iload_n cx (k := 3) (by decide +kernel) rfl) ?_
  refine z_k (S_icmp_ne cx (off := 18) (by decide +kernel) (by decide)) ?_
  refine z_k (S_aload_n cx (k := 0) (by decide +kernel) rfl) ?_
  refine z_k (S_getf cx (T := F_Te) (N := 11) (k := 3) rfl in_Te (by decide) rfl w_26 (by decide +kernel)) ?_
  refine z_k (S_iload_n cx (k := 1) (by decide +kernel) rfl) ?_
  refine z_k (S_iald cx (by decide +kernel)) ?_
  refine z_k (S_iload cx (by decide +kernel)) ?_
  refine z_k (S_icmp_ne cx (off := 7) (by decide +kernel) (by decide)) ?_
  refine z_k (S_push cx (n := 1) (by decide +kernel) (by decide)) ?_
  refine z_k (S_goto cx (off := 4) (by decide +kernel) (by decide)) ?_
  exact z_k0
set_option maxRecDepth 100000 in
set_option maxHeartbeats 4000000 in
theorem s_Te_isSealOf_1 (cx : z_cx zTab g d p l e R s m args below meth c prog_6_method_13_code "SealedTalks$Terms" 5) (hn : meth.name = "isSealOf") (hf : z_fin g p l e R s m args below meth c Q prog_6_method_13_code P (some .boolean)) : ∀ x ∈ k_Te_isSealOf_1, z_sn zTab g d p l e R s m args below meth c Q 5 P x := by
  unfold k_Te_isSealOf_1
  refine z_k (S_push cx (n := 0) (by decide +kernel) (by decide)) ?_
  refine z_k (S_zret (hf.2.2.1 rfl) (by decide +kernel)) ?_
  exact z_k0
theorem s_Te_isSealOf : z_snd zTab r_Te_isSealOf := ⟨by decide +kernel, w_376, fun g d p l e R s m args below meth c Q P cx hn hf => z_k (s_Te_isSealOf_0 cx hn hf) (z_k (s_Te_isSealOf_1 cx hn hf) (z_k0))⟩
set_option maxRecDepth 100000 in
set_option maxHeartbeats 4000000 in
theorem s_Te_valueOf_0 (cx : z_cx zTab g d p l e R s m args below meth c prog_6_method_14_code "SealedTalks$Terms" 2) (hn : meth.name = "valueOf") (hf : z_fin g p l e R s m args below meth c Q prog_6_method_14_code P (some .int)) : ∀ x ∈ k_Te_valueOf_0, z_sn zTab g d p l e R s m args below meth c Q 2 P x := by
  unfold k_Te_valueOf_0
  refine z_k (S_aload_n cx (k := 0) (by decide +kernel) rfl) ?_
  refine z_k (S_getf cx (T := F_Te) (N := 11) (k := 1) rfl in_Te (by decide) rfl w_24 (by decide +kernel)) ?_
  refine z_k (S_iload_n cx (k := 1) (by decide +kernel) rfl) ?_
  refine z_k (S_iald cx (by decide +kernel)) ?_
  refine z_k (S_iret (hf.2.1 rfl) (by decide +kernel)) ?_
  exact z_k0
theorem s_Te_valueOf : z_snd zTab r_Te_valueOf := ⟨by decide +kernel, w_368, fun g d p l e R s m args below meth c Q P cx hn hf => z_k (s_Te_valueOf_0 cx hn hf) (z_k0)⟩
set_option maxRecDepth 100000 in
set_option maxHeartbeats 4000000 in
theorem s_Te_insideOf_0 (cx : z_cx zTab g d p l e R s m args below meth c prog_6_method_15_code "SealedTalks$Terms" 2) (hn : meth.name = "insideOf") (hf : z_fin g p l e R s m args below meth c Q prog_6_method_15_code P (some .int)) : ∀ x ∈ k_Te_insideOf_0, z_sn zTab g d p l e R s m args below meth c Q 2 P x := by
  unfold k_Te_insideOf_0
  refine z_k (S_aload_n cx (k := 0) (by decide +kernel) rfl) ?_
  refine z_k (S_getf cx (T := F_Te) (N := 11) (k := 4) rfl in_Te (by decide) rfl w_27 (by decide +kernel)) ?_
  refine z_k (S_iload_n cx (k := 1) (by decide +kernel) rfl) ?_
  refine z_k (S_iald cx (by decide +kernel)) ?_
  refine z_k (S_iret (hf.2.1 rfl) (by decide +kernel)) ?_
  exact z_k0
theorem s_Te_insideOf : z_snd zTab r_Te_insideOf := ⟨by decide +kernel, w_384, fun g d p l e R s m args below meth c Q P cx hn hf => z_k (s_Te_insideOf_0 cx hn hf) (z_k0)⟩
set_option maxRecDepth 100000 in
set_option maxHeartbeats 4000000 in
theorem s_Te_canWorkOut_0 (cx : z_cx zTab g d p l e R s m args below meth c prog_6_method_16_code "SealedTalks$Terms" 2) (hn : meth.name = "canWorkOut") (hf : z_fin g p l e R s m args below meth c Q prog_6_method_16_code P (some .boolean)) : ∀ x ∈ k_Te_canWorkOut_0, z_sn zTab g d p l e R s m args below meth c Q 2 P x := by
  unfold k_Te_canWorkOut_0
  refine z_k (S_aload_n cx (k := 0) (by decide +kernel) rfl) ?_
  refine z_k (S_getf cx (T := F_Te) (N := 11) (k := 5) rfl in_Te (by decide) rfl w_28 (by decide +kernel)) ?_
  refine z_k (S_iload_n cx (k := 1) (by decide +kernel) rfl) ?_
  refine z_k (S_zald cx (by decide +kernel)) ?_
  refine z_k (S_zret (hf.2.2.1 rfl) (by decide +kernel)) ?_
  exact z_k0
theorem s_Te_canWorkOut : z_snd zTab r_Te_canWorkOut := ⟨by decide +kernel, w_497, fun g d p l e R s m args below meth c Q P cx hn hf => z_k (s_Te_canWorkOut_0 cx hn hf) (z_k0)⟩
set_option maxRecDepth 100000 in
set_option maxHeartbeats 4000000 in
theorem s_Te_canOpen_0 (cx : z_cx zTab g d p l e R s m args below meth c prog_6_method_17_code "SealedTalks$Terms" 2) (hn : meth.name = "canOpen") (hf : z_fin g p l e R s m args below meth c Q prog_6_method_17_code P (some .boolean)) : ∀ x ∈ k_Te_canOpen_0, z_sn zTab g d p l e R s m args below meth c Q 2 P x := by
  unfold k_Te_canOpen_0
  refine z_k (S_aload_n cx (k := 0) (by decide +kernel) rfl) ?_
  refine z_k (S_getf cx (T := F_Te) (N := 11) (k := 5) rfl in_Te (by decide) rfl w_28 (by decide +kernel)) ?_
  refine z_k (S_aload_n cx (k := 0) (by decide +kernel) rfl) ?_
  refine z_k (S_getf cx (T := F_Te) (N := 11) (k := 1) rfl in_Te (by decide) rfl w_24 (by decide +kernel)) ?_
  refine z_k (S_iload_n cx (k := 1) (by decide +kernel) rfl) ?_
  refine z_k (S_iald cx (by decide +kernel)) ?_
  refine z_k (S_zald cx (by decide +kernel)) ?_
  refine z_k (S_zret (hf.2.2.1 rfl) (by decide +kernel)) ?_
  exact z_k0
theorem s_Te_canOpen : z_snd zTab r_Te_canOpen := ⟨by decide +kernel, w_512, fun g d p l e R s m args below meth c Q P cx hn hf => z_k (s_Te_canOpen_0 cx hn hf) (z_k0)⟩
set_option maxRecDepth 100000 in
set_option maxHeartbeats 4000000 in
theorem s_Te_makeKey_0 (cx : z_cx zTab g d p l e R s m args below meth c prog_6_method_18_code "SealedTalks$Terms" 1) (hn : meth.name = "makeKey") (hf : z_fin g p l e R s m args below meth c Q prog_6_method_18_code P (some .int)) : ∀ x ∈ k_Te_makeKey_0, z_sn zTab g d p l e R s m args below meth c Q 1 P x := by
  unfold k_Te_makeKey_0
  refine z_k (S_aload_n cx (k := 0) (by decide +kernel) rfl) ?_
  refine z_k (S_getf cx (T := F_Te) (N := 11) (k := 10) rfl in_Te (by decide) rfl w_33 (by decide +kernel)) ?_
  refine z_k (S_bipush cx (n := 20) (by decide +kernel) (by decide)) ?_
  refine z_k (S_icmp_ge cx (off := 13) (by decide +kernel) (by decide)) ?_
  refine z_k (S_aload_n cx (k := 0) (by decide +kernel) rfl) ?_
  refine z_k (S_dup cx (by decide +kernel)) ?_
  refine z_k (S_getf cx (T := F_Te) (N := 11) (k := 10) rfl in_Te (by decide) rfl w_33 (by decide +kernel)) ?_
  refine z_k (S_push cx (n := 1) (by decide +kernel) (by decide)) ?_
  refine z_k (S_iadd cx (by decide +kernel)) ?_
  refine z_k (S_putf cx (T := F_Te) (N := 11) (k := 10) (ty := t_Te) rfl in_Te t_Te_ok n_Te (by decide) rfl w_33 rfl (Or.inl ⟨rfl, rfl⟩) (by decide +kernel)) ?_
  refine z_k (S_aload_n cx (k := 0) (by decide +kernel) rfl) ?_
  refine z_k (S_getf cx (T := F_Te) (N := 11) (k := 10) rfl in_Te (by decide) rfl w_33 (by decide +kernel)) ?_
  refine z_k (S_iret (hf.2.1 rfl) (by decide +kernel)) ?_
  exact z_k0
theorem s_Te_makeKey : z_snd zTab r_Te_makeKey := ⟨by decide +kernel, w_270, fun g d p l e R s m args below meth c Q P cx hn hf => z_k (s_Te_makeKey_0 cx hn hf) (z_k0)⟩
set_option maxRecDepth 100000 in
set_option maxHeartbeats 4000000 in
theorem s_Te_giveAway_0 (cx : z_cx zTab g d p l e R s m args below meth c prog_6_method_19_code "SealedTalks$Terms" 3) (hn : meth.name = "giveAway") (hf : z_fin g p l e R s m args below meth c Q prog_6_method_19_code P (some .boolean)) : ∀ x ∈ k_Te_giveAway_0, z_sn zTab g d p l e R s m args below meth c Q 3 P x := by
  unfold k_Te_giveAway_0
  refine z_k (S_iload_n cx (k := 1) (by decide +kernel) rfl) ?_
  refine z_k (S_push cx (n := 1) (by decide +kernel) (by decide)) ?_
  refine z_k (S_icmp_lt cx (off := 20) (by decide +kernel) (by decide)) ?_
  refine z_k (S_iload_n cx (k := 1) (by decide +kernel) rfl) ?_
  refine z_k (S_aload_n cx (k := 0) (by decide +kernel) rfl) ?_
  refine z_k (S_getf cx (T := F_Te) (N := 11) (k := 10) rfl in_Te (by decide) rfl w_33 (by decide +kernel)) ?_
  refine z_k (S_icmp_gt cx (off := 12) (by decide +kernel) (by decide)) ?_
  refine z_k (S_aload_n cx (k := 0) (by decide +kernel) rfl) ?_
  refine z_k (S_getf cx (T := F_Te) (N := 11) (k := 8) rfl in_Te (by decide) rfl w_31 (by decide +kernel)) ?_
  refine z_k (S_iload_n cx (k := 1) (by decide +kernel) rfl) ?_
  refine z_k (S_zald cx (by decide +kernel)) ?_
  refine z_k (S_if_eq cx (off := 5) (by decide +kernel) (by decide)) ?_
  refine z_k (S_push cx (n := 0) (by decide +kernel) (by decide)) ?_
  refine z_k (S_zret (hf.2.2.1 rfl) (by decide +kernel)) ?_
  refine z_k (S_aload_n cx (k := 0) (by decide +kernel) rfl) ?_
  refine z_k (S_getf cx (T := F_Te) (N := 11) (k := 8) rfl in_Te (by decide) rfl w_31 (by decide +kernel)) ?_
  refine z_k (S_iload_n cx (k := 1) (by decide +kernel) rfl) ?_
  refine z_k (S_push cx (n := 1) (by decide +kernel) (by decide)) ?_
  refine z_k (S_zast cx (by decide +kernel)) ?_
  refine z_k (S_push cx (n := 1) (by decide +kernel) (by decide)) ?_
  refine z_k (S_istore_n cx (by decide) (k := 2) (by decide +kernel) rfl) ?_
  refine z_k (S_iload_n cx (k := 2) (by decide +kernel) rfl) ?_
  refine z_k (S_aload_n cx (k := 0) (by decide +kernel) rfl) ?_
  refine z_k (S_getf cx (T := F_Te) (N := 11) (k := 9) rfl in_Te (by decide) rfl w_32 (by decide +kernel)) ?_
  exact z_k0
set_option maxRecDepth 100000 in
set_option maxHeartbeats 4000000 in
theorem s_Te_giveAway_1 (cx : z_cx zTab g d p l e R s m args below meth c prog_6_method_19_code "SealedTalks$Terms" 3) (hn : meth.name = "giveAway") (hf : z_fin g p l e R s m args below meth c Q prog_6_method_19_code P (some .boolean)) : ∀ x ∈ k_Te_giveAway_1, z_sn zTab g d p l e R s m args below meth c Q 3 P x := by
  unfold k_Te_giveAway_1
  refine z_k (S_icmp_gt cx (off := 20) (by decide +kernel) (by decide)) ?_
  refine z_k (S_aload_n cx (k := 0) (by decide +kernel) rfl) ?_
  refine z_k (S_getf cx (T := F_Te) (N := 11) (k := 5) rfl in_Te (by decide) rfl w_28 (by decide +kernel)) ?_
  refine z_k (S_iload_n cx (k := 2) (by decide +kernel) rfl) ?_
  refine z_k (S_aload_n cx (k := 0) (by decide +kernel) rfl) ?_
  refine z_k (S_iload_n cx (k := 2) (by decide +kernel) rfl) ?_
  refine z_k (S_callV cx (T := F_Te) (N := 11) (r := r_Te_judged) rfl ⟨w_224, w_2, by decide, by decide +kernel⟩ w_221 w_223 wp_1 rfl (by decide +kernel)) ?_
  refine z_k (S_zast cx (by decide +kernel)) ?_
  refine z_k (S_iinc cx (n := 1) (by decide) (by decide +kernel) (by decide)) ?_
  refine z_k (S_goto cx (off := -22) (by decide +kernel) (by decide)) ?_
  refine z_k (S_push cx (n := 1) (by decide +kernel) (by decide)) ?_
  refine z_k (S_zret (hf.2.2.1 rfl) (by decide +kernel)) ?_
  exact z_k0
theorem s_Te_giveAway : z_snd zTab r_Te_giveAway := ⟨by decide +kernel, w_457, fun g d p l e R s m args below meth c Q P cx hn hf => z_k (s_Te_giveAway_0 cx hn hf) (z_k (s_Te_giveAway_1 cx hn hf) (z_k0))⟩
set_option maxRecDepth 100000 in
set_option maxHeartbeats 4000000 in
theorem s_Te_newest_0 (cx : z_cx zTab g d p l e R s m args below meth c prog_6_method_20_code "SealedTalks$Terms" 1) (hn : meth.name = "newest") (hf : z_fin g p l e R s m args below meth c Q prog_6_method_20_code P (some .int)) : ∀ x ∈ k_Te_newest_0, z_sn zTab g d p l e R s m args below meth c Q 1 P x := by
  unfold k_Te_newest_0
  refine z_k (S_aload_n cx (k := 0) (by decide +kernel) rfl) ?_
  refine z_k (S_getf cx (T := F_Te) (N := 11) (k := 9) rfl in_Te (by decide) rfl w_32 (by decide +kernel)) ?_
  refine z_k (S_iret (hf.2.1 rfl) (by decide +kernel)) ?_
  exact z_k0
theorem s_Te_newest : z_snd zTab r_Te_newest := ⟨by decide +kernel, w_394, fun g d p l e R s m args below meth c Q P cx hn hf => z_k (s_Te_newest_0 cx hn hf) (z_k0)⟩
set_option maxRecDepth 100000 in
set_option maxHeartbeats 4000000 in
theorem s_Te_dropBehind_0 (cx : z_cx zTab g d p l e R s m args below meth c prog_6_method_21_code "SealedTalks$Terms" 4) (hn : meth.name = "dropBehind") (hf : z_fin g p l e R s m args below meth c Q prog_6_method_21_code P none) : ∀ x ∈ k_Te_dropBehind_0, z_sn zTab g d p l e R s m args below meth c Q 4 P x := by
  unfold k_Te_dropBehind_0
  refine z_k (S_aload_n cx (k := 0) (by decide +kernel) rfl) ?_
  refine z_k (S_getf cx (T := F_Te) (N := 11) (k := 9) rfl in_Te (by decide) rfl w_32 (by decide +kernel)) ?_
  refine z_k (S_istore_n cx (by decide) (k := 2) (by decide +kernel) rfl) ?_
  refine z_k (S_iload_n cx (k := 2) (by decide +kernel) rfl) ?_
  refine z_k (S_iload_n cx (k := 1) (by decide +kernel) rfl) ?_
  refine z_k (S_icmp_le cx (off := 62) (by decide +kernel) (by decide)) ?_
  refine z_k (S_aload_n cx (k := 0) (by decide +kernel) rfl) ?_
  refine z_k (S_getf cx (T := F_Te) (N := 11) (k := 0) rfl in_Te (by decide) rfl w_23 (by decide +kernel)) ?_
  refine z_k (S_iload_n cx (k := 2) (by decide +kernel) rfl) ?_
  refine z_k (S_iald cx (by decide +kernel)) ?_
  refine z_k (S_aload_n cx (k := 0) (by decide +kernel) rfl) ?_
  refine z_k (S_getf cx (T := F_Te) (N := 11) (k := 1) rfl in_Te (by decide) rfl w_24 (by decide +kernel)) ?_
  refine z_k (S_iload_n cx (k := 2) (by decide +kernel) rfl) ?_
  refine z_k (S_iald cx (by decide +kernel)) ?_
  refine z_k (S_aload_n cx (k := 0) (by decide +kernel) rfl) ?_
  refine z_k (S_getf cx (T := F_Te) (N := 11) (k := 2) rfl in_Te (by decide) rfl w_25 (by decide +kernel)) ?_
  refine z_k (S_iload_n cx (k := 2) (by decide +kernel) rfl) ?_
  refine z_k (S_iald cx (by decide +kernel)) ?_
  refine z_k (S_aload_n cx (k := 0) (by decide +kernel) rfl) ?_
  refine z_k (S_getf cx (T := F_Te) (N := 11) (k := 3) rfl in_Te (by decide) rfl w_26 (by decide +kernel)) ?_
  refine z_k (S_iload_n cx (k := 2) (by decide +kernel) rfl) ?_
  refine z_k (S_iald cx (by decide +kernel)) ?_
  refine z_k (S_aload_n cx (k := 0) (by decide +kernel) rfl) ?_
  refine z_k (S_getf cx (T := F_Te) (N := 11) (k := 4) rfl in_Te (by decide) rfl w_27 (by decide +kernel)) ?_
  exact z_k0
set_option maxRecDepth 100000 in
set_option maxHeartbeats 4000000 in
theorem s_Te_dropBehind_1 (cx : z_cx zTab g d p l e R s m args below meth c prog_6_method_21_code "SealedTalks$Terms" 4) (hn : meth.name = "dropBehind") (hf : z_fin g p l e R s m args below meth c Q prog_6_method_21_code P none) : ∀ x ∈ k_Te_dropBehind_1, z_sn zTab g d p l e R s m args below meth c Q 4 P x := by
  unfold k_Te_dropBehind_1
  refine z_k (S_iload_n cx (k := 2) (by decide +kernel) rfl) ?_
  refine z_k (S_iald cx (by decide +kernel)) ?_
  refine z_k (S_callS cx (r := r_Te_bucketOf) rfl ⟨w_220, w_2, by decide, by decide +kernel⟩ w_218 w_219 (by decide +kernel)) ?_
  refine z_k (S_istore_n cx (by decide) (k := 3) (by decide +kernel) rfl) ?_
  refine z_k (S_aload_n cx (k := 0) (by decide +kernel) rfl) ?_
  refine z_k (S_getf cx (T := F_Te) (N := 11) (k := 7) rfl in_Te (by decide) rfl w_30 (by decide +kernel)) ?_
  refine z_k (S_iload_n cx (k := 3) (by decide +kernel) rfl) ?_
  refine z_k (S_aload_n cx (k := 0) (by decide +kernel) rfl) ?_
  refine z_k (S_getf cx (T := F_Te) (N := 11) (k := 6) rfl in_Te (by decide) rfl w_29 (by decide +kernel)) ?_
  refine z_k (S_iload_n cx (k := 2) (by decide +kernel) rfl) ?_
  refine z_k (S_iald cx (by decide +kernel)) ?_
  refine z_k (S_iast cx (by decide +kernel)) ?_
  refine z_k (S_aload_n cx (k := 0) (by decide +kernel) rfl) ?_
  refine z_k (S_iload_n cx (k := 2) (by decide +kernel) rfl) ?_
  refine z_k (S_push cx (n := 1) (by decide +kernel) (by decide)) ?_
  refine z_k (S_isub cx (by decide +kernel)) ?_
  refine z_k (S_putf cx (T := F_Te) (N := 11) (k := 9) (ty := t_Te) rfl in_Te t_Te_ok n_Te (by decide) rfl w_32 rfl (Or.inl ⟨rfl, rfl⟩) (by decide +kernel)) ?_
  refine z_k (S_iinc cx (n := -1) (by decide) (by decide +kernel) (by decide)) ?_
  refine z_k (S_goto cx (off := -61) (by decide +kernel) (by decide)) ?_
  refine z_k (S_vret (hf.1 rfl) (by decide +kernel)) ?_
  exact z_k0
theorem s_Te_dropBehind : z_snd zTab r_Te_dropBehind := ⟨by decide +kernel, w_428, fun g d p l e R s m args below meth c Q P cx hn hf => z_k (s_Te_dropBehind_0 cx hn hf) (z_k (s_Te_dropBehind_1 cx hn hf) (z_k0))⟩
set_option maxRecDepth 100000 in
set_option maxHeartbeats 4000000 in
theorem s_Te_make_0 (cx : z_cx zTab g d p l e R s m args below meth c prog_6_method_22_code "SealedTalks$Terms" 9) (hn : meth.name = "make") (hf : z_fin g p l e R s m args below meth c Q prog_6_method_22_code P (some .int)) : ∀ x ∈ k_Te_make_0, z_sn zTab g d p l e R s m args below meth c Q 9 P x := by
  unfold k_Te_make_0
  refine z_k (S_iload_n cx (k := 1) (by decide +kernel) rfl) ?_
  refine z_k (S_iload_n cx (k := 2) (by decide +kernel) rfl) ?_
  refine z_k (S_iload_n cx (k := 3) (by decide +kernel) rfl) ?_
  refine z_k (S_iload cx (by decide +kernel)) ?_
  refine z_k (S_iload cx (by decide +kernel)) ?_
  refine z_k (S_callS cx (r := r_Te_bucketOf) rfl ⟨w_220, w_2, by decide, by decide +kernel⟩ w_218 w_219 (by decide +kernel)) ?_
  refine z_k (S_istore cx (by decide) (by decide +kernel)) ?_
  refine z_k (S_aload_n cx (k := 0) (by decide +kernel) rfl) ?_
  refine z_k (S_getf cx (T := F_Te) (N := 11) (k := 7) rfl in_Te (by decide) rfl w_30 (by decide +kernel)) ?_
  refine z_k (S_iload cx (by decide +kernel)) ?_
  refine z_k (S_iald cx (by decide +kernel)) ?_
  refine z_k (S_istore cx (by decide) (by decide +kernel)) ?_
  refine z_k (S_push cx (n := 0) (by decide +kernel) (by decide)) ?_
  refine z_k (S_istore cx (by decide) (by decide +kernel)) ?_
  refine z_k (S_iload cx (by decide +kernel)) ?_
  refine z_k (S_sipush cx (n := 720) (by decide +kernel) (by decide)) ?_
  refine z_k (S_icmp_ge cx (off := 83) (by decide +kernel) (by decide)) ?_
  refine z_k (S_iload cx (by decide +kernel)) ?_
  refine z_k (S_if_eq cx (off := 78) (by decide +kernel) (by decide)) ?_
  refine z_k (S_aload_n cx (k := 0) (by decide +kernel) rfl) ?_
  refine z_k (S_getf cx (T := F_Te) (N := 11) (k := 0) rfl in_Te (by decide) rfl w_23 (by decide +kernel)) ?_
  refine z_k (S_iload cx (by decide +kernel)) ?_
  refine z_k (S_iald cx (by decide +kernel)) ?_
  refine z_k (S_iload_n cx (k := 1) (by decide +kernel) rfl) ?_
  exact z_k0
set_option maxRecDepth 100000 in
set_option maxHeartbeats 4000000 in
theorem s_Te_make_1 (cx : z_cx zTab g d p l e R s m args below meth c prog_6_method_22_code "SealedTalks$Terms" 9) (hn : meth.name = "make") (hf : z_fin g p l e R s m args below meth c Q prog_6_method_22_code P (some .int)) : ∀ x ∈ k_Te_make_1, z_sn zTab g d p l e R s m args below meth c Q 9 P x := by
  unfold k_Te_make_1
  refine z_k (S_icmp_ne cx (off := 52) (by decide +kernel) (by decide)) ?_
  refine z_k (S_aload_n cx (k := 0) (by decide +kernel) rfl) ?_
  refine z_k (S_getf cx (T := F_Te) (N := 11) (k := 1) rfl in_Te (by decide) rfl w_24 (by decide +kernel)) ?_
  refine z_k (S_iload cx (by decide +kernel)) ?_
  refine z_k (S_iald cx (by decide +kernel)) ?_
  refine z_k (S_iload_n cx (k := 2) (by decide +kernel) rfl) ?_
  refine z_k (S_icmp_ne cx (off := 41) (by decide +kernel) (by decide)) ?_
  refine z_k (S_aload_n cx (k := 0) (by decide +kernel) rfl) ?_
  refine z_k (S_getf cx (T := F_Te) (N := 11) (k := 2) rfl in_Te (by decide) rfl w_25 (by decide +kernel)) ?_
  refine z_k (S_iload cx (by decide +kernel)) ?_
  refine z_k (S_iald cx (by decide +kernel)) ?_
  refine z_k (S_iload_n cx (k := 3) (by decide +kernel) rfl) ?_
  refine z_k (S_icmp_ne cx (off := 30) (by decide +kernel) (by decide)) ?_
  refine z_k (S_aload_n cx (k := 0) (by decide +kernel) rfl) ?_
  refine z_k (S_getf cx (T := F_Te) (N := 11) (k := 3) rfl in_Te (by decide) rfl w_26 (by decide +kernel)) ?_
  refine z_k (S_iload cx (by decide +kernel)) ?_
  refine z_k (S_iald cx (by decide +kernel)) ?_
  refine z_k (S_iload cx (by decide +kernel)) ?_
  refine z_k (S_icmp_ne cx (off := 18) (by decide +kernel) (by decide)) ?_
  refine z_k (S_aload_n cx (k := 0) (by decide +kernel) rfl) ?_
  refine z_k (S_getf cx (T := F_Te) (N := 11) (k := 4) rfl in_Te (by decide) rfl w_27 (by decide +kernel)) ?_
  refine z_k (S_iload cx (by decide +kernel)) ?_
  refine z_k (S_iald cx (by decide +kernel)) ?_
  refine z_k (S_iload cx (by decide +kernel)) ?_
  exact z_k0
set_option maxRecDepth 100000 in
set_option maxHeartbeats 4000000 in
theorem s_Te_make_2 (cx : z_cx zTab g d p l e R s m args below meth c prog_6_method_22_code "SealedTalks$Terms" 9) (hn : meth.name = "make") (hf : z_fin g p l e R s m args below meth c Q prog_6_method_22_code P (some .int)) : ∀ x ∈ k_Te_make_2, z_sn zTab g d p l e R s m args below meth c Q 9 P x := by
  unfold k_Te_make_2
  refine z_k (S_icmp_ne cx (off := 6) (by decide +kernel) (by decide)) ?_
  refine z_k (S_iload cx (by decide +kernel)) ?_
  refine z_k (S_iret (hf.2.1 rfl) (by decide +kernel)) ?_
  refine z_k (S_aload_n cx (k := 0) (by decide +kernel) rfl) ?_
  refine z_k (S_getf cx (T := F_Te) (N := 11) (k := 6) rfl in_Te (by decide) rfl w_29 (by decide +kernel)) ?_
  refine z_k (S_iload cx (by decide +kernel)) ?_
  refine z_k (S_iald cx (by decide +kernel)) ?_
  refine z_k (S_istore cx (by decide) (by decide +kernel)) ?_
  refine z_k (S_iinc cx (n := 1) (by decide) (by decide +kernel) (by decide)) ?_
  refine z_k (S_goto cx (off := -85) (by decide +kernel) (by decide)) ?_
  refine z_k (S_aload_n cx (k := 0) (by decide +kernel) rfl) ?_
  refine z_k (S_getf cx (T := F_Te) (N := 11) (k := 9) rfl in_Te (by decide) rfl w_32 (by decide +kernel)) ?_
  refine z_k (S_push cx (n := 1) (by decide +kernel) (by decide)) ?_
  refine z_k (S_iadd cx (by decide +kernel)) ?_
  refine z_k (S_sipush cx (n := 720) (by decide +kernel) (by decide)) ?_
  refine z_k (S_icmp_lt cx (off := 5) (by decide +kernel) (by decide)) ?_
  refine z_k (S_push cx (n := 0) (by decide +kernel) (by decide)) ?_
  refine z_k (S_iret (hf.2.1 rfl) (by decide +kernel)) ?_
  refine z_k (S_aload_n cx (k := 0) (by decide +kernel) rfl) ?_
  refine z_k (S_dup cx (by decide +kernel)) ?_
  refine z_k (S_getf cx (T := F_Te) (N := 11) (k := 9) rfl in_Te (by decide) rfl w_32 (by decide +kernel)) ?_
  refine z_k (S_push cx (n := 1) (by decide +kernel) (by decide)) ?_
  refine z_k (S_iadd cx (by decide +kernel)) ?_
  refine z_k (S_putf cx (T := F_Te) (N := 11) (k := 9) (ty := t_Te) rfl in_Te t_Te_ok n_Te (by decide) rfl w_32 rfl (Or.inl ⟨rfl, rfl⟩) (by decide +kernel)) ?_
  exact z_k0
set_option maxRecDepth 100000 in
set_option maxHeartbeats 4000000 in
theorem s_Te_make_3 (cx : z_cx zTab g d p l e R s m args below meth c prog_6_method_22_code "SealedTalks$Terms" 9) (hn : meth.name = "make") (hf : z_fin g p l e R s m args below meth c Q prog_6_method_22_code P (some .int)) : ∀ x ∈ k_Te_make_3, z_sn zTab g d p l e R s m args below meth c Q 9 P x := by
  unfold k_Te_make_3
  refine z_k (S_aload_n cx (k := 0) (by decide +kernel) rfl) ?_
  refine z_k (S_getf cx (T := F_Te) (N := 11) (k := 0) rfl in_Te (by decide) rfl w_23 (by decide +kernel)) ?_
  refine z_k (S_aload_n cx (k := 0) (by decide +kernel) rfl) ?_
  refine z_k (S_getf cx (T := F_Te) (N := 11) (k := 9) rfl in_Te (by decide) rfl w_32 (by decide +kernel)) ?_
  refine z_k (S_iload_n cx (k := 1) (by decide +kernel) rfl) ?_
  refine z_k (S_iast cx (by decide +kernel)) ?_
  refine z_k (S_aload_n cx (k := 0) (by decide +kernel) rfl) ?_
  refine z_k (S_getf cx (T := F_Te) (N := 11) (k := 1) rfl in_Te (by decide) rfl w_24 (by decide +kernel)) ?_
  refine z_k (S_aload_n cx (k := 0) (by decide +kernel) rfl) ?_
  refine z_k (S_getf cx (T := F_Te) (N := 11) (k := 9) rfl in_Te (by decide) rfl w_32 (by decide +kernel)) ?_
  refine z_k (S_iload_n cx (k := 2) (by decide +kernel) rfl) ?_
  refine z_k (S_iast cx (by decide +kernel)) ?_
  refine z_k (S_aload_n cx (k := 0) (by decide +kernel) rfl) ?_
  refine z_k (S_getf cx (T := F_Te) (N := 11) (k := 2) rfl in_Te (by decide) rfl w_25 (by decide +kernel)) ?_
  refine z_k (S_aload_n cx (k := 0) (by decide +kernel) rfl) ?_
  refine z_k (S_getf cx (T := F_Te) (N := 11) (k := 9) rfl in_Te (by decide) rfl w_32 (by decide +kernel)) ?_
  refine z_k (S_iload_n cx (k := 3) (by decide +kernel) rfl) ?_
  refine z_k (S_iast cx (by decide +kernel)) ?_
  refine z_k (S_aload_n cx (k := 0) (by decide +kernel) rfl) ?_
  refine z_k (S_getf cx (T := F_Te) (N := 11) (k := 3) rfl in_Te (by decide) rfl w_26 (by decide +kernel)) ?_
  refine z_k (S_aload_n cx (k := 0) (by decide +kernel) rfl) ?_
  refine z_k (S_getf cx (T := F_Te) (N := 11) (k := 9) rfl in_Te (by decide) rfl w_32 (by decide +kernel)) ?_
  refine z_k (S_iload cx (by decide +kernel)) ?_
  refine z_k (S_iast cx (by decide +kernel)) ?_
  exact z_k0
set_option maxRecDepth 100000 in
set_option maxHeartbeats 4000000 in
theorem s_Te_make_4 (cx : z_cx zTab g d p l e R s m args below meth c prog_6_method_22_code "SealedTalks$Terms" 9) (hn : meth.name = "make") (hf : z_fin g p l e R s m args below meth c Q prog_6_method_22_code P (some .int)) : ∀ x ∈ k_Te_make_4, z_sn zTab g d p l e R s m args below meth c Q 9 P x := by
  unfold k_Te_make_4
  refine z_k (S_aload_n cx (k := 0) (by decide +kernel) rfl) ?_
  refine z_k (S_getf cx (T := F_Te) (N := 11) (k := 4) rfl in_Te (by decide) rfl w_27 (by decide +kernel)) ?_
  refine z_k (S_aload_n cx (k := 0) (by decide +kernel) rfl) ?_
  refine z_k (S_getf cx (T := F_Te) (N := 11) (k := 9) rfl in_Te (by decide) rfl w_32 (by decide +kernel)) ?_
  refine z_k (S_iload cx (by decide +kernel)) ?_
  refine z_k (S_iast cx (by decide +kernel)) ?_
  refine z_k (S_aload_n cx (k := 0) (by decide +kernel) rfl) ?_
  refine z_k (S_getf cx (T := F_Te) (N := 11) (k := 5) rfl in_Te (by decide) rfl w_28 (by decide +kernel)) ?_
  refine z_k (S_aload_n cx (k := 0) (by decide +kernel) rfl) ?_
  refine z_k (S_getf cx (T := F_Te) (N := 11) (k := 9) rfl in_Te (by decide) rfl w_32 (by decide +kernel)) ?_
  refine z_k (S_aload_n cx (k := 0) (by decide +kernel) rfl) ?_
  refine z_k (S_aload_n cx (k := 0) (by decide +kernel) rfl) ?_
  refine z_k (S_getf cx (T := F_Te) (N := 11) (k := 9) rfl in_Te (by decide) rfl w_32 (by decide +kernel)) ?_
  refine z_k (S_callV cx (T := F_Te) (N := 11) (r := r_Te_judged) rfl ⟨w_224, w_2, by decide, by decide +kernel⟩ w_221 w_223 wp_1 rfl (by decide +kernel)) ?_
  refine z_k (S_zast cx (by decide +kernel)) ?_
  refine z_k (S_aload_n cx (k := 0) (by decide +kernel) rfl) ?_
  refine z_k (S_getf cx (T := F_Te) (N := 11) (k := 6) rfl in_Te (by decide) rfl w_29 (by decide +kernel)) ?_
  refine z_k (S_aload_n cx (k := 0) (by decide +kernel) rfl) ?_
  refine z_k (S_getf cx (T := F_Te) (N := 11) (k := 9) rfl in_Te (by decide) rfl w_32 (by decide +kernel)) ?_
  refine z_k (S_aload_n cx (k := 0) (by decide +kernel) rfl) ?_
  refine z_k (S_getf cx (T := F_Te) (N := 11) (k := 7) rfl in_Te (by decide) rfl w_30 (by decide +kernel)) ?_
  refine z_k (S_iload cx (by decide +kernel)) ?_
  refine z_k (S_iald cx (by decide +kernel)) ?_
  refine z_k (S_iast cx (by decide +kernel)) ?_
  exact z_k0
set_option maxRecDepth 100000 in
set_option maxHeartbeats 4000000 in
theorem s_Te_make_5 (cx : z_cx zTab g d p l e R s m args below meth c prog_6_method_22_code "SealedTalks$Terms" 9) (hn : meth.name = "make") (hf : z_fin g p l e R s m args below meth c Q prog_6_method_22_code P (some .int)) : ∀ x ∈ k_Te_make_5, z_sn zTab g d p l e R s m args below meth c Q 9 P x := by
  unfold k_Te_make_5
  refine z_k (S_aload_n cx (k := 0) (by decide +kernel) rfl) ?_
  refine z_k (S_getf cx (T := F_Te) (N := 11) (k := 7) rfl in_Te (by decide) rfl w_30 (by decide +kernel)) ?_
  refine z_k (S_iload cx (by decide +kernel)) ?_
  refine z_k (S_aload_n cx (k := 0) (by decide +kernel) rfl) ?_
  refine z_k (S_getf cx (T := F_Te) (N := 11) (k := 9) rfl in_Te (by decide) rfl w_32 (by decide +kernel)) ?_
  refine z_k (S_iast cx (by decide +kernel)) ?_
  refine z_k (S_aload_n cx (k := 0) (by decide +kernel) rfl) ?_
  refine z_k (S_getf cx (T := F_Te) (N := 11) (k := 9) rfl in_Te (by decide) rfl w_32 (by decide +kernel)) ?_
  refine z_k (S_iret (hf.2.1 rfl) (by decide +kernel)) ?_
  exact z_k0
theorem s_Te_make : z_snd zTab r_Te_make := ⟨by decide +kernel, w_217, fun g d p l e R s m args below meth c Q P cx hn hf => z_k (s_Te_make_0 cx hn hf) (z_k (s_Te_make_1 cx hn hf) (z_k (s_Te_make_2 cx hn hf) (z_k (s_Te_make_3 cx hn hf) (z_k (s_Te_make_4 cx hn hf) (z_k (s_Te_make_5 cx hn hf) (z_k0))))))⟩
set_option maxRecDepth 100000 in
set_option maxHeartbeats 4000000 in
theorem s_Te_judged_0 (cx : z_cx zTab g d p l e R s m args below meth c prog_6_method_23_code "SealedTalks$Terms" 2) (hn : meth.name = "judged") (hf : z_fin g p l e R s m args below meth c Q prog_6_method_23_code P (some .boolean)) : ∀ x ∈ k_Te_judged_0, z_sn zTab g d p l e R s m args below meth c Q 2 P x := by
  unfold k_Te_judged_0
  refine z_k (S_aload_n cx (k := 0) (by decide +kernel) rfl) ?_
  refine z_k (S_getf cx (T := F_Te) (N := 11) (k := 0) rfl in_Te (by decide) rfl w_23 (by decide +kernel)) ?_
  refine z_k (S_iload_n cx (k := 1) (by decide +kernel) rfl) ?_
  refine z_k (S_iald cx (by decide +kernel)) ?_
  refine z_k (S_tsw cx (df := 114) (lo := 3) (hi0 := 7) (offs := #[34, 68, 68, 68, 102]) (len := 34) (by decide +kernel) (by decide) (by decide) (by decide)) ?_
  refine z_k (S_aload_n cx (k := 0) (by decide +kernel) rfl) ?_
  refine z_k (S_getf cx (T := F_Te) (N := 11) (k := 8) rfl in_Te (by decide) rfl w_31 (by decide +kernel)) ?_
  refine z_k (S_aload_n cx (k := 0) (by decide +kernel) rfl) ?_
  refine z_k (S_getf cx (T := F_Te) (N := 11) (k := 1) rfl in_Te (by decide) rfl w_24 (by decide +kernel)) ?_
  refine z_k (S_iload_n cx (k := 1) (by decide +kernel) rfl) ?_
  refine z_k (S_iald cx (by decide +kernel)) ?_
  refine z_k (S_zald cx (by decide +kernel)) ?_
  refine z_k (S_if_ne cx (off := 17) (by decide +kernel) (by decide)) ?_
  refine z_k (S_aload_n cx (k := 0) (by decide +kernel) rfl) ?_
  refine z_k (S_getf cx (T := F_Te) (N := 11) (k := 8) rfl in_Te (by decide) rfl w_31 (by decide +kernel)) ?_
  refine z_k (S_aload_n cx (k := 0) (by decide +kernel) rfl) ?_
  refine z_k (S_getf cx (T := F_Te) (N := 11) (k := 2) rfl in_Te (by decide) rfl w_25 (by decide +kernel)) ?_
  refine z_k (S_iload_n cx (k := 1) (by decide +kernel) rfl) ?_
  refine z_k (S_iald cx (by decide +kernel)) ?_
  refine z_k (S_zald cx (by decide +kernel)) ?_
  refine z_k (S_if_eq cx (off := 7) (by decide +kernel) (by decide)) ?_
  refine z_k (S_push cx (n := 1) (by decide +kernel) (by decide)) ?_
  refine z_k (S_goto cx (off := 4) (by decide +kernel) (by decide)) ?_
  refine z_k (S_push cx (n := 0) (by decide +kernel) (by decide)) ?_
  exact z_k0
set_option maxRecDepth 100000 in
set_option maxHeartbeats 4000000 in
theorem s_Te_judged_1 (cx : z_cx zTab g d p l e R s m args below meth c prog_6_method_23_code "SealedTalks$Terms" 2) (hn : meth.name = "judged") (hf : z_fin g p l e R s m args below meth c Q prog_6_method_23_code P (some .boolean)) : ∀ x ∈ k_Te_judged_1, z_sn zTab g d p l e R s m args below meth c Q 2 P x := by
  unfold k_Te_judged_1
  refine z_k (S_zret (hf.2.2.1 rfl) (by decide +kernel)) ?_
  refine z_k (S_aload_n cx (k := 0) (by decide +kernel) rfl) ?_
  refine z_k (S_getf cx (T := F_Te) (N := 11) (k := 5) rfl in_Te (by decide) rfl w_28 (by decide +kernel)) ?_
  refine z_k (S_aload_n cx (k := 0) (by decide +kernel) rfl) ?_
  refine z_k (S_getf cx (T := F_Te) (N := 11) (k := 1) rfl in_Te (by decide) rfl w_24 (by decide +kernel)) ?_
  refine z_k (S_iload_n cx (k := 1) (by decide +kernel) rfl) ?_
  refine z_k (S_iald cx (by decide +kernel)) ?_
  refine z_k (S_zald cx (by decide +kernel)) ?_
  refine z_k (S_if_eq cx (off := 21) (by decide +kernel) (by decide)) ?_
  refine z_k (S_aload_n cx (k := 0) (by decide +kernel) rfl) ?_
  refine z_k (S_getf cx (T := F_Te) (N := 11) (k := 5) rfl in_Te (by decide) rfl w_28 (by decide +kernel)) ?_
  refine z_k (S_aload_n cx (k := 0) (by decide +kernel) rfl) ?_
  refine z_k (S_getf cx (T := F_Te) (N := 11) (k := 2) rfl in_Te (by decide) rfl w_25 (by decide +kernel)) ?_
  refine z_k (S_iload_n cx (k := 1) (by decide +kernel) rfl) ?_
  refine z_k (S_iald cx (by decide +kernel)) ?_
  refine z_k (S_zald cx (by decide +kernel)) ?_
  refine z_k (S_if_eq cx (off := 7) (by decide +kernel) (by decide)) ?_
  refine z_k (S_push cx (n := 1) (by decide +kernel) (by decide)) ?_
  refine z_k (S_goto cx (off := 4) (by decide +kernel) (by decide)) ?_
  refine z_k (S_push cx (n := 0) (by decide +kernel) (by decide)) ?_
  refine z_k (S_zret (hf.2.2.1 rfl) (by decide +kernel)) ?_
  refine z_k (S_aload_n cx (k := 0) (by decide +kernel) rfl) ?_
  refine z_k (S_getf cx (T := F_Te) (N := 11) (k := 5) rfl in_Te (by decide) rfl w_28 (by decide +kernel)) ?_
  refine z_k (S_aload_n cx (k := 0) (by decide +kernel) rfl) ?_
  exact z_k0
set_option maxRecDepth 100000 in
set_option maxHeartbeats 4000000 in
theorem s_Te_judged_2 (cx : z_cx zTab g d p l e R s m args below meth c prog_6_method_23_code "SealedTalks$Terms" 2) (hn : meth.name = "judged") (hf : z_fin g p l e R s m args below meth c Q prog_6_method_23_code P (some .boolean)) : ∀ x ∈ k_Te_judged_2, z_sn zTab g d p l e R s m args below meth c Q 2 P x := by
  unfold k_Te_judged_2
  refine z_k (S_getf cx (T := F_Te) (N := 11) (k := 1) rfl in_Te (by decide) rfl w_24 (by decide +kernel)) ?_
  refine z_k (S_iload_n cx (k := 1) (by decide +kernel) rfl) ?_
  refine z_k (S_iald cx (by decide +kernel)) ?_
  refine z_k (S_zald cx (by decide +kernel)) ?_
  refine z_k (S_zret (hf.2.2.1 rfl) (by decide +kernel)) ?_
  refine z_k (S_push cx (n := 1) (by decide +kernel) (by decide)) ?_
  refine z_k (S_zret (hf.2.2.1 rfl) (by decide +kernel)) ?_
  exact z_k0
theorem s_Te_judged : z_snd zTab r_Te_judged := ⟨by decide +kernel, w_224, fun g d p l e R s m args below meth c Q P cx hn hf => z_k (s_Te_judged_0 cx hn hf) (z_k (s_Te_judged_1 cx hn hf) (z_k (s_Te_judged_2 cx hn hf) (z_k0)))⟩
set_option maxRecDepth 100000 in
set_option maxHeartbeats 4000000 in
theorem s_Te_bucketOf_0 (cx : z_cx zTab g d p l e R s m args below meth c prog_6_method_24_code "SealedTalks$Terms" 6) (hn : meth.name = "bucketOf") (hf : z_fin g p l e R s m args below meth c Q prog_6_method_24_code P (some .int)) : ∀ x ∈ k_Te_bucketOf_0, z_sn zTab g d p l e R s m args below meth c Q 6 P x := by
  unfold k_Te_bucketOf_0
  refine z_k (S_iload_n cx (k := 0) (by decide +kernel) rfl) ?_
  refine z_k (S_bipush cx (n := 31) (by decide +kernel) (by decide)) ?_
  refine z_k (S_imul cx (by decide +kernel)) ?_
  refine z_k (S_iload_n cx (k := 1) (by decide +kernel) rfl) ?_
  refine z_k (S_iadd cx (by decide +kernel)) ?_
  refine z_k (S_bipush cx (n := 31) (by decide +kernel) (by decide)) ?_
  refine z_k (S_imul cx (by decide +kernel)) ?_
  refine z_k (S_iload_n cx (k := 2) (by decide +kernel) rfl) ?_
  refine z_k (S_iadd cx (by decide +kernel)) ?_
  refine z_k (S_bipush cx (n := 31) (by decide +kernel) (by decide)) ?_
  refine z_k (S_imul cx (by decide +kernel)) ?_
  refine z_k (S_iload_n cx (k := 3) (by decide +kernel) rfl) ?_
  refine z_k (S_iadd cx (by decide +kernel)) ?_
  refine z_k (S_bipush cx (n := 31) (by decide +kernel) (by decide)) ?_
  refine z_k (S_imul cx (by decide +kernel)) ?_
  refine z_k (S_iload cx (by decide +kernel)) ?_
  refine z_k (S_iadd cx (by decide +kernel)) ?_
  refine z_k (S_istore cx (by decide) (by decide +kernel)) ?_
  refine z_k (S_iload cx (by decide +kernel)) ?_
  refine z_k (S_iload cx (by decide +kernel)) ?_
  refine z_k (S_bipush cx (n := 7) (by decide +kernel) (by decide)) ?_
  refine z_k (S_iushr cx (by decide +kernel)) ?_
  refine z_k (S_ixor cx (by decide +kernel)) ?_
  refine z_k (S_iload cx (by decide +kernel)) ?_
  exact z_k0
set_option maxRecDepth 100000 in
set_option maxHeartbeats 4000000 in
theorem s_Te_bucketOf_1 (cx : z_cx zTab g d p l e R s m args below meth c prog_6_method_24_code "SealedTalks$Terms" 6) (hn : meth.name = "bucketOf") (hf : z_fin g p l e R s m args below meth c Q prog_6_method_24_code P (some .int)) : ∀ x ∈ k_Te_bucketOf_1, z_sn zTab g d p l e R s m args below meth c Q 6 P x := by
  unfold k_Te_bucketOf_1
  refine z_k (S_bipush cx (n := 14) (by decide +kernel) (by decide)) ?_
  refine z_k (S_iushr cx (by decide +kernel)) ?_
  refine z_k (S_ixor cx (by decide +kernel)) ?_
  refine z_k (S_bipush cx (n := 127) (by decide +kernel) (by decide)) ?_
  refine z_k (S_iand cx (by decide +kernel)) ?_
  refine z_k (S_iret (hf.2.1 rfl) (by decide +kernel)) ?_
  exact z_k0
theorem s_Te_bucketOf : z_snd zTab r_Te_bucketOf := ⟨by decide +kernel, w_220, fun g d p l e R s m args below meth c Q P cx hn hf => z_k (s_Te_bucketOf_0 cx hn hf) (z_k (s_Te_bucketOf_1 cx hn hf) (z_k0))⟩
end ZR20
end
section
/-! Each method of SealedTalks is sound (0). By program. -/
section ZR30
variable {g : zG} {d : Nat} {p : Program} {l : Launch} {e : Env} {R : Room} {s : State} {m : MethodId} {args : Array Value} {below : List Frame} {meth : Method} {c : Code} {Q : State → Prop} {P : zP}
set_option maxRecDepth 100000 in
set_option maxHeartbeats 4000000 in
theorem s_St_init_0 (cx : z_cx zTab g d p l e R s m args below meth c prog_1_method_1_code "SealedTalks" 1) (hn : meth.name = "<init>") (hf : z_fin g p l e R s m args below meth c Q prog_1_method_1_code P none) : ∀ x ∈ k_St_init_0, z_sn zTab g d p l e R s m args below meth c Q 1 P x := by
  unfold k_St_init_0
  refine z_k (S_aload_n cx (k := 0) (by decide +kernel) rfl) ?_
  refine z_k (S_oini cx w_14 w_15 w_16 (by decide +kernel)) ?_
  refine z_k (S_aload_n cx (k := 0) (by decide +kernel) rfl) ?_
  refine z_k (S_new cx (T := F_Te) (ty := t_Te) rfl in_Te t_Te_ok w_17 w_18 w_2 fs_Te (by decide +kernel)) ?_
  refine z_k (S_dup cx (by decide +kernel)) ?_
  refine z_k (S_callIN cx (r := r_Te_init) rfl ⟨w_21, w_2, by decide, by decide +kernel⟩ w_19 w_20 rfl rfl (by decide +kernel)) ?_
  refine z_k (S_putF cx (T := F_St) (N := 4) (k := 0) (ty := t_St) rfl in_St t_St_ok n_St (by decide) rfl w_77 rfl hn rfl (Or.inr (Or.inr ⟨rfl, Or.inl ⟨_, rfl⟩⟩)) (by decide +kernel)) ?_
  refine z_k (S_aload_n cx (k := 0) (by decide +kernel) rfl) ?_
  refine z_k (S_new cx (T := F_Me) (ty := t_Me) rfl in_Me t_Me_ok w_59 w_60 w_3 fs_Me (by decide +kernel)) ?_
  refine z_k (S_dup cx (by decide +kernel)) ?_
  refine z_k (S_callIN cx (r := r_Me_init) rfl ⟨w_63, w_3, by decide, by decide +kernel⟩ w_61 w_62 rfl rfl (by decide +kernel)) ?_
  refine z_k (S_putF cx (T := F_St) (N := 4) (k := 1) (ty := t_St) rfl in_St t_St_ok n_St (by decide) rfl w_78 rfl hn rfl (Or.inr (Or.inr ⟨rfl, Or.inl ⟨_, rfl⟩⟩)) (by decide +kernel)) ?_
  refine z_k (S_aload_n cx (k := 0) (by decide +kernel) rfl) ?_
  refine z_k (S_bipush cx (n := 12) (by decide +kernel) (by decide)) ?_
  refine z_k (S_newq cx w_75 (by decide +kernel)) ?_
  refine z_k (S_putF cx (T := F_St) (N := 4) (k := 2) (ty := t_St) rfl in_St t_St_ok n_St (by decide) rfl w_79 rfl hn rfl (Or.inr (Or.inr ⟨rfl, Or.inr ⟨_, rfl⟩⟩)) (by decide +kernel)) ?_
  refine z_k (S_aload_n cx (k := 0) (by decide +kernel) rfl) ?_
  refine z_k (S_push cx (n := 0) (by decide +kernel) (by decide)) ?_
  refine z_k (S_putf cx (T := F_St) (N := 4) (k := 3) (ty := t_St) rfl in_St t_St_ok n_St (by decide) rfl w_80 rfl (Or.inl ⟨rfl, rfl⟩) (by decide +kernel)) ?_
  refine z_k (S_vret (hf.1 rfl) (by decide +kernel)) ?_
  exact z_k0
theorem s_St_init : z_snd zTab r_St_init := ⟨by decide +kernel, w_13, fun g d p l e R s m args below meth c Q P cx hn hf => z_k (s_St_init_0 cx hn hf) (z_k0)⟩
set_option maxRecDepth 100000 in
set_option maxHeartbeats 4000000 in
theorem s_St_start_0 (cx : z_cx zTab g d p l e R s m args below meth c prog_1_method_2_code "SealedTalks" 8) (hn : meth.name = "start") (hf : z_fin g p l e R s m args below meth c Q prog_1_method_2_code P (some .int)) : ∀ x ∈ k_St_start_0, z_sn zTab g d p l e R s m args below meth c Q 8 P x := by
  unfold k_St_start_0
  refine z_k (S_iload_n cx (k := 1) (by decide +kernel) rfl) ?_
  refine z_k (S_push cx (n := 1) (by decide +kernel) (by decide)) ?_
  refine z_k (S_icmp_ne cx (off := 11) (by decide +kernel) (by decide)) ?_
  refine z_k (S_iload_n cx (k := 2) (by decide +kernel) rfl) ?_
  refine z_k (S_if_eq cx (off := 7) (by decide +kernel) (by decide)) ?_
  refine z_k (S_push cx (n := 1) (by decide +kernel) (by decide)) ?_
  refine z_k (S_goto cx (off := 4) (by decide +kernel) (by decide)) ?_
  refine z_k (S_push cx (n := 0) (by decide +kernel) (by decide)) ?_
  refine z_k (S_istore cx (by decide) (by decide +kernel)) ?_
  refine z_k (S_iload_n cx (k := 1) (by decide +kernel) rfl) ?_
  refine z_k (S_if_eq cx (off := 10) (by decide +kernel) (by decide)) ?_
  refine z_k (S_iload_n cx (k := 1) (by decide +kernel) rfl) ?_
  refine z_k (S_push cx (n := 1) (by decide +kernel) (by decide)) ?_
  refine z_k (S_icmp_eq cx (off := 5) (by decide +kernel) (by decide)) ?_
  refine z_k (S_push cx (n := -1) (by decide +kernel) (by decide)) ?_
  refine z_k (S_iret (hf.2.1 rfl) (by decide +kernel)) ?_
  refine z_k (S_iload_n cx (k := 3) (by decide +kernel) rfl) ?_
  refine z_k (S_callS cx (r := r_St_isStaticKey) rfl ⟨w_96, w_1, by decide, by decide +kernel⟩ w_94 w_95 (by decide +kernel)) ?_
  refine z_k (S_if_eq cx (off := 16) (by decide +kernel) (by decide)) ?_
  refine z_k (S_iload cx (by decide +kernel)) ?_
  refine z_k (S_if_eq cx (off := 13) (by decide +kernel) (by decide)) ?_
  refine z_k (S_iload cx (by decide +kernel)) ?_
  refine z_k (S_callS cx (r := r_St_isStaticKey) rfl ⟨w_96, w_1, by decide, by decide +kernel⟩ w_94 w_95 (by decide +kernel)) ?_
  refine z_k (S_if_ne cx (off := 5) (by decide +kernel) (by decide)) ?_
  exact z_k0
set_option maxRecDepth 100000 in
set_option maxHeartbeats 4000000 in
theorem s_St_start_1 (cx : z_cx zTab g d p l e R s m args below meth c prog_1_method_2_code "SealedTalks" 8) (hn : meth.name = "start") (hf : z_fin g p l e R s m args below meth c Q prog_1_method_2_code P (some .int)) : ∀ x ∈ k_St_start_1, z_sn zTab g d p l e R s m args below meth c Q 8 P x := by
  unfold k_St_start_1
  refine z_k (S_push cx (n := -1) (by decide +kernel) (by decide)) ?_
  refine z_k (S_iret (hf.2.1 rfl) (by decide +kernel)) ?_
  refine z_k (S_aload_n cx (k := 0) (by decide +kernel) rfl) ?_
  refine z_k (S_getf cx (T := F_St) (N := 4) (k := 3) rfl in_St (by decide) rfl w_80 (by decide +kernel)) ?_
  refine z_k (S_bipush cx (n := 12) (by decide +kernel) (by decide)) ?_
  refine z_k (S_icmp_lt cx (off := 6) (by decide +kernel) (by decide)) ?_
  refine z_k (S_bipush cx (n := -4) (by decide +kernel) (by decide)) ?_
  refine z_k (S_iret (hf.2.1 rfl) (by decide +kernel)) ?_
  refine z_k (S_new cx (T := F_Se) (ty := t_Se) rfl in_Se t_Se_ok w_75 w_97 w_5 fs_Se (by decide +kernel)) ?_
  refine z_k (S_dup cx (by decide +kernel)) ?_
  refine z_k (S_aload_n cx (k := 0) (by decide +kernel) rfl) ?_
  refine z_k (S_getf cx (T := F_St) (N := 4) (k := 0) rfl in_St (by decide) rfl w_77 (by decide +kernel)) ?_
  refine z_k (S_callI cx (r := r_Se_init) rfl ⟨w_100, w_5, by decide, by decide +kernel⟩ w_98 w_99 rfl rfl (by decide +kernel)) ?_
  refine z_k (S_astore cx (by decide) (by decide +kernel)) ?_
  refine z_k (S_aload cx (by decide +kernel)) ?_
  refine z_k (S_getfN cx (T := F_Se) (N := 8) (k := 2) rfl in_Se (by decide) rfl w_180 (by decide +kernel)) ?_
  refine z_k (S_iload_n cx (k := 1) (by decide +kernel) rfl) ?_
  refine z_k (S_iload_n cx (k := 2) (by decide +kernel) rfl) ?_
  refine z_k (S_iload_n cx (k := 3) (by decide +kernel) rfl) ?_
  refine z_k (S_iload cx (by decide +kernel)) ?_
  refine z_k (S_if_eq cx (off := 8) (by decide +kernel) (by decide)) ?_
  refine z_k (S_iload cx (by decide +kernel)) ?_
  refine z_k (S_goto cx (off := 4) (by decide +kernel) (by decide)) ?_
  refine z_k (S_push cx (n := 0) (by decide +kernel) (by decide)) ?_
  exact z_k0
set_option maxRecDepth 100000 in
set_option maxHeartbeats 4000000 in
theorem s_St_start_2 (cx : z_cx zTab g d p l e R s m args below meth c prog_1_method_2_code "SealedTalks" 8) (hn : meth.name = "start") (hf : z_fin g p l e R s m args below meth c Q prog_1_method_2_code P (some .int)) : ∀ x ∈ k_St_start_2, z_sn zTab g d p l e R s m args below meth c Q 8 P x := by
  unfold k_St_start_2
  refine z_k (S_iload cx (by decide +kernel)) ?_
  refine z_k (S_callV cx (T := F_Ag) (N := 12) (r := r_Ag_begin) rfl ⟨w_209, w_7, by decide, by decide +kernel⟩ w_206 w_207 w_208 rfl (by decide +kernel)) ?_
  refine z_k (S_aload_n cx (k := 0) (by decide +kernel) rfl) ?_
  refine z_k (S_getf cx (T := F_St) (N := 4) (k := 2) rfl in_St (by decide) rfl w_79 (by decide +kernel)) ?_
  refine z_k (S_aload_n cx (k := 0) (by decide +kernel) rfl) ?_
  refine z_k (S_getf cx (T := F_St) (N := 4) (k := 3) rfl in_St (by decide) rfl w_80 (by decide +kernel)) ?_
  refine z_k (S_aload cx (by decide +kernel)) ?_
  refine z_k (S_aast cx (T := F_Se) (N := 8) rfl (by decide +kernel)) ?_
  refine z_k (S_aload_n cx (k := 0) (by decide +kernel) rfl) ?_
  refine z_k (S_dup cx (by decide +kernel)) ?_
  refine z_k (S_getf cx (T := F_St) (N := 4) (k := 3) rfl in_St (by decide) rfl w_80 (by decide +kernel)) ?_
  refine z_k (S_push cx (n := 1) (by decide +kernel) (by decide)) ?_
  refine z_k (S_iadd cx (by decide +kernel)) ?_
  refine z_k (S_putf cx (T := F_St) (N := 4) (k := 3) (ty := t_St) rfl in_St t_St_ok n_St (by decide) rfl w_80 rfl (Or.inl ⟨rfl, rfl⟩) (by decide +kernel)) ?_
  refine z_k (S_aload_n cx (k := 0) (by decide +kernel) rfl) ?_
  refine z_k (S_getf cx (T := F_St) (N := 4) (k := 3) rfl in_St (by decide) rfl w_80 (by decide +kernel)) ?_
  refine z_k (S_push cx (n := 1) (by decide +kernel) (by decide)) ?_
  refine z_k (S_isub cx (by decide +kernel)) ?_
  refine z_k (S_iret (hf.2.1 rfl) (by decide +kernel)) ?_
  exact z_k0
theorem s_St_start : z_snd zTab r_St_start := ⟨by decide +kernel, w_93, fun g d p l e R s m args below meth c Q P cx hn hf => z_k (s_St_start_0 cx hn hf) (z_k (s_St_start_1 cx hn hf) (z_k (s_St_start_2 cx hn hf) (z_k0)))⟩
set_option maxRecDepth 100000 in
set_option maxHeartbeats 4000000 in
theorem s_St_write_0 (cx : z_cx zTab g d p l e R s m args below meth c prog_1_method_3_code "SealedTalks" 4) (hn : meth.name = "write") (hf : z_fin g p l e R s m args below meth c Q prog_1_method_3_code P (some .int)) : ∀ x ∈ k_St_write_0, z_sn zTab g d p l e R s m args below meth c Q 4 P x := by
  unfold k_St_write_0
  refine z_k (S_aload_n cx (k := 0) (by decide +kernel) rfl) ?_
  refine z_k (S_iload_n cx (k := 1) (by decide +kernel) rfl) ?_
  refine z_k (S_callV cx (T := F_St) (N := 4) (r := r_St_sessionAt) rfl ⟨w_240, w_1, by decide, by decide +kernel⟩ w_237 w_239 wp_2 rfl (by decide +kernel)) ?_
  refine z_k (S_astore_n cx (by decide) (k := 3) (by decide +kernel) rfl) ?_
  refine z_k (S_aload_n cx (k := 3) (by decide +kernel) rfl) ?_
  refine z_k (S_ifnonnull cx (off := 5) (by decide +kernel) (by decide)) ?_
  refine z_k (S_push cx (n := -1) (by decide +kernel) (by decide)) ?_
  refine z_k (S_iret (hf.2.1 rfl) (by decide +kernel)) ?_
  refine z_k (S_aload_n cx (k := 3) (by decide +kernel) rfl) ?_
  refine z_k (S_getfN cx (T := F_Se) (N := 8) (k := 4) rfl in_Se (by decide) rfl w_183 (by decide +kernel)) ?_
  refine z_k (S_if_eq cx (off := 6) (by decide +kernel) (by decide)) ?_
  refine z_k (S_bipush cx (n := -2) (by decide +kernel) (by decide)) ?_
  refine z_k (S_iret (hf.2.1 rfl) (by decide +kernel)) ?_
  refine z_k (S_aload_n cx (k := 3) (by decide +kernel) rfl) ?_
  refine z_k (S_getfN cx (T := F_Se) (N := 8) (k := 2) rfl in_Se (by decide) rfl w_180 (by decide +kernel)) ?_
  refine z_k (S_callV cx (T := F_Ag) (N := 12) (r := r_Ag_isOwnTurn) rfl ⟨w_244, w_7, by decide, by decide +kernel⟩ w_241 w_242 w_243 rfl (by decide +kernel)) ?_
  refine z_k (S_if_ne cx (off := 6) (by decide +kernel) (by decide)) ?_
  refine z_k (S_bipush cx (n := -3) (by decide +kernel) (by decide)) ?_
  refine z_k (S_iret (hf.2.1 rfl) (by decide +kernel)) ?_
  refine z_k (S_aload_n cx (k := 0) (by decide +kernel) rfl) ?_
  refine z_k (S_getf cx (T := F_St) (N := 4) (k := 1) rfl in_St (by decide) rfl w_78 (by decide +kernel)) ?_
  refine z_k (S_callV cx (T := F_Me) (N := 3) (r := r_Me_isFull) rfl ⟨w_252, w_3, by decide, by decide +kernel⟩ w_249 w_250 w_251 rfl (by decide +kernel)) ?_
  refine z_k (S_if_eq cx (off := 6) (by decide +kernel) (by decide)) ?_
  refine z_k (S_bipush cx (n := -4) (by decide +kernel) (by decide)) ?_
  exact z_k0
set_option maxRecDepth 100000 in
set_option maxHeartbeats 4000000 in
theorem s_St_write_1 (cx : z_cx zTab g d p l e R s m args below meth c prog_1_method_3_code "SealedTalks" 4) (hn : meth.name = "write") (hf : z_fin g p l e R s m args below meth c Q prog_1_method_3_code P (some .int)) : ∀ x ∈ k_St_write_1, z_sn zTab g d p l e R s m args below meth c Q 4 P x := by
  unfold k_St_write_1
  refine z_k (S_iret (hf.2.1 rfl) (by decide +kernel)) ?_
  refine z_k (S_aload_n cx (k := 3) (by decide +kernel) rfl) ?_
  refine z_k (S_aload_n cx (k := 0) (by decide +kernel) rfl) ?_
  refine z_k (S_getf cx (T := F_St) (N := 4) (k := 1) rfl in_St (by decide) rfl w_78 (by decide +kernel)) ?_
  refine z_k (S_iload_n cx (k := 2) (by decide +kernel) rfl) ?_
  refine z_k (S_callV cx (T := F_Se) (N := 8) (r := r_Se_writeNext) rfl ⟨w_256, w_5, by decide, by decide +kernel⟩ w_253 w_254 w_255 rfl (by decide +kernel)) ?_
  refine z_k (S_aload_n cx (k := 0) (by decide +kernel) rfl) ?_
  refine z_k (S_getf cx (T := F_St) (N := 4) (k := 1) rfl in_St (by decide) rfl w_78 (by decide +kernel)) ?_
  refine z_k (S_callV cx (T := F_Me) (N := 3) (r := r_Me_finish) rfl ⟨w_326, w_3, by decide, by decide +kernel⟩ w_323 w_324 w_325 rfl (by decide +kernel)) ?_
  refine z_k (S_iret (hf.2.1 rfl) (by decide +kernel)) ?_
  exact z_k0
theorem s_St_write : z_snd zTab r_St_write := ⟨by decide +kernel, w_236, fun g d p l e R s m args below meth c Q P cx hn hf => z_k (s_St_write_0 cx hn hf) (z_k (s_St_write_1 cx hn hf) (z_k0))⟩
set_option maxRecDepth 100000 in
set_option maxHeartbeats 4000000 in
theorem s_St_send_0 (cx : z_cx zTab g d p l e R s m args below meth c prog_1_method_4_code "SealedTalks" 4) (hn : meth.name = "send") (hf : z_fin g p l e R s m args below meth c Q prog_1_method_4_code P (some .int)) : ∀ x ∈ k_St_send_0, z_sn zTab g d p l e R s m args below meth c Q 4 P x := by
  unfold k_St_send_0
  refine z_k (S_aload_n cx (k := 0) (by decide +kernel) rfl) ?_
  refine z_k (S_iload_n cx (k := 1) (by decide +kernel) rfl) ?_
  refine z_k (S_callV cx (T := F_St) (N := 4) (r := r_St_sessionAt) rfl ⟨w_240, w_1, by decide, by decide +kernel⟩ w_237 w_239 wp_2 rfl (by decide +kernel)) ?_
  refine z_k (S_astore_n cx (by decide) (k := 3) (by decide +kernel) rfl) ?_
  refine z_k (S_aload_n cx (k := 3) (by decide +kernel) rfl) ?_
  refine z_k (S_ifnonnull cx (off := 5) (by decide +kernel) (by decide)) ?_
  refine z_k (S_push cx (n := -1) (by decide +kernel) (by decide)) ?_
  refine z_k (S_iret (hf.2.1 rfl) (by decide +kernel)) ?_
  refine z_k (S_aload_n cx (k := 3) (by decide +kernel) rfl) ?_
  refine z_k (S_getfN cx (T := F_Se) (N := 8) (k := 4) rfl in_Se (by decide) rfl w_183 (by decide +kernel)) ?_
  refine z_k (S_if_eq cx (off := 6) (by decide +kernel) (by decide)) ?_
  refine z_k (S_bipush cx (n := -2) (by decide +kernel) (by decide)) ?_
  refine z_k (S_iret (hf.2.1 rfl) (by decide +kernel)) ?_
  refine z_k (S_aload_n cx (k := 3) (by decide +kernel) rfl) ?_
  refine z_k (S_getfN cx (T := F_Se) (N := 8) (k := 2) rfl in_Se (by decide) rfl w_180 (by decide +kernel)) ?_
  refine z_k (S_callV cx (T := F_Ag) (N := 12) (r := r_Ag_isDone) rfl ⟨w_248, w_7, by decide, by decide +kernel⟩ w_331 w_246 w_247 rfl (by decide +kernel)) ?_
  refine z_k (S_if_ne cx (off := 6) (by decide +kernel) (by decide)) ?_
  refine z_k (S_bipush cx (n := -3) (by decide +kernel) (by decide)) ?_
  refine z_k (S_iret (hf.2.1 rfl) (by decide +kernel)) ?_
  refine z_k (S_aload_n cx (k := 0) (by decide +kernel) rfl) ?_
  refine z_k (S_getf cx (T := F_St) (N := 4) (k := 1) rfl in_St (by decide) rfl w_78 (by decide +kernel)) ?_
  refine z_k (S_callV cx (T := F_Me) (N := 3) (r := r_Me_isFull) rfl ⟨w_252, w_3, by decide, by decide +kernel⟩ w_249 w_250 w_251 rfl (by decide +kernel)) ?_
  refine z_k (S_if_eq cx (off := 6) (by decide +kernel) (by decide)) ?_
  refine z_k (S_bipush cx (n := -4) (by decide +kernel) (by decide)) ?_
  exact z_k0
set_option maxRecDepth 100000 in
set_option maxHeartbeats 4000000 in
theorem s_St_send_1 (cx : z_cx zTab g d p l e R s m args below meth c prog_1_method_4_code "SealedTalks" 4) (hn : meth.name = "send") (hf : z_fin g p l e R s m args below meth c Q prog_1_method_4_code P (some .int)) : ∀ x ∈ k_St_send_1, z_sn zTab g d p l e R s m args below meth c Q 4 P x := by
  unfold k_St_send_1
  refine z_k (S_iret (hf.2.1 rfl) (by decide +kernel)) ?_
  refine z_k (S_aload_n cx (k := 3) (by decide +kernel) rfl) ?_
  refine z_k (S_getfN cx (T := F_Se) (N := 8) (k := 1) rfl in_Se (by decide) rfl w_178 (by decide +kernel)) ?_
  refine z_k (S_aload_n cx (k := 0) (by decide +kernel) rfl) ?_
  refine z_k (S_getf cx (T := F_St) (N := 4) (k := 1) rfl in_St (by decide) rfl w_78 (by decide +kernel)) ?_
  refine z_k (S_iload_n cx (k := 2) (by decide +kernel) rfl) ?_
  refine z_k (S_callV cx (T := F_Ch) (N := 6) (r := r_Ch_sendNext) rfl ⟨w_335, w_6, by decide, by decide +kernel⟩ w_332 w_333 w_334 rfl (by decide +kernel)) ?_
  refine z_k (S_aload_n cx (k := 0) (by decide +kernel) rfl) ?_
  refine z_k (S_getf cx (T := F_St) (N := 4) (k := 1) rfl in_St (by decide) rfl w_78 (by decide +kernel)) ?_
  refine z_k (S_callV cx (T := F_Me) (N := 3) (r := r_Me_finish) rfl ⟨w_326, w_3, by decide, by decide +kernel⟩ w_323 w_324 w_325 rfl (by decide +kernel)) ?_
  refine z_k (S_iret (hf.2.1 rfl) (by decide +kernel)) ?_
  exact z_k0
theorem s_St_send : z_snd zTab r_St_send := ⟨by decide +kernel, w_330, fun g d p l e R s m args below meth c Q P cx hn hf => z_k (s_St_send_0 cx hn hf) (z_k (s_St_send_1 cx hn hf) (z_k0))⟩
set_option maxRecDepth 100000 in
set_option maxHeartbeats 4000000 in
theorem s_St_deliver_0 (cx : z_cx zTab g d p l e R s m args below meth c prog_1_method_5_code "SealedTalks" 5) (hn : meth.name = "deliver") (hf : z_fin g p l e R s m args below meth c Q prog_1_method_5_code P (some .int)) : ∀ x ∈ k_St_deliver_0, z_sn zTab g d p l e R s m args below meth c Q 5 P x := by
  unfold k_St_deliver_0
  refine z_k (S_aload_n cx (k := 0) (by decide +kernel) rfl) ?_
  refine z_k (S_iload_n cx (k := 2) (by decide +kernel) rfl) ?_
  refine z_k (S_callV cx (T := F_St) (N := 4) (r := r_St_sessionAt) rfl ⟨w_240, w_1, by decide, by decide +kernel⟩ w_237 w_239 wp_2 rfl (by decide +kernel)) ?_
  refine z_k (S_astore_n cx (by decide) (k := 3) (by decide +kernel) rfl) ?_
  refine z_k (S_aload_n cx (k := 3) (by decide +kernel) rfl) ?_
  refine z_k (S_ifnull cx (off := 14) (by decide +kernel) (by decide)) ?_
  refine z_k (S_aload_n cx (k := 0) (by decide +kernel) rfl) ?_
  refine z_k (S_getf cx (T := F_St) (N := 4) (k := 1) rfl in_St (by decide) rfl w_78 (by decide +kernel)) ?_
  refine z_k (S_iload_n cx (k := 1) (by decide +kernel) rfl) ?_
  refine z_k (S_callV cx (T := F_Me) (N := 3) (r := r_Me_has) rfl ⟨w_346, w_3, by decide, by decide +kernel⟩ w_343 w_344 w_345 rfl (by decide +kernel)) ?_
  refine z_k (S_if_ne cx (off := 5) (by decide +kernel) (by decide)) ?_
  refine z_k (S_push cx (n := -1) (by decide +kernel) (by decide)) ?_
  refine z_k (S_iret (hf.2.1 rfl) (by decide +kernel)) ?_
  refine z_k (S_aload_n cx (k := 3) (by decide +kernel) rfl) ?_
  refine z_k (S_getfN cx (T := F_Se) (N := 8) (k := 4) rfl in_Se (by decide) rfl w_183 (by decide +kernel)) ?_
  refine z_k (S_if_eq cx (off := 6) (by decide +kernel) (by decide)) ?_
  refine z_k (S_bipush cx (n := -2) (by decide +kernel) (by decide)) ?_
  refine z_k (S_iret (hf.2.1 rfl) (by decide +kernel)) ?_
  refine z_k (S_aload_n cx (k := 3) (by decide +kernel) rfl) ?_
  refine z_k (S_getfN cx (T := F_Se) (N := 8) (k := 2) rfl in_Se (by decide) rfl w_180 (by decide +kernel)) ?_
  refine z_k (S_callV cx (T := F_Ag) (N := 12) (r := r_Ag_isDone) rfl ⟨w_248, w_7, by decide, by decide +kernel⟩ w_331 w_246 w_247 rfl (by decide +kernel)) ?_
  refine z_k (S_if_eq cx (off := 18) (by decide +kernel) (by decide)) ?_
  refine z_k (S_aload_n cx (k := 3) (by decide +kernel) rfl) ?_
  refine z_k (S_getfN cx (T := F_Se) (N := 8) (k := 1) rfl in_Se (by decide) rfl w_178 (by decide +kernel)) ?_
  exact z_k0
set_option maxRecDepth 100000 in
set_option maxHeartbeats 4000000 in
theorem s_St_deliver_1 (cx : z_cx zTab g d p l e R s m args below meth c prog_1_method_5_code "SealedTalks" 5) (hn : meth.name = "deliver") (hf : z_fin g p l e R s m args below meth c Q prog_1_method_5_code P (some .int)) : ∀ x ∈ k_St_deliver_1, z_sn zTab g d p l e R s m args below meth c Q 5 P x := by
  unfold k_St_deliver_1
  refine z_k (S_aload_n cx (k := 0) (by decide +kernel) rfl) ?_
  refine z_k (S_getf cx (T := F_St) (N := 4) (k := 1) rfl in_St (by decide) rfl w_78 (by decide +kernel)) ?_
  refine z_k (S_iload_n cx (k := 1) (by decide +kernel) rfl) ?_
  refine z_k (S_callV cx (T := F_Ch) (N := 6) (r := r_Ch_acceptNext) rfl ⟨w_350, w_6, by decide, by decide +kernel⟩ w_347 w_348 w_349 rfl (by decide +kernel)) ?_
  refine z_k (S_goto cx (off := 12) (by decide +kernel) (by decide)) ?_
  refine z_k (S_aload_n cx (k := 3) (by decide +kernel) rfl) ?_
  refine z_k (S_aload_n cx (k := 0) (by decide +kernel) rfl) ?_
  refine z_k (S_getf cx (T := F_St) (N := 4) (k := 1) rfl in_St (by decide) rfl w_78 (by decide +kernel)) ?_
  refine z_k (S_iload_n cx (k := 1) (by decide +kernel) rfl) ?_
  refine z_k (S_callV cx (T := F_Se) (N := 8) (r := r_Se_readNext) rfl ⟨w_389, w_5, by decide, by decide +kernel⟩ w_386 w_387 w_388 rfl (by decide +kernel)) ?_
  refine z_k (S_istore cx (by decide) (by decide +kernel)) ?_
  refine z_k (S_iload cx (by decide +kernel)) ?_
  refine z_k (S_if_ne cx (off := 5) (by decide +kernel) (by decide)) ?_
  refine z_k (S_push cx (n := 0) (by decide +kernel) (by decide)) ?_
  refine z_k (S_iret (hf.2.1 rfl) (by decide +kernel)) ?_
  refine z_k (S_aload_n cx (k := 3) (by decide +kernel) rfl) ?_
  refine z_k (S_aload_n cx (k := 0) (by decide +kernel) rfl) ?_
  refine z_k (S_getf cx (T := F_St) (N := 4) (k := 0) rfl in_St (by decide) rfl w_77 (by decide +kernel)) ?_
  refine z_k (S_iload cx (by decide +kernel)) ?_
  refine z_k (S_callV cx (T := F_Te) (N := 11) (r := r_Te_valueOf) rfl ⟨w_368, w_2, by decide, by decide +kernel⟩ w_429 w_366 w_367 rfl (by decide +kernel)) ?_
  refine z_k (S_callV cx (T := F_Se) (N := 8) (r := r_Se_notePayload) rfl ⟨w_433, w_5, by decide, by decide +kernel⟩ w_430 w_431 w_432 rfl (by decide +kernel)) ?_
  refine z_k (S_push cx (n := 1) (by decide +kernel) (by decide)) ?_
  refine z_k (S_iret (hf.2.1 rfl) (by decide +kernel)) ?_
  exact z_k0
theorem s_St_deliver : z_snd zTab r_St_deliver := ⟨by decide +kernel, w_342, fun g d p l e R s m args below meth c Q P cx hn hf => z_k (s_St_deliver_0 cx hn hf) (z_k (s_St_deliver_1 cx hn hf) (z_k0))⟩
set_option maxRecDepth 100000 in
set_option maxHeartbeats 4000000 in
theorem s_St_splice_0 (cx : z_cx zTab g d p l e R s m args below meth c prog_1_method_6_code "SealedTalks" 6) (hn : meth.name = "splice") (hf : z_fin g p l e R s m args below meth c Q prog_1_method_6_code P (some .int)) : ∀ x ∈ k_St_splice_0, z_sn zTab g d p l e R s m args below meth c Q 6 P x := by
  unfold k_St_splice_0
  refine z_k (S_aload_n cx (k := 0) (by decide +kernel) rfl) ?_
  refine z_k (S_getf cx (T := F_St) (N := 4) (k := 1) rfl in_St (by decide) rfl w_78 (by decide +kernel)) ?_
  refine z_k (S_iload_n cx (k := 3) (by decide +kernel) rfl) ?_
  refine z_k (S_iload cx (by decide +kernel)) ?_
  refine z_k (S_callV cx (T := F_Me) (N := 3) (r := r_Me_partAt) rfl ⟨w_354, w_3, by decide, by decide +kernel⟩ w_438 w_352 w_353 rfl (by decide +kernel)) ?_
  refine z_k (S_istore cx (by decide) (by decide +kernel)) ?_
  refine z_k (S_iload cx (by decide +kernel)) ?_
  refine z_k (S_if_eq cx (off := 15) (by decide +kernel) (by decide)) ?_
  refine z_k (S_aload_n cx (k := 0) (by decide +kernel) rfl) ?_
  refine z_k (S_getf cx (T := F_St) (N := 4) (k := 1) rfl in_St (by decide) rfl w_78 (by decide +kernel)) ?_
  refine z_k (S_iload_n cx (k := 1) (by decide +kernel) rfl) ?_
  refine z_k (S_iload_n cx (k := 2) (by decide +kernel) rfl) ?_
  refine z_k (S_callV cx (T := F_Me) (N := 3) (r := r_Me_partAt) rfl ⟨w_354, w_3, by decide, by decide +kernel⟩ w_438 w_352 w_353 rfl (by decide +kernel)) ?_
  refine z_k (S_if_ne cx (off := 5) (by decide +kernel) (by decide)) ?_
  refine z_k (S_push cx (n := -1) (by decide +kernel) (by decide)) ?_
  refine z_k (S_iret (hf.2.1 rfl) (by decide +kernel)) ?_
  refine z_k (S_aload_n cx (k := 0) (by decide +kernel) rfl) ?_
  refine z_k (S_getf cx (T := F_St) (N := 4) (k := 1) rfl in_St (by decide) rfl w_78 (by decide +kernel)) ?_
  refine z_k (S_callV cx (T := F_Me) (N := 3) (r := r_Me_isFull) rfl ⟨w_252, w_3, by decide, by decide +kernel⟩ w_249 w_250 w_251 rfl (by decide +kernel)) ?_
  refine z_k (S_if_eq cx (off := 8) (by decide +kernel) (by decide)) ?_
  refine z_k (S_bipush cx (n := -4) (by decide +kernel) (by decide)) ?_
  refine z_k (S_goto cx (off := 11) (by decide +kernel) (by decide)) ?_
  refine z_k (S_aload_n cx (k := 0) (by decide +kernel) rfl) ?_
  refine z_k (S_iload_n cx (k := 1) (by decide +kernel) rfl) ?_
  exact z_k0
set_option maxRecDepth 100000 in
set_option maxHeartbeats 4000000 in
theorem s_St_splice_1 (cx : z_cx zTab g d p l e R s m args below meth c prog_1_method_6_code "SealedTalks" 6) (hn : meth.name = "splice") (hf : z_fin g p l e R s m args below meth c Q prog_1_method_6_code P (some .int)) : ∀ x ∈ k_St_splice_1, z_sn zTab g d p l e R s m args below meth c Q 6 P x := by
  unfold k_St_splice_1
  refine z_k (S_iload_n cx (k := 2) (by decide +kernel) rfl) ?_
  refine z_k (S_iload cx (by decide +kernel)) ?_
  refine z_k (S_callV cx (T := F_St) (N := 4) (r := r_St_makeChanged) rfl ⟨w_442, w_1, by decide, by decide +kernel⟩ w_439 w_441 wp_12 rfl (by decide +kernel)) ?_
  refine z_k (S_iret (hf.2.1 rfl) (by decide +kernel)) ?_
  exact z_k0
theorem s_St_splice : z_snd zTab r_St_splice := ⟨by decide +kernel, w_437, fun g d p l e R s m args below meth c Q P cx hn hf => z_k (s_St_splice_0 cx hn hf) (z_k (s_St_splice_1 cx hn hf) (z_k0))⟩
set_option maxRecDepth 100000 in
set_option maxHeartbeats 4000000 in
theorem s_St_replace_0 (cx : z_cx zTab g d p l e R s m args below meth c prog_1_method_7_code "SealedTalks" 4) (hn : meth.name = "replace") (hf : z_fin g p l e R s m args below meth c Q prog_1_method_7_code P (some .int)) : ∀ x ∈ k_St_replace_0, z_sn zTab g d p l e R s m args below meth c Q 4 P x := by
  unfold k_St_replace_0
  refine z_k (S_aload_n cx (k := 0) (by decide +kernel) rfl) ?_
  refine z_k (S_getf cx (T := F_St) (N := 4) (k := 1) rfl in_St (by decide) rfl w_78 (by decide +kernel)) ?_
  refine z_k (S_iload_n cx (k := 1) (by decide +kernel) rfl) ?_
  refine z_k (S_iload_n cx (k := 2) (by decide +kernel) rfl) ?_
  refine z_k (S_callV cx (T := F_Me) (N := 3) (r := r_Me_partAt) rfl ⟨w_354, w_3, by decide, by decide +kernel⟩ w_438 w_352 w_353 rfl (by decide +kernel)) ?_
  refine z_k (S_if_ne cx (off := 5) (by decide +kernel) (by decide)) ?_
  refine z_k (S_push cx (n := -1) (by decide +kernel) (by decide)) ?_
  refine z_k (S_iret (hf.2.1 rfl) (by decide +kernel)) ?_
  refine z_k (S_aload_n cx (k := 0) (by decide +kernel) rfl) ?_
  refine z_k (S_getf cx (T := F_St) (N := 4) (k := 1) rfl in_St (by decide) rfl w_78 (by decide +kernel)) ?_
  refine z_k (S_callV cx (T := F_Me) (N := 3) (r := r_Me_isFull) rfl ⟨w_252, w_3, by decide, by decide +kernel⟩ w_249 w_250 w_251 rfl (by decide +kernel)) ?_
  refine z_k (S_if_eq cx (off := 8) (by decide +kernel) (by decide)) ?_
  refine z_k (S_bipush cx (n := -4) (by decide +kernel) (by decide)) ?_
  refine z_k (S_goto cx (off := 17) (by decide +kernel) (by decide)) ?_
  refine z_k (S_aload_n cx (k := 0) (by decide +kernel) rfl) ?_
  refine z_k (S_iload_n cx (k := 1) (by decide +kernel) rfl) ?_
  refine z_k (S_iload_n cx (k := 2) (by decide +kernel) rfl) ?_
  refine z_k (S_aload_n cx (k := 0) (by decide +kernel) rfl) ?_
  refine z_k (S_getf cx (T := F_St) (N := 4) (k := 0) rfl in_St (by decide) rfl w_77 (by decide +kernel)) ?_
  refine z_k (S_iload_n cx (k := 3) (by decide +kernel) rfl) ?_
  refine z_k (S_callV cx (T := F_Te) (N := 11) (r := r_Te_num) rfl ⟨w_213, w_2, by decide, by decide +kernel⟩ w_449 w_211 w_212 rfl (by decide +kernel)) ?_
  refine z_k (S_callV cx (T := F_St) (N := 4) (r := r_St_makeChanged) rfl ⟨w_442, w_1, by decide, by decide +kernel⟩ w_439 w_441 wp_12 rfl (by decide +kernel)) ?_
  refine z_k (S_iret (hf.2.1 rfl) (by decide +kernel)) ?_
  exact z_k0
theorem s_St_replace : z_snd zTab r_St_replace := ⟨by decide +kernel, w_448, fun g d p l e R s m args below meth c Q P cx hn hf => z_k (s_St_replace_0 cx hn hf) (z_k0)⟩
set_option maxRecDepth 100000 in
set_option maxHeartbeats 4000000 in
theorem s_St_give_0 (cx : z_cx zTab g d p l e R s m args below meth c prog_1_method_8_code "SealedTalks" 2) (hn : meth.name = "give") (hf : z_fin g p l e R s m args below meth c Q prog_1_method_8_code P (some .boolean)) : ∀ x ∈ k_St_give_0, z_sn zTab g d p l e R s m args below meth c Q 2 P x := by
  unfold k_St_give_0
  refine z_k (S_aload_n cx (k := 0) (by decide +kernel) rfl) ?_
  refine z_k (S_getf cx (T := F_St) (N := 4) (k := 0) rfl in_St (by decide) rfl w_77 (by decide +kernel)) ?_
  refine z_k (S_iload_n cx (k := 1) (by decide +kernel) rfl) ?_
  refine z_k (S_callV cx (T := F_Te) (N := 11) (r := r_Te_giveAway) rfl ⟨w_457, w_2, by decide, by decide +kernel⟩ w_454 w_455 w_456 rfl (by decide +kernel)) ?_
  refine z_k (S_zret (hf.2.2.1 rfl) (by decide +kernel)) ?_
  exact z_k0
theorem s_St_give : z_snd zTab r_St_give := ⟨by decide +kernel, w_453, fun g d p l e R s m args below meth c Q P cx hn hf => z_k (s_St_give_0 cx hn hf) (z_k0)⟩
set_option maxRecDepth 100000 in
set_option maxHeartbeats 4000000 in
theorem s_St_tick_0 (cx : z_cx zTab g d p l e R s m args below meth c prog_1_method_9_code "SealedTalks" 4) (hn : meth.name = "tick") (hf : z_fin g p l e R s m args below meth c Q prog_1_method_9_code P (some .int)) : ∀ x ∈ k_St_tick_0, z_sn zTab g d p l e R s m args below meth c Q 4 P x := by
  unfold k_St_tick_0
  refine z_k (S_push cx (n := 0) (by decide +kernel) (by decide)) ?_
  refine z_k (S_istore_n cx (by decide) (k := 1) (by decide +kernel) rfl) ?_
  refine z_k (S_push cx (n := 0) (by decide +kernel) (by decide)) ?_
  refine z_k (S_istore_n cx (by decide) (k := 2) (by decide +kernel) rfl) ?_
  refine z_k (S_iload_n cx (k := 2) (by decide +kernel) rfl) ?_
  refine z_k (S_aload_n cx (k := 0) (by decide +kernel) rfl) ?_
  refine z_k (S_getf cx (T := F_St) (N := 4) (k := 3) rfl in_St (by decide) rfl w_80 (by decide +kernel)) ?_
  refine z_k (S_icmp_ge cx (off := 29) (by decide +kernel) (by decide)) ?_
  refine z_k (S_aload_n cx (k := 0) (by decide +kernel) rfl) ?_
  refine z_k (S_iload_n cx (k := 2) (by decide +kernel) rfl) ?_
  refine z_k (S_callV cx (T := F_St) (N := 4) (r := r_St_sessionAt) rfl ⟨w_240, w_1, by decide, by decide +kernel⟩ w_237 w_239 wp_2 rfl (by decide +kernel)) ?_
  refine z_k (S_astore_n cx (by decide) (k := 3) (by decide +kernel) rfl) ?_
  refine z_k (S_aload_n cx (k := 3) (by decide +kernel) rfl) ?_
  refine z_k (S_ifnull cx (off := 13) (by decide +kernel) (by decide)) ?_
  refine z_k (S_aload_n cx (k := 3) (by decide +kernel) rfl) ?_
  refine z_k (S_callV cx (T := F_Se) (N := 8) (r := r_Se_passTick) rfl ⟨w_465, w_5, by decide, by decide +kernel⟩ w_462 w_463 w_464 rfl (by decide +kernel)) ?_
  refine z_k (S_if_eq cx (off := 6) (by decide +kernel) (by decide)) ?_
  refine z_k (S_iinc cx (n := 1) (by decide) (by decide +kernel) (by decide)) ?_
  refine z_k (S_iinc cx (n := 1) (by decide) (by decide +kernel) (by decide)) ?_
  refine z_k (S_goto cx (off := -31) (by decide +kernel) (by decide)) ?_
  refine z_k (S_iload_n cx (k := 1) (by decide +kernel) rfl) ?_
  refine z_k (S_iret (hf.2.1 rfl) (by decide +kernel)) ?_
  exact z_k0
theorem s_St_tick : z_snd zTab r_St_tick := ⟨by decide +kernel, w_461, fun g d p l e R s m args below meth c Q P cx hn hf => z_k (s_St_tick_0 cx hn hf) (z_k0)⟩
set_option maxRecDepth 100000 in
set_option maxHeartbeats 4000000 in
theorem s_St_state_0 (cx : z_cx zTab g d p l e R s m args below meth c prog_1_method_10_code "SealedTalks" 3) (hn : meth.name = "state") (hf : z_fin g p l e R s m args below meth c Q prog_1_method_10_code P (some .int)) : ∀ x ∈ k_St_state_0, z_sn zTab g d p l e R s m args below meth c Q 3 P x := by
  unfold k_St_state_0
  refine z_k (S_aload_n cx (k := 0) (by decide +kernel) rfl) ?_
  refine z_k (S_iload_n cx (k := 1) (by decide +kernel) rfl) ?_
  refine z_k (S_callV cx (T := F_St) (N := 4) (r := r_St_sessionAt) rfl ⟨w_240, w_1, by decide, by decide +kernel⟩ w_237 w_239 wp_2 rfl (by decide +kernel)) ?_
  refine z_k (S_astore_n cx (by decide) (k := 2) (by decide +kernel) rfl) ?_
  refine z_k (S_aload_n cx (k := 2) (by decide +kernel) rfl) ?_
  refine z_k (S_ifnonnull cx (off := 5) (by decide +kernel) (by decide)) ?_
  refine z_k (S_push cx (n := -1) (by decide +kernel) (by decide)) ?_
  refine z_k (S_iret (hf.2.1 rfl) (by decide +kernel)) ?_
  refine z_k (S_aload_n cx (k := 2) (by decide +kernel) rfl) ?_
  refine z_k (S_getfN cx (T := F_Se) (N := 8) (k := 4) rfl in_Se (by decide) rfl w_183 (by decide +kernel)) ?_
  refine z_k (S_if_eq cx (off := 5) (by decide +kernel) (by decide)) ?_
  refine z_k (S_push cx (n := 2) (by decide +kernel) (by decide)) ?_
  refine z_k (S_iret (hf.2.1 rfl) (by decide +kernel)) ?_
  refine z_k (S_aload_n cx (k := 2) (by decide +kernel) rfl) ?_
  refine z_k (S_getfN cx (T := F_Se) (N := 8) (k := 2) rfl in_Se (by decide) rfl w_180 (by decide +kernel)) ?_
  refine z_k (S_callV cx (T := F_Ag) (N := 12) (r := r_Ag_isDone) rfl ⟨w_248, w_7, by decide, by decide +kernel⟩ w_331 w_246 w_247 rfl (by decide +kernel)) ?_
  refine z_k (S_if_eq cx (off := 7) (by decide +kernel) (by decide)) ?_
  refine z_k (S_push cx (n := 1) (by decide +kernel) (by decide)) ?_
  refine z_k (S_goto cx (off := 4) (by decide +kernel) (by decide)) ?_
  refine z_k (S_push cx (n := 0) (by decide +kernel) (by decide)) ?_
  refine z_k (S_iret (hf.2.1 rfl) (by decide +kernel)) ?_
  exact z_k0
theorem s_St_state : z_snd zTab r_St_state := ⟨by decide +kernel, w_469, fun g d p l e R s m args below meth c Q P cx hn hf => z_k (s_St_state_0 cx hn hf) (z_k0)⟩
set_option maxRecDepth 100000 in
set_option maxHeartbeats 4000000 in
theorem s_St_steps_0 (cx : z_cx zTab g d p l e R s m args below meth c prog_1_method_11_code "SealedTalks" 3) (hn : meth.name = "steps") (hf : z_fin g p l e R s m args below meth c Q prog_1_method_11_code P (some .int)) : ∀ x ∈ k_St_steps_0, z_sn zTab g d p l e R s m args below meth c Q 3 P x := by
  unfold k_St_steps_0
  refine z_k (S_aload_n cx (k := 0) (by decide +kernel) rfl) ?_
  refine z_k (S_iload_n cx (k := 1) (by decide +kernel) rfl) ?_
  refine z_k (S_callV cx (T := F_St) (N := 4) (r := r_St_sessionAt) rfl ⟨w_240, w_1, by decide, by decide +kernel⟩ w_237 w_239 wp_2 rfl (by decide +kernel)) ?_
  refine z_k (S_astore_n cx (by decide) (k := 2) (by decide +kernel) rfl) ?_
  refine z_k (S_aload_n cx (k := 2) (by decide +kernel) rfl) ?_
  refine z_k (S_ifnonnull cx (off := 7) (by decide +kernel) (by decide)) ?_
  refine z_k (S_push cx (n := -1) (by decide +kernel) (by decide)) ?_
  refine z_k (S_goto cx (off := 10) (by decide +kernel) (by decide)) ?_
  refine z_k (S_aload_n cx (k := 2) (by decide +kernel) rfl) ?_
  refine z_k (S_getfN cx (T := F_Se) (N := 8) (k := 2) rfl in_Se (by decide) rfl w_180 (by decide +kernel)) ?_
  refine z_k (S_getfN cx (T := F_Ag) (N := 12) (k := 11) rfl in_Ag (by decide) rfl w_150 (by decide +kernel)) ?_
  refine z_k (S_iret (hf.2.1 rfl) (by decide +kernel)) ?_
  exact z_k0
theorem s_St_steps : z_snd zTab r_St_steps := ⟨by decide +kernel, w_473, fun g d p l e R s m args below meth c Q P cx hn hf => z_k (s_St_steps_0 cx hn hf) (z_k0)⟩
set_option maxRecDepth 100000 in
set_option maxHeartbeats 4000000 in
theorem s_St_peer_0 (cx : z_cx zTab g d p l e R s m args below meth c prog_1_method_12_code "SealedTalks" 3) (hn : meth.name = "peer") (hf : z_fin g p l e R s m args below meth c Q prog_1_method_12_code P (some .int)) : ∀ x ∈ k_St_peer_0, z_sn zTab g d p l e R s m args below meth c Q 3 P x := by
  unfold k_St_peer_0
  refine z_k (S_aload_n cx (k := 0) (by decide +kernel) rfl) ?_
  refine z_k (S_iload_n cx (k := 1) (by decide +kernel) rfl) ?_
  refine z_k (S_callV cx (T := F_St) (N := 4) (r := r_St_sessionAt) rfl ⟨w_240, w_1, by decide, by decide +kernel⟩ w_237 w_239 wp_2 rfl (by decide +kernel)) ?_
  refine z_k (S_astore_n cx (by decide) (k := 2) (by decide +kernel) rfl) ?_
  refine z_k (S_aload_n cx (k := 2) (by decide +kernel) rfl) ?_
  refine z_k (S_ifnonnull cx (off := 7) (by decide +kernel) (by decide)) ?_
  refine z_k (S_push cx (n := -1) (by decide +kernel) (by decide)) ?_
  refine z_k (S_goto cx (off := 10) (by decide +kernel) (by decide)) ?_
  refine z_k (S_aload_n cx (k := 2) (by decide +kernel) rfl) ?_
  refine z_k (S_getfN cx (T := F_Se) (N := 8) (k := 2) rfl in_Se (by decide) rfl w_180 (by decide +kernel)) ?_
  refine z_k (S_getfN cx (T := F_Ag) (N := 12) (k := 5) rfl in_Ag (by decide) rfl w_142 (by decide +kernel)) ?_
  refine z_k (S_iret (hf.2.1 rfl) (by decide +kernel)) ?_
  exact z_k0
theorem s_St_peer : z_snd zTab r_St_peer := ⟨by decide +kernel, w_477, fun g d p l e R s m args below meth c Q P cx hn hf => z_k (s_St_peer_0 cx hn hf) (z_k0)⟩
set_option maxRecDepth 100000 in
set_option maxHeartbeats 4000000 in
theorem s_St_payload_0 (cx : z_cx zTab g d p l e R s m args below meth c prog_1_method_13_code "SealedTalks" 3) (hn : meth.name = "payload") (hf : z_fin g p l e R s m args below meth c Q prog_1_method_13_code P (some .int)) : ∀ x ∈ k_St_payload_0, z_sn zTab g d p l e R s m args below meth c Q 3 P x := by
  unfold k_St_payload_0
  refine z_k (S_aload_n cx (k := 0) (by decide +kernel) rfl) ?_
  refine z_k (S_iload_n cx (k := 1) (by decide +kernel) rfl) ?_
  refine z_k (S_callV cx (T := F_St) (N := 4) (r := r_St_sessionAt) rfl ⟨w_240, w_1, by decide, by decide +kernel⟩ w_237 w_239 wp_2 rfl (by decide +kernel)) ?_
  refine z_k (S_astore_n cx (by decide) (k := 2) (by decide +kernel) rfl) ?_
  refine z_k (S_aload_n cx (k := 2) (by decide +kernel) rfl) ?_
  refine z_k (S_ifnonnull cx (off := 7) (by decide +kernel) (by decide)) ?_
  refine z_k (S_push cx (n := 0) (by decide +kernel) (by decide)) ?_
  refine z_k (S_goto cx (off := 7) (by decide +kernel) (by decide)) ?_
  refine z_k (S_aload_n cx (k := 2) (by decide +kernel) rfl) ?_
  refine z_k (S_getfN cx (T := F_Se) (N := 8) (k := 6) rfl in_Se (by decide) rfl w_186 (by decide +kernel)) ?_
  refine z_k (S_iret (hf.2.1 rfl) (by decide +kernel)) ?_
  exact z_k0
theorem s_St_payload : z_snd zTab r_St_payload := ⟨by decide +kernel, w_481, fun g d p l e R s m args below meth c Q P cx hn hf => z_k (s_St_payload_0 cx hn hf) (z_k0)⟩
set_option maxRecDepth 100000 in
set_option maxHeartbeats 4000000 in
theorem s_St_accepted_0 (cx : z_cx zTab g d p l e R s m args below meth c prog_1_method_14_code "SealedTalks" 3) (hn : meth.name = "accepted") (hf : z_fin g p l e R s m args below meth c Q prog_1_method_14_code P (some .int)) : ∀ x ∈ k_St_accepted_0, z_sn zTab g d p l e R s m args below meth c Q 3 P x := by
  unfold k_St_accepted_0
  refine z_k (S_aload_n cx (k := 0) (by decide +kernel) rfl) ?_
  refine z_k (S_iload_n cx (k := 1) (by decide +kernel) rfl) ?_
  refine z_k (S_callV cx (T := F_St) (N := 4) (r := r_St_sessionAt) rfl ⟨w_240, w_1, by decide, by decide +kernel⟩ w_237 w_239 wp_2 rfl (by decide +kernel)) ?_
  refine z_k (S_astore_n cx (by decide) (k := 2) (by decide +kernel) rfl) ?_
  refine z_k (S_aload_n cx (k := 2) (by decide +kernel) rfl) ?_
  refine z_k (S_ifnonnull cx (off := 7) (by decide +kernel) (by decide)) ?_
  refine z_k (S_push cx (n := -1) (by decide +kernel) (by decide)) ?_
  refine z_k (S_goto cx (off := 7) (by decide +kernel) (by decide)) ?_
  refine z_k (S_aload_n cx (k := 2) (by decide +kernel) rfl) ?_
  refine z_k (S_getfN cx (T := F_Se) (N := 8) (k := 7) rfl in_Se (by decide) rfl w_188 (by decide +kernel)) ?_
  refine z_k (S_iret (hf.2.1 rfl) (by decide +kernel)) ?_
  exact z_k0
theorem s_St_accepted : z_snd zTab r_St_accepted := ⟨by decide +kernel, w_485, fun g d p l e R s m args below meth c Q P cx hn hf => z_k (s_St_accepted_0 cx hn hf) (z_k0)⟩
set_option maxRecDepth 100000 in
set_option maxHeartbeats 4000000 in
theorem s_St_match_0 (cx : z_cx zTab g d p l e R s m args below meth c prog_1_method_15_code "SealedTalks" 5) (hn : meth.name = "match") (hf : z_fin g p l e R s m args below meth c Q prog_1_method_15_code P (some .boolean)) : ∀ x ∈ k_St_match_0, z_sn zTab g d p l e R s m args below meth c Q 5 P x := by
  unfold k_St_match_0
  refine z_k (S_aload_n cx (k := 0) (by decide +kernel) rfl) ?_
  refine z_k (S_iload_n cx (k := 1) (by decide +kernel) rfl) ?_
  refine z_k (S_callV cx (T := F_St) (N := 4) (r := r_St_sessionAt) rfl ⟨w_240, w_1, by decide, by decide +kernel⟩ w_237 w_239 wp_2 rfl (by decide +kernel)) ?_
  refine z_k (S_astore_n cx (by decide) (k := 3) (by decide +kernel) rfl) ?_
  refine z_k (S_aload_n cx (k := 0) (by decide +kernel) rfl) ?_
  refine z_k (S_iload_n cx (k := 2) (by decide +kernel) rfl) ?_
  refine z_k (S_callV cx (T := F_St) (N := 4) (r := r_St_sessionAt) rfl ⟨w_240, w_1, by decide, by decide +kernel⟩ w_237 w_239 wp_2 rfl (by decide +kernel)) ?_
  refine z_k (S_astore cx (by decide) (by decide +kernel)) ?_
  refine z_k (S_aload_n cx (k := 3) (by decide +kernel) rfl) ?_
  refine z_k (S_ifnull cx (off := 29) (by decide +kernel) (by decide)) ?_
  refine z_k (S_aload cx (by decide +kernel)) ?_
  refine z_k (S_ifnull cx (off := 24) (by decide +kernel) (by decide)) ?_
  refine z_k (S_aload_n cx (k := 3) (by decide +kernel) rfl) ?_
  refine z_k (S_getfN cx (T := F_Se) (N := 8) (k := 2) rfl in_Se (by decide) rfl w_180 (by decide +kernel)) ?_
  refine z_k (S_callV cx (T := F_Ag) (N := 12) (r := r_Ag_isDone) rfl ⟨w_248, w_7, by decide, by decide +kernel⟩ w_331 w_246 w_247 rfl (by decide +kernel)) ?_
  refine z_k (S_if_eq cx (off := 14) (by decide +kernel) (by decide)) ?_
  refine z_k (S_aload cx (by decide +kernel)) ?_
  refine z_k (S_getfN cx (T := F_Se) (N := 8) (k := 2) rfl in_Se (by decide) rfl w_180 (by decide +kernel)) ?_
  refine z_k (S_callV cx (T := F_Ag) (N := 12) (r := r_Ag_isDone) rfl ⟨w_248, w_7, by decide, by decide +kernel⟩ w_331 w_246 w_247 rfl (by decide +kernel)) ?_
  refine z_k (S_if_ne cx (off := 5) (by decide +kernel) (by decide)) ?_
  refine z_k (S_push cx (n := 0) (by decide +kernel) (by decide)) ?_
  refine z_k (S_zret (hf.2.2.1 rfl) (by decide +kernel)) ?_
  refine z_k (S_aload_n cx (k := 3) (by decide +kernel) rfl) ?_
  refine z_k (S_getfN cx (T := F_Se) (N := 8) (k := 1) rfl in_Se (by decide) rfl w_178 (by decide +kernel)) ?_
  exact z_k0
set_option maxRecDepth 100000 in
set_option maxHeartbeats 4000000 in
theorem s_St_match_1 (cx : z_cx zTab g d p l e R s m args below meth c prog_1_method_15_code "SealedTalks" 5) (hn : meth.name = "match") (hf : z_fin g p l e R s m args below meth c Q prog_1_method_15_code P (some .boolean)) : ∀ x ∈ k_St_match_1, z_sn zTab g d p l e R s m args below meth c Q 5 P x := by
  unfold k_St_match_1
  refine z_k (S_getfN cx (T := F_Ch) (N := 6) (k := 2) rfl in_Ch (by decide) rfl w_111 (by decide +kernel)) ?_
  refine z_k (S_aload cx (by decide +kernel)) ?_
  refine z_k (S_getfN cx (T := F_Se) (N := 8) (k := 1) rfl in_Se (by decide) rfl w_178 (by decide +kernel)) ?_
  refine z_k (S_getfN cx (T := F_Ch) (N := 6) (k := 3) rfl in_Ch (by decide) rfl w_113 (by decide +kernel)) ?_
  refine z_k (S_icmp_ne cx (off := 25) (by decide +kernel) (by decide)) ?_
  refine z_k (S_aload cx (by decide +kernel)) ?_
  refine z_k (S_getfN cx (T := F_Se) (N := 8) (k := 1) rfl in_Se (by decide) rfl w_178 (by decide +kernel)) ?_
  refine z_k (S_getfN cx (T := F_Ch) (N := 6) (k := 2) rfl in_Ch (by decide) rfl w_111 (by decide +kernel)) ?_
  refine z_k (S_aload_n cx (k := 3) (by decide +kernel) rfl) ?_
  refine z_k (S_getfN cx (T := F_Se) (N := 8) (k := 1) rfl in_Se (by decide) rfl w_178 (by decide +kernel)) ?_
  refine z_k (S_getfN cx (T := F_Ch) (N := 6) (k := 3) rfl in_Ch (by decide) rfl w_113 (by decide +kernel)) ?_
  refine z_k (S_icmp_ne cx (off := 7) (by decide +kernel) (by decide)) ?_
  refine z_k (S_push cx (n := 1) (by decide +kernel) (by decide)) ?_
  refine z_k (S_goto cx (off := 4) (by decide +kernel) (by decide)) ?_
  refine z_k (S_push cx (n := 0) (by decide +kernel) (by decide)) ?_
  refine z_k (S_zret (hf.2.2.1 rfl) (by decide +kernel)) ?_
  exact z_k0
theorem s_St_match : z_snd zTab r_St_match := ⟨by decide +kernel, w_489, fun g d p l e R s m args below meth c Q P cx hn hf => z_k (s_St_match_0 cx hn hf) (z_k (s_St_match_1 cx hn hf) (z_k0))⟩
set_option maxRecDepth 100000 in
set_option maxHeartbeats 4000000 in
theorem s_St_open_0 (cx : z_cx zTab g d p l e R s m args below meth c prog_1_method_16_code "SealedTalks" 3) (hn : meth.name = "open") (hf : z_fin g p l e R s m args below meth c Q prog_1_method_16_code P (some .boolean)) : ∀ x ∈ k_St_open_0, z_sn zTab g d p l e R s m args below meth c Q 3 P x := by
  unfold k_St_open_0
  refine z_k (S_aload_n cx (k := 0) (by decide +kernel) rfl) ?_
  refine z_k (S_iload_n cx (k := 1) (by decide +kernel) rfl) ?_
  refine z_k (S_callV cx (T := F_St) (N := 4) (r := r_St_sessionAt) rfl ⟨w_240, w_1, by decide, by decide +kernel⟩ w_237 w_239 wp_2 rfl (by decide +kernel)) ?_
  refine z_k (S_astore_n cx (by decide) (k := 2) (by decide +kernel) rfl) ?_
  refine z_k (S_aload_n cx (k := 2) (by decide +kernel) rfl) ?_
  refine z_k (S_ifnull cx (off := 13) (by decide +kernel) (by decide)) ?_
  refine z_k (S_aload_n cx (k := 2) (by decide +kernel) rfl) ?_
  refine z_k (S_getfN cx (T := F_Se) (N := 8) (k := 2) rfl in_Se (by decide) rfl w_180 (by decide +kernel)) ?_
  refine z_k (S_callV cx (T := F_Ag) (N := 12) (r := r_Ag_isDone) rfl ⟨w_248, w_7, by decide, by decide +kernel⟩ w_331 w_246 w_247 rfl (by decide +kernel)) ?_
  refine z_k (S_if_ne cx (off := 5) (by decide +kernel) (by decide)) ?_
  refine z_k (S_push cx (n := 0) (by decide +kernel) (by decide)) ?_
  refine z_k (S_zret (hf.2.2.1 rfl) (by decide +kernel)) ?_
  refine z_k (S_aload_n cx (k := 0) (by decide +kernel) rfl) ?_
  refine z_k (S_getf cx (T := F_St) (N := 4) (k := 0) rfl in_St (by decide) rfl w_77 (by decide +kernel)) ?_
  refine z_k (S_aload_n cx (k := 2) (by decide +kernel) rfl) ?_
  refine z_k (S_getfN cx (T := F_Se) (N := 8) (k := 1) rfl in_Se (by decide) rfl w_178 (by decide +kernel)) ?_
  refine z_k (S_getfN cx (T := F_Ch) (N := 6) (k := 2) rfl in_Ch (by decide) rfl w_111 (by decide +kernel)) ?_
  refine z_k (S_callV cx (T := F_Te) (N := 11) (r := r_Te_canWorkOut) rfl ⟨w_497, w_2, by decide, by decide +kernel⟩ w_494 w_495 w_496 rfl (by decide +kernel)) ?_
  refine z_k (S_if_eq cx (off := 24) (by decide +kernel) (by decide)) ?_
  refine z_k (S_aload_n cx (k := 0) (by decide +kernel) rfl) ?_
  refine z_k (S_getf cx (T := F_St) (N := 4) (k := 0) rfl in_St (by decide) rfl w_77 (by decide +kernel)) ?_
  refine z_k (S_aload_n cx (k := 2) (by decide +kernel) rfl) ?_
  refine z_k (S_getfN cx (T := F_Se) (N := 8) (k := 1) rfl in_Se (by decide) rfl w_178 (by decide +kernel)) ?_
  refine z_k (S_getfN cx (T := F_Ch) (N := 6) (k := 3) rfl in_Ch (by decide) rfl w_113 (by decide +kernel)) ?_
  exact z_k0
set_option maxRecDepth 100000 in
set_option maxHeartbeats 4000000 in
theorem s_St_open_1 (cx : z_cx zTab g d p l e R s m args below meth c prog_1_method_16_code "SealedTalks" 3) (hn : meth.name = "open") (hf : z_fin g p l e R s m args below meth c Q prog_1_method_16_code P (some .boolean)) : ∀ x ∈ k_St_open_1, z_sn zTab g d p l e R s m args below meth c Q 3 P x := by
  unfold k_St_open_1
  refine z_k (S_callV cx (T := F_Te) (N := 11) (r := r_Te_canWorkOut) rfl ⟨w_497, w_2, by decide, by decide +kernel⟩ w_494 w_495 w_496 rfl (by decide +kernel)) ?_
  refine z_k (S_if_eq cx (off := 7) (by decide +kernel) (by decide)) ?_
  refine z_k (S_push cx (n := 1) (by decide +kernel) (by decide)) ?_
  refine z_k (S_goto cx (off := 4) (by decide +kernel) (by decide)) ?_
  refine z_k (S_push cx (n := 0) (by decide +kernel) (by decide)) ?_
  refine z_k (S_zret (hf.2.2.1 rfl) (by decide +kernel)) ?_
  exact z_k0
theorem s_St_open : z_snd zTab r_St_open := ⟨by decide +kernel, w_493, fun g d p l e R s m args below meth c Q P cx hn hf => z_k (s_St_open_0 cx hn hf) (z_k (s_St_open_1 cx hn hf) (z_k0))⟩
set_option maxRecDepth 100000 in
set_option maxHeartbeats 4000000 in
theorem s_St_parts_0 (cx : z_cx zTab g d p l e R s m args below meth c prog_1_method_17_code "SealedTalks" 2) (hn : meth.name = "parts") (hf : z_fin g p l e R s m args below meth c Q prog_1_method_17_code P (some .int)) : ∀ x ∈ k_St_parts_0, z_sn zTab g d p l e R s m args below meth c Q 2 P x := by
  unfold k_St_parts_0
  refine z_k (S_aload_n cx (k := 0) (by decide +kernel) rfl) ?_
  refine z_k (S_getf cx (T := F_St) (N := 4) (k := 1) rfl in_St (by decide) rfl w_78 (by decide +kernel)) ?_
  refine z_k (S_iload_n cx (k := 1) (by decide +kernel) rfl) ?_
  refine z_k (S_callV cx (T := F_Me) (N := 3) (r := r_Me_has) rfl ⟨w_346, w_3, by decide, by decide +kernel⟩ w_343 w_344 w_345 rfl (by decide +kernel)) ?_
  refine z_k (S_if_eq cx (off := 14) (by decide +kernel) (by decide)) ?_
  refine z_k (S_aload_n cx (k := 0) (by decide +kernel) rfl) ?_
  refine z_k (S_getf cx (T := F_St) (N := 4) (k := 1) rfl in_St (by decide) rfl w_78 (by decide +kernel)) ?_
  refine z_k (S_iload_n cx (k := 1) (by decide +kernel) rfl) ?_
  refine z_k (S_callV cx (T := F_Me) (N := 3) (r := r_Me_sizeOf) rfl ⟨w_358, w_3, by decide, by decide +kernel⟩ w_443 w_356 w_357 rfl (by decide +kernel)) ?_
  refine z_k (S_goto cx (off := 4) (by decide +kernel) (by decide)) ?_
  refine z_k (S_push cx (n := -1) (by decide +kernel) (by decide)) ?_
  refine z_k (S_iret (hf.2.1 rfl) (by decide +kernel)) ?_
  exact z_k0
theorem s_St_parts : z_snd zTab r_St_parts := ⟨by decide +kernel, w_501, fun g d p l e R s m args below meth c Q P cx hn hf => z_k (s_St_parts_0 cx hn hf) (z_k0)⟩
set_option maxRecDepth 100000 in
set_option maxHeartbeats 4000000 in
theorem s_St_sees_0 (cx : z_cx zTab g d p l e R s m args below meth c prog_1_method_18_code "SealedTalks" 4) (hn : meth.name = "sees") (hf : z_fin g p l e R s m args below meth c Q prog_1_method_18_code P (some .int)) : ∀ x ∈ k_St_sees_0, z_sn zTab g d p l e R s m args below meth c Q 4 P x := by
  unfold k_St_sees_0
  refine z_k (S_aload_n cx (k := 0) (by decide +kernel) rfl) ?_
  refine z_k (S_getf cx (T := F_St) (N := 4) (k := 1) rfl in_St (by decide) rfl w_78 (by decide +kernel)) ?_
  refine z_k (S_iload_n cx (k := 1) (by decide +kernel) rfl) ?_
  refine z_k (S_iload_n cx (k := 2) (by decide +kernel) rfl) ?_
  refine z_k (S_callV cx (T := F_Me) (N := 3) (r := r_Me_partAt) rfl ⟨w_354, w_3, by decide, by decide +kernel⟩ w_438 w_352 w_353 rfl (by decide +kernel)) ?_
  refine z_k (S_istore_n cx (by decide) (k := 3) (by decide +kernel) rfl) ?_
  refine z_k (S_aload_n cx (k := 0) (by decide +kernel) rfl) ?_
  refine z_k (S_getf cx (T := F_St) (N := 4) (k := 0) rfl in_St (by decide) rfl w_77 (by decide +kernel)) ?_
  refine z_k (S_iload_n cx (k := 3) (by decide +kernel) rfl) ?_
  refine z_k (S_callV cx (T := F_Te) (N := 11) (r := r_Te_isNum) rfl ⟨w_364, w_2, by decide, by decide +kernel⟩ w_506 w_362 w_363 rfl (by decide +kernel)) ?_
  refine z_k (S_if_eq cx (off := 5) (by decide +kernel) (by decide)) ?_
  refine z_k (S_push cx (n := 1) (by decide +kernel) (by decide)) ?_
  refine z_k (S_iret (hf.2.1 rfl) (by decide +kernel)) ?_
  refine z_k (S_aload_n cx (k := 0) (by decide +kernel) rfl) ?_
  refine z_k (S_getf cx (T := F_St) (N := 4) (k := 0) rfl in_St (by decide) rfl w_77 (by decide +kernel)) ?_
  refine z_k (S_iload_n cx (k := 3) (by decide +kernel) rfl) ?_
  refine z_k (S_callV cx (T := F_Te) (N := 11) (r := r_Te_isPub) rfl ⟨w_422, w_2, by decide, by decide +kernel⟩ w_507 w_420 w_421 rfl (by decide +kernel)) ?_
  refine z_k (S_if_eq cx (off := 5) (by decide +kernel) (by decide)) ?_
  refine z_k (S_push cx (n := 2) (by decide +kernel) (by decide)) ?_
  refine z_k (S_iret (hf.2.1 rfl) (by decide +kernel)) ?_
  refine z_k (S_aload_n cx (k := 0) (by decide +kernel) rfl) ?_
  refine z_k (S_getf cx (T := F_St) (N := 4) (k := 0) rfl in_St (by decide) rfl w_77 (by decide +kernel)) ?_
  refine z_k (S_iload_n cx (k := 3) (by decide +kernel) rfl) ?_
  refine z_k (S_callV cx (T := F_Te) (N := 11) (r := r_Te_isSeal) rfl ⟨w_380, w_2, by decide, by decide +kernel⟩ w_508 w_378 w_379 rfl (by decide +kernel)) ?_
  exact z_k0
set_option maxRecDepth 100000 in
set_option maxHeartbeats 4000000 in
theorem s_St_sees_1 (cx : z_cx zTab g d p l e R s m args below meth c prog_1_method_18_code "SealedTalks" 4) (hn : meth.name = "sees") (hf : z_fin g p l e R s m args below meth c Q prog_1_method_18_code P (some .int)) : ∀ x ∈ k_St_sees_1, z_sn zTab g d p l e R s m args below meth c Q 4 P x := by
  unfold k_St_sees_1
  refine z_k (S_if_eq cx (off := 20) (by decide +kernel) (by decide)) ?_
  refine z_k (S_aload_n cx (k := 0) (by decide +kernel) rfl) ?_
  refine z_k (S_getf cx (T := F_St) (N := 4) (k := 0) rfl in_St (by decide) rfl w_77 (by decide +kernel)) ?_
  refine z_k (S_iload_n cx (k := 3) (by decide +kernel) rfl) ?_
  refine z_k (S_callV cx (T := F_Te) (N := 11) (r := r_Te_canOpen) rfl ⟨w_512, w_2, by decide, by decide +kernel⟩ w_509 w_510 w_511 rfl (by decide +kernel)) ?_
  refine z_k (S_if_eq cx (off := 7) (by decide +kernel) (by decide)) ?_
  refine z_k (S_push cx (n := 3) (by decide +kernel) (by decide)) ?_
  refine z_k (S_goto cx (off := 4) (by decide +kernel) (by decide)) ?_
  refine z_k (S_push cx (n := 4) (by decide +kernel) (by decide)) ?_
  refine z_k (S_iret (hf.2.1 rfl) (by decide +kernel)) ?_
  refine z_k (S_push cx (n := -1) (by decide +kernel) (by decide)) ?_
  refine z_k (S_iret (hf.2.1 rfl) (by decide +kernel)) ?_
  exact z_k0
theorem s_St_sees : z_snd zTab r_St_sees := ⟨by decide +kernel, w_505, fun g d p l e R s m args below meth c Q P cx hn hf => z_k (s_St_sees_0 cx hn hf) (z_k (s_St_sees_1 cx hn hf) (z_k0))⟩
set_option maxRecDepth 100000 in
set_option maxHeartbeats 4000000 in
theorem s_St_shown_0 (cx : z_cx zTab g d p l e R s m args below meth c prog_1_method_19_code "SealedTalks" 5) (hn : meth.name = "shown") (hf : z_fin g p l e R s m args below meth c Q prog_1_method_19_code P (some .int)) : ∀ x ∈ k_St_shown_0, z_sn zTab g d p l e R s m args below meth c Q 5 P x := by
  unfold k_St_shown_0
  refine z_k (S_aload_n cx (k := 0) (by decide +kernel) rfl) ?_
  refine z_k (S_getf cx (T := F_St) (N := 4) (k := 1) rfl in_St (by decide) rfl w_78 (by decide +kernel)) ?_
  refine z_k (S_iload_n cx (k := 1) (by decide +kernel) rfl) ?_
  refine z_k (S_iload_n cx (k := 2) (by decide +kernel) rfl) ?_
  refine z_k (S_callV cx (T := F_Me) (N := 3) (r := r_Me_partAt) rfl ⟨w_354, w_3, by decide, by decide +kernel⟩ w_438 w_352 w_353 rfl (by decide +kernel)) ?_
  refine z_k (S_istore_n cx (by decide) (k := 3) (by decide +kernel) rfl) ?_
  refine z_k (S_aload_n cx (k := 0) (by decide +kernel) rfl) ?_
  refine z_k (S_getf cx (T := F_St) (N := 4) (k := 0) rfl in_St (by decide) rfl w_77 (by decide +kernel)) ?_
  refine z_k (S_iload_n cx (k := 3) (by decide +kernel) rfl) ?_
  refine z_k (S_callV cx (T := F_Te) (N := 11) (r := r_Te_isSeal) rfl ⟨w_380, w_2, by decide, by decide +kernel⟩ w_508 w_378 w_379 rfl (by decide +kernel)) ?_
  refine z_k (S_if_eq cx (off := 25) (by decide +kernel) (by decide)) ?_
  refine z_k (S_aload_n cx (k := 0) (by decide +kernel) rfl) ?_
  refine z_k (S_getf cx (T := F_St) (N := 4) (k := 0) rfl in_St (by decide) rfl w_77 (by decide +kernel)) ?_
  refine z_k (S_iload_n cx (k := 3) (by decide +kernel) rfl) ?_
  refine z_k (S_callV cx (T := F_Te) (N := 11) (r := r_Te_canOpen) rfl ⟨w_512, w_2, by decide, by decide +kernel⟩ w_509 w_510 w_511 rfl (by decide +kernel)) ?_
  refine z_k (S_if_eq cx (off := 14) (by decide +kernel) (by decide)) ?_
  refine z_k (S_aload_n cx (k := 0) (by decide +kernel) rfl) ?_
  refine z_k (S_getf cx (T := F_St) (N := 4) (k := 0) rfl in_St (by decide) rfl w_77 (by decide +kernel)) ?_
  refine z_k (S_iload_n cx (k := 3) (by decide +kernel) rfl) ?_
  refine z_k (S_callV cx (T := F_Te) (N := 11) (r := r_Te_insideOf) rfl ⟨w_384, w_2, by decide, by decide +kernel⟩ w_517 w_382 w_383 rfl (by decide +kernel)) ?_
  refine z_k (S_goto cx (off := 4) (by decide +kernel) (by decide)) ?_
  refine z_k (S_iload_n cx (k := 3) (by decide +kernel) rfl) ?_
  refine z_k (S_istore cx (by decide) (by decide +kernel)) ?_
  refine z_k (S_aload_n cx (k := 0) (by decide +kernel) rfl) ?_
  exact z_k0
set_option maxRecDepth 100000 in
set_option maxHeartbeats 4000000 in
theorem s_St_shown_1 (cx : z_cx zTab g d p l e R s m args below meth c prog_1_method_19_code "SealedTalks" 5) (hn : meth.name = "shown") (hf : z_fin g p l e R s m args below meth c Q prog_1_method_19_code P (some .int)) : ∀ x ∈ k_St_shown_1, z_sn zTab g d p l e R s m args below meth c Q 5 P x := by
  unfold k_St_shown_1
  refine z_k (S_getf cx (T := F_St) (N := 4) (k := 0) rfl in_St (by decide) rfl w_77 (by decide +kernel)) ?_
  refine z_k (S_iload cx (by decide +kernel)) ?_
  refine z_k (S_callV cx (T := F_Te) (N := 11) (r := r_Te_isNum) rfl ⟨w_364, w_2, by decide, by decide +kernel⟩ w_506 w_362 w_363 rfl (by decide +kernel)) ?_
  refine z_k (S_if_ne cx (off := 15) (by decide +kernel) (by decide)) ?_
  refine z_k (S_aload_n cx (k := 0) (by decide +kernel) rfl) ?_
  refine z_k (S_getf cx (T := F_St) (N := 4) (k := 0) rfl in_St (by decide) rfl w_77 (by decide +kernel)) ?_
  refine z_k (S_iload cx (by decide +kernel)) ?_
  refine z_k (S_callV cx (T := F_Te) (N := 11) (r := r_Te_isPub) rfl ⟨w_422, w_2, by decide, by decide +kernel⟩ w_507 w_420 w_421 rfl (by decide +kernel)) ?_
  refine z_k (S_if_eq cx (off := 15) (by decide +kernel) (by decide)) ?_
  refine z_k (S_aload_n cx (k := 0) (by decide +kernel) rfl) ?_
  refine z_k (S_getf cx (T := F_St) (N := 4) (k := 0) rfl in_St (by decide) rfl w_77 (by decide +kernel)) ?_
  refine z_k (S_iload cx (by decide +kernel)) ?_
  refine z_k (S_callV cx (T := F_Te) (N := 11) (r := r_Te_valueOf) rfl ⟨w_368, w_2, by decide, by decide +kernel⟩ w_429 w_366 w_367 rfl (by decide +kernel)) ?_
  refine z_k (S_goto cx (off := 4) (by decide +kernel) (by decide)) ?_
  refine z_k (S_push cx (n := 0) (by decide +kernel) (by decide)) ?_
  refine z_k (S_iret (hf.2.1 rfl) (by decide +kernel)) ?_
  exact z_k0
theorem s_St_shown : z_snd zTab r_St_shown := ⟨by decide +kernel, w_516, fun g d p l e R s m args below meth c Q P cx hn hf => z_k (s_St_shown_0 cx hn hf) (z_k (s_St_shown_1 cx hn hf) (z_k0))⟩
set_option maxRecDepth 100000 in
set_option maxHeartbeats 4000000 in
theorem s_St_same_0 (cx : z_cx zTab g d p l e R s m args below meth c prog_1_method_20_code "SealedTalks" 6) (hn : meth.name = "same") (hf : z_fin g p l e R s m args below meth c Q prog_1_method_20_code P (some .boolean)) : ∀ x ∈ k_St_same_0, z_sn zTab g d p l e R s m args below meth c Q 6 P x := by
  unfold k_St_same_0
  refine z_k (S_aload_n cx (k := 0) (by decide +kernel) rfl) ?_
  refine z_k (S_getf cx (T := F_St) (N := 4) (k := 1) rfl in_St (by decide) rfl w_78 (by decide +kernel)) ?_
  refine z_k (S_iload_n cx (k := 1) (by decide +kernel) rfl) ?_
  refine z_k (S_iload_n cx (k := 2) (by decide +kernel) rfl) ?_
  refine z_k (S_callV cx (T := F_Me) (N := 3) (r := r_Me_partAt) rfl ⟨w_354, w_3, by decide, by decide +kernel⟩ w_438 w_352 w_353 rfl (by decide +kernel)) ?_
  refine z_k (S_istore cx (by decide) (by decide +kernel)) ?_
  refine z_k (S_iload cx (by decide +kernel)) ?_
  refine z_k (S_if_eq cx (off := 22) (by decide +kernel) (by decide)) ?_
  refine z_k (S_iload cx (by decide +kernel)) ?_
  refine z_k (S_aload_n cx (k := 0) (by decide +kernel) rfl) ?_
  refine z_k (S_getf cx (T := F_St) (N := 4) (k := 1) rfl in_St (by decide) rfl w_78 (by decide +kernel)) ?_
  refine z_k (S_iload_n cx (k := 3) (by decide +kernel) rfl) ?_
  refine z_k (S_iload cx (by decide +kernel)) ?_
  refine z_k (S_callV cx (T := F_Me) (N := 3) (r := r_Me_partAt) rfl ⟨w_354, w_3, by decide, by decide +kernel⟩ w_438 w_352 w_353 rfl (by decide +kernel)) ?_
  refine z_k (S_icmp_ne cx (off := 7) (by decide +kernel) (by decide)) ?_
  refine z_k (S_push cx (n := 1) (by decide +kernel) (by decide)) ?_
  refine z_k (S_goto cx (off := 4) (by decide +kernel) (by decide)) ?_
  refine z_k (S_push cx (n := 0) (by decide +kernel) (by decide)) ?_
  refine z_k (S_zret (hf.2.2.1 rfl) (by decide +kernel)) ?_
  exact z_k0
theorem s_St_same : z_snd zTab r_St_same := ⟨by decide +kernel, w_521, fun g d p l e R s m args below meth c Q P cx hn hf => z_k (s_St_same_0 cx hn hf) (z_k0)⟩
set_option maxRecDepth 100000 in
set_option maxHeartbeats 4000000 in
theorem s_St_isStaticKey_0 (cx : z_cx zTab g d p l e R s m args below meth c prog_1_method_21_code "SealedTalks" 1) (hn : meth.name = "isStaticKey") (hf : z_fin g p l e R s m args below meth c Q prog_1_method_21_code P (some .boolean)) : ∀ x ∈ k_St_isStaticKey_0, z_sn zTab g d p l e R s m args below meth c Q 1 P x := by
  unfold k_St_isStaticKey_0
  refine z_k (S_iload_n cx (k := 0) (by decide +kernel) rfl) ?_
  refine z_k (S_push cx (n := 1) (by decide +kernel) (by decide)) ?_
  refine z_k (S_icmp_lt cx (off := 13) (by decide +kernel) (by decide)) ?_
  refine z_k (S_iload_n cx (k := 0) (by decide +kernel) rfl) ?_
  refine z_k (S_bipush cx (n := 8) (by decide +kernel) (by decide)) ?_
  refine z_k (S_icmp_gt cx (off := 7) (by decide +kernel) (by decide)) ?_
  refine z_k (S_push cx (n := 1) (by decide +kernel) (by decide)) ?_
  refine z_k (S_goto cx (off := 4) (by decide +kernel) (by decide)) ?_
  refine z_k (S_push cx (n := 0) (by decide +kernel) (by decide)) ?_
  refine z_k (S_zret (hf.2.2.1 rfl) (by decide +kernel)) ?_
  exact z_k0
theorem s_St_isStaticKey : z_snd zTab r_St_isStaticKey := ⟨by decide +kernel, w_96, fun g d p l e R s m args below meth c Q P cx hn hf => z_k (s_St_isStaticKey_0 cx hn hf) (z_k0)⟩
set_option maxRecDepth 100000 in
set_option maxHeartbeats 4000000 in
theorem s_St_sessionAt_0 (cx : z_cx zTab g d p l e R s m args below meth c prog_1_method_22_code "SealedTalks" 2) (hn : meth.name = "sessionAt") (hf : z_fin g p l e R s m args below meth c Q prog_1_method_22_code P (some (.object "SealedTalks$Session"))) : ∀ x ∈ k_St_sessionAt_0, z_sn zTab g d p l e R s m args below meth c Q 2 P x := by
  unfold k_St_sessionAt_0
  refine z_k (S_iload_n cx (k := 1) (by decide +kernel) rfl) ?_
  refine z_k (S_if_lt cx (off := 20) (by decide +kernel) (by decide)) ?_
  refine z_k (S_iload_n cx (k := 1) (by decide +kernel) rfl) ?_
  refine z_k (S_aload_n cx (k := 0) (by decide +kernel) rfl) ?_
  refine z_k (S_getf cx (T := F_St) (N := 4) (k := 3) rfl in_St (by decide) rfl w_80 (by decide +kernel)) ?_
  refine z_k (S_icmp_ge cx (off := 12) (by decide +kernel) (by decide)) ?_
  refine z_k (S_aload_n cx (k := 0) (by decide +kernel) rfl) ?_
  refine z_k (S_getf cx (T := F_St) (N := 4) (k := 2) rfl in_St (by decide) rfl w_79 (by decide +kernel)) ?_
  refine z_k (S_iload_n cx (k := 1) (by decide +kernel) rfl) ?_
  refine z_k (S_aald cx (by decide +kernel)) ?_
  refine z_k (S_goto cx (off := 4) (by decide +kernel) (by decide)) ?_
  refine z_k (S_null cx (by decide +kernel)) ?_
  refine z_k (S_aret (hf.2.2.2 _ rfl) (by decide +kernel)) ?_
  exact z_k0
theorem s_St_sessionAt : z_snd zTab r_St_sessionAt := ⟨by decide +kernel, w_240, fun g d p l e R s m args below meth c Q P cx hn hf => z_k (s_St_sessionAt_0 cx hn hf) (z_k0)⟩
set_option maxRecDepth 100000 in
set_option maxHeartbeats 4000000 in
theorem s_St_makeChanged_0 (cx : z_cx zTab g d p l e R s m args below meth c prog_1_method_23_code "SealedTalks" 5) (hn : meth.name = "makeChanged") (hf : z_fin g p l e R s m args below meth c Q prog_1_method_23_code P (some .int)) : ∀ x ∈ k_St_makeChanged_0, z_sn zTab g d p l e R s m args below meth c Q 5 P x := by
  unfold k_St_makeChanged_0
  refine z_k (S_push cx (n := 0) (by decide +kernel) (by decide)) ?_
  refine z_k (S_istore cx (by decide) (by decide +kernel)) ?_
  refine z_k (S_iload cx (by decide +kernel)) ?_
  refine z_k (S_aload_n cx (k := 0) (by decide +kernel) rfl) ?_
  refine z_k (S_getf cx (T := F_St) (N := 4) (k := 1) rfl in_St (by decide) rfl w_78 (by decide +kernel)) ?_
  refine z_k (S_iload_n cx (k := 1) (by decide +kernel) rfl) ?_
  refine z_k (S_callV cx (T := F_Me) (N := 3) (r := r_Me_sizeOf) rfl ⟨w_358, w_3, by decide, by decide +kernel⟩ w_443 w_356 w_357 rfl (by decide +kernel)) ?_
  refine z_k (S_icmp_ge cx (off := 36) (by decide +kernel) (by decide)) ?_
  refine z_k (S_aload_n cx (k := 0) (by decide +kernel) rfl) ?_
  refine z_k (S_getf cx (T := F_St) (N := 4) (k := 1) rfl in_St (by decide) rfl w_78 (by decide +kernel)) ?_
  refine z_k (S_iload cx (by decide +kernel)) ?_
  refine z_k (S_iload_n cx (k := 2) (by decide +kernel) rfl) ?_
  refine z_k (S_icmp_ne cx (off := 7) (by decide +kernel) (by decide)) ?_
  refine z_k (S_iload_n cx (k := 3) (by decide +kernel) rfl) ?_
  refine z_k (S_goto cx (off := 13) (by decide +kernel) (by decide)) ?_
  refine z_k (S_aload_n cx (k := 0) (by decide +kernel) rfl) ?_
  refine z_k (S_getf cx (T := F_St) (N := 4) (k := 1) rfl in_St (by decide) rfl w_78 (by decide +kernel)) ?_
  refine z_k (S_iload_n cx (k := 1) (by decide +kernel) rfl) ?_
  refine z_k (S_iload cx (by decide +kernel)) ?_
  refine z_k (S_callV cx (T := F_Me) (N := 3) (r := r_Me_partAt) rfl ⟨w_354, w_3, by decide, by decide +kernel⟩ w_438 w_352 w_353 rfl (by decide +kernel)) ?_
  refine z_k (S_callV cx (T := F_Me) (N := 3) (r := r_Me_addPart) rfl ⟨w_278, w_3, by decide, by decide +kernel⟩ w_444 w_276 w_277 rfl (by decide +kernel)) ?_
  refine z_k (S_iinc cx (n := 1) (by decide) (by decide +kernel) (by decide)) ?_
  refine z_k (S_goto cx (off := -43) (by decide +kernel) (by decide)) ?_
  refine z_k (S_aload_n cx (k := 0) (by decide +kernel) rfl) ?_
  exact z_k0
set_option maxRecDepth 100000 in
set_option maxHeartbeats 4000000 in
theorem s_St_makeChanged_1 (cx : z_cx zTab g d p l e R s m args below meth c prog_1_method_23_code "SealedTalks" 5) (hn : meth.name = "makeChanged") (hf : z_fin g p l e R s m args below meth c Q prog_1_method_23_code P (some .int)) : ∀ x ∈ k_St_makeChanged_1, z_sn zTab g d p l e R s m args below meth c Q 5 P x := by
  unfold k_St_makeChanged_1
  refine z_k (S_getf cx (T := F_St) (N := 4) (k := 1) rfl in_St (by decide) rfl w_78 (by decide +kernel)) ?_
  refine z_k (S_callV cx (T := F_Me) (N := 3) (r := r_Me_finish) rfl ⟨w_326, w_3, by decide, by decide +kernel⟩ w_323 w_324 w_325 rfl (by decide +kernel)) ?_
  refine z_k (S_iret (hf.2.1 rfl) (by decide +kernel)) ?_
  exact z_k0
theorem s_St_makeChanged : z_snd zTab r_St_makeChanged := ⟨by decide +kernel, w_442, fun g d p l e R s m args below meth c Q P cx hn hf => z_k (s_St_makeChanged_0 cx hn hf) (z_k (s_St_makeChanged_1 cx hn hf) (z_k0))⟩
end ZR30
end
section
/-! Each method of SealedTalksModel is sound (0). By program. -/
section ZR40
variable {g : zG} {d : Nat} {p : Program} {l : Launch} {e : Env} {R : Room} {s : State} {m : MethodId} {args : Array Value} {below : List Frame} {meth : Method} {c : Code} {Q : State → Prop} {P : zP}
set_option maxRecDepth 100000 in
set_option maxHeartbeats 4000000 in
theorem s_Mo_init_0 (cx : z_cx zTab g d p l e R s m args below meth c prog_8_method_1_code "SealedTalksModel" 1) (hn : meth.name = "<init>") (hf : z_fin g p l e R s m args below meth c Q prog_8_method_1_code P none) : ∀ x ∈ k_Mo_init_0, z_sn zTab g d p l e R s m args below meth c Q 1 P x := by
  unfold k_Mo_init_0
  refine z_k (S_aload_n cx (k := 0) (by decide +kernel) rfl) ?_
  refine z_k (S_oini cx w_527 w_15 w_16 (by decide +kernel)) ?_
  refine z_k (S_aload_n cx (k := 0) (by decide +kernel) rfl) ?_
  refine z_k (S_sipush cx (n := 1200) (by decide +kernel) (by decide)) ?_
  refine z_k (S_newa cx (kd := 2) (at0 := .byte) (ty := .byte) rfl rfl w_658 (by decide) rfl (fun _ _ h => h) (by decide +kernel)) ?_
  refine z_k (S_putf cx (T := F_Mo) (N := 43) (k := 1) (ty := t_Mo) rfl in_Mo t_Mo_ok n_Mo (by decide) rfl w_529 rfl (Or.inr (Or.inr ⟨rfl, Or.inr ⟨_, rfl⟩⟩)) (by decide +kernel)) ?_
  refine z_k (S_aload_n cx (k := 0) (by decide +kernel) rfl) ?_
  refine z_k (S_sipush cx (n := 1200) (by decide +kernel) (by decide)) ?_
  refine z_k (S_newa cx (kd := 0) (at0 := .int) (ty := .int) rfl rfl w_57 (by decide) rfl (fun _ _ h => h) (by decide +kernel)) ?_
  refine z_k (S_putf cx (T := F_Mo) (N := 43) (k := 2) (ty := t_Mo) rfl in_Mo t_Mo_ok n_Mo (by decide) rfl w_530 rfl (Or.inr (Or.inr ⟨rfl, Or.inr ⟨_, rfl⟩⟩)) (by decide +kernel)) ?_
  refine z_k (S_aload_n cx (k := 0) (by decide +kernel) rfl) ?_
  refine z_k (S_sipush cx (n := 1200) (by decide +kernel) (by decide)) ?_
  refine z_k (S_newa cx (kd := 3) (at0 := .short) (ty := .short) rfl rfl w_659 (by decide) rfl (fun _ _ h => h) (by decide +kernel)) ?_
  refine z_k (S_putf cx (T := F_Mo) (N := 43) (k := 3) (ty := t_Mo) rfl in_Mo t_Mo_ok n_Mo (by decide) rfl w_531 rfl (Or.inr (Or.inr ⟨rfl, Or.inr ⟨_, rfl⟩⟩)) (by decide +kernel)) ?_
  refine z_k (S_aload_n cx (k := 0) (by decide +kernel) rfl) ?_
  refine z_k (S_sipush cx (n := 1200) (by decide +kernel) (by decide)) ?_
  refine z_k (S_newa cx (kd := 3) (at0 := .short) (ty := .short) rfl rfl w_659 (by decide) rfl (fun _ _ h => h) (by decide +kernel)) ?_
  refine z_k (S_putf cx (T := F_Mo) (N := 43) (k := 4) (ty := t_Mo) rfl in_Mo t_Mo_ok n_Mo (by decide) rfl w_532 rfl (Or.inr (Or.inr ⟨rfl, Or.inr ⟨_, rfl⟩⟩)) (by decide +kernel)) ?_
  refine z_k (S_aload_n cx (k := 0) (by decide +kernel) rfl) ?_
  refine z_k (S_sipush cx (n := 1200) (by decide +kernel) (by decide)) ?_
  refine z_k (S_newa cx (kd := 3) (at0 := .short) (ty := .short) rfl rfl w_659 (by decide) rfl (fun _ _ h => h) (by decide +kernel)) ?_
  refine z_k (S_putf cx (T := F_Mo) (N := 43) (k := 5) (ty := t_Mo) rfl in_Mo t_Mo_ok n_Mo (by decide) rfl w_533 rfl (Or.inr (Or.inr ⟨rfl, Or.inr ⟨_, rfl⟩⟩)) (by decide +kernel)) ?_
  refine z_k (S_aload_n cx (k := 0) (by decide +kernel) rfl) ?_
  refine z_k (S_sipush cx (n := 1200) (by decide +kernel) (by decide)) ?_
  exact z_k0
set_option maxRecDepth 100000 in
set_option maxHeartbeats 4000000 in
theorem s_Mo_init_1 (cx : z_cx zTab g d p l e R s m args below meth c prog_8_method_1_code "SealedTalksModel" 1) (hn : meth.name = "<init>") (hf : z_fin g p l e R s m args below meth c Q prog_8_method_1_code P none) : ∀ x ∈ k_Mo_init_1, z_sn zTab g d p l e R s m args below meth c Q 1 P x := by
  unfold k_Mo_init_1
  refine z_k (S_newa cx (kd := 1) (at0 := .boolean) (ty := .boolean) rfl rfl w_58 (by decide) rfl (fun _ _ h => h) (by decide +kernel)) ?_
  refine z_k (S_putf cx (T := F_Mo) (N := 43) (k := 6) (ty := t_Mo) rfl in_Mo t_Mo_ok n_Mo (by decide) rfl w_534 rfl (Or.inr (Or.inr ⟨rfl, Or.inr ⟨_, rfl⟩⟩)) (by decide +kernel)) ?_
  refine z_k (S_aload_n cx (k := 0) (by decide +kernel) rfl) ?_
  refine z_k (S_bipush cx (n := 60) (by decide +kernel) (by decide)) ?_
  refine z_k (S_newa cx (kd := 0) (at0 := .int) (ty := .int) rfl rfl w_57 (by decide) rfl (fun _ _ h => h) (by decide +kernel)) ?_
  refine z_k (S_putf cx (T := F_Mo) (N := 43) (k := 8) (ty := t_Mo) rfl in_Mo t_Mo_ok n_Mo (by decide) rfl w_536 rfl (Or.inr (Or.inr ⟨rfl, Or.inr ⟨_, rfl⟩⟩)) (by decide +kernel)) ?_
  refine z_k (S_aload_n cx (k := 0) (by decide +kernel) rfl) ?_
  refine z_k (S_sipush cx (n := 180) (by decide +kernel) (by decide)) ?_
  refine z_k (S_newa cx (kd := 0) (at0 := .int) (ty := .int) rfl rfl w_57 (by decide) rfl (fun _ _ h => h) (by decide +kernel)) ?_
  refine z_k (S_putf cx (T := F_Mo) (N := 43) (k := 9) (ty := t_Mo) rfl in_Mo t_Mo_ok n_Mo (by decide) rfl w_537 rfl (Or.inr (Or.inr ⟨rfl, Or.inr ⟨_, rfl⟩⟩)) (by decide +kernel)) ?_
  refine z_k (S_aload_n cx (k := 0) (by decide +kernel) rfl) ?_
  refine z_k (S_bipush cx (n := 40) (by decide +kernel) (by decide)) ?_
  refine z_k (S_newa cx (kd := 1) (at0 := .boolean) (ty := .boolean) rfl rfl w_58 (by decide) rfl (fun _ _ h => h) (by decide +kernel)) ?_
  refine z_k (S_putf cx (T := F_Mo) (N := 43) (k := 11) (ty := t_Mo) rfl in_Mo t_Mo_ok n_Mo (by decide) rfl w_539 rfl (Or.inr (Or.inr ⟨rfl, Or.inr ⟨_, rfl⟩⟩)) (by decide +kernel)) ?_
  refine z_k (S_aload_n cx (k := 0) (by decide +kernel) rfl) ?_
  refine z_k (S_bipush cx (n := 12) (by decide +kernel) (by decide)) ?_
  refine z_k (S_newa cx (kd := 0) (at0 := .int) (ty := .int) rfl rfl w_57 (by decide) rfl (fun _ _ h => h) (by decide +kernel)) ?_
  refine z_k (S_putf cx (T := F_Mo) (N := 43) (k := 13) (ty := t_Mo) rfl in_Mo t_Mo_ok n_Mo (by decide) rfl w_541 rfl (Or.inr (Or.inr ⟨rfl, Or.inr ⟨_, rfl⟩⟩)) (by decide +kernel)) ?_
  refine z_k (S_aload_n cx (k := 0) (by decide +kernel) rfl) ?_
  refine z_k (S_bipush cx (n := 12) (by decide +kernel) (by decide)) ?_
  refine z_k (S_newa cx (kd := 1) (at0 := .boolean) (ty := .boolean) rfl rfl w_58 (by decide) rfl (fun _ _ h => h) (by decide +kernel)) ?_
  refine z_k (S_putf cx (T := F_Mo) (N := 43) (k := 14) (ty := t_Mo) rfl in_Mo t_Mo_ok n_Mo (by decide) rfl w_542 rfl (Or.inr (Or.inr ⟨rfl, Or.inr ⟨_, rfl⟩⟩)) (by decide +kernel)) ?_
  refine z_k (S_aload_n cx (k := 0) (by decide +kernel) rfl) ?_
  refine z_k (S_bipush cx (n := 12) (by decide +kernel) (by decide)) ?_
  exact z_k0
set_option maxRecDepth 100000 in
set_option maxHeartbeats 4000000 in
theorem s_Mo_init_2 (cx : z_cx zTab g d p l e R s m args below meth c prog_8_method_1_code "SealedTalksModel" 1) (hn : meth.name = "<init>") (hf : z_fin g p l e R s m args below meth c Q prog_8_method_1_code P none) : ∀ x ∈ k_Mo_init_2, z_sn zTab g d p l e R s m args below meth c Q 1 P x := by
  unfold k_Mo_init_2
  refine z_k (S_newa cx (kd := 0) (at0 := .int) (ty := .int) rfl rfl w_57 (by decide) rfl (fun _ _ h => h) (by decide +kernel)) ?_
  refine z_k (S_putf cx (T := F_Mo) (N := 43) (k := 15) (ty := t_Mo) rfl in_Mo t_Mo_ok n_Mo (by decide) rfl w_543 rfl (Or.inr (Or.inr ⟨rfl, Or.inr ⟨_, rfl⟩⟩)) (by decide +kernel)) ?_
  refine z_k (S_aload_n cx (k := 0) (by decide +kernel) rfl) ?_
  refine z_k (S_bipush cx (n := 12) (by decide +kernel) (by decide)) ?_
  refine z_k (S_newa cx (kd := 0) (at0 := .int) (ty := .int) rfl rfl w_57 (by decide) rfl (fun _ _ h => h) (by decide +kernel)) ?_
  refine z_k (S_putf cx (T := F_Mo) (N := 43) (k := 16) (ty := t_Mo) rfl in_Mo t_Mo_ok n_Mo (by decide) rfl w_544 rfl (Or.inr (Or.inr ⟨rfl, Or.inr ⟨_, rfl⟩⟩)) (by decide +kernel)) ?_
  refine z_k (S_aload_n cx (k := 0) (by decide +kernel) rfl) ?_
  refine z_k (S_bipush cx (n := 12) (by decide +kernel) (by decide)) ?_
  refine z_k (S_newa cx (kd := 0) (at0 := .int) (ty := .int) rfl rfl w_57 (by decide) rfl (fun _ _ h => h) (by decide +kernel)) ?_
  refine z_k (S_putf cx (T := F_Mo) (N := 43) (k := 17) (ty := t_Mo) rfl in_Mo t_Mo_ok n_Mo (by decide) rfl w_545 rfl (Or.inr (Or.inr ⟨rfl, Or.inr ⟨_, rfl⟩⟩)) (by decide +kernel)) ?_
  refine z_k (S_aload_n cx (k := 0) (by decide +kernel) rfl) ?_
  refine z_k (S_bipush cx (n := 12) (by decide +kernel) (by decide)) ?_
  refine z_k (S_newa cx (kd := 0) (at0 := .int) (ty := .int) rfl rfl w_57 (by decide) rfl (fun _ _ h => h) (by decide +kernel)) ?_
  refine z_k (S_putf cx (T := F_Mo) (N := 43) (k := 18) (ty := t_Mo) rfl in_Mo t_Mo_ok n_Mo (by decide) rfl w_546 rfl (Or.inr (Or.inr ⟨rfl, Or.inr ⟨_, rfl⟩⟩)) (by decide +kernel)) ?_
  refine z_k (S_aload_n cx (k := 0) (by decide +kernel) rfl) ?_
  refine z_k (S_bipush cx (n := 12) (by decide +kernel) (by decide)) ?_
  refine z_k (S_newa cx (kd := 0) (at0 := .int) (ty := .int) rfl rfl w_57 (by decide) rfl (fun _ _ h => h) (by decide +kernel)) ?_
  refine z_k (S_putf cx (T := F_Mo) (N := 43) (k := 19) (ty := t_Mo) rfl in_Mo t_Mo_ok n_Mo (by decide) rfl w_547 rfl (Or.inr (Or.inr ⟨rfl, Or.inr ⟨_, rfl⟩⟩)) (by decide +kernel)) ?_
  refine z_k (S_aload_n cx (k := 0) (by decide +kernel) rfl) ?_
  refine z_k (S_bipush cx (n := 12) (by decide +kernel) (by decide)) ?_
  refine z_k (S_newa cx (kd := 0) (at0 := .int) (ty := .int) rfl rfl w_57 (by decide) rfl (fun _ _ h => h) (by decide +kernel)) ?_
  refine z_k (S_putf cx (T := F_Mo) (N := 43) (k := 20) (ty := t_Mo) rfl in_Mo t_Mo_ok n_Mo (by decide) rfl w_548 rfl (Or.inr (Or.inr ⟨rfl, Or.inr ⟨_, rfl⟩⟩)) (by decide +kernel)) ?_
  refine z_k (S_aload_n cx (k := 0) (by decide +kernel) rfl) ?_
  refine z_k (S_bipush cx (n := 12) (by decide +kernel) (by decide)) ?_
  exact z_k0
set_option maxRecDepth 100000 in
set_option maxHeartbeats 4000000 in
theorem s_Mo_init_3 (cx : z_cx zTab g d p l e R s m args below meth c prog_8_method_1_code "SealedTalksModel" 1) (hn : meth.name = "<init>") (hf : z_fin g p l e R s m args below meth c Q prog_8_method_1_code P none) : ∀ x ∈ k_Mo_init_3, z_sn zTab g d p l e R s m args below meth c Q 1 P x := by
  unfold k_Mo_init_3
  refine z_k (S_newa cx (kd := 0) (at0 := .int) (ty := .int) rfl rfl w_57 (by decide) rfl (fun _ _ h => h) (by decide +kernel)) ?_
  refine z_k (S_putf cx (T := F_Mo) (N := 43) (k := 21) (ty := t_Mo) rfl in_Mo t_Mo_ok n_Mo (by decide) rfl w_549 rfl (Or.inr (Or.inr ⟨rfl, Or.inr ⟨_, rfl⟩⟩)) (by decide +kernel)) ?_
  refine z_k (S_aload_n cx (k := 0) (by decide +kernel) rfl) ?_
  refine z_k (S_bipush cx (n := 12) (by decide +kernel) (by decide)) ?_
  refine z_k (S_newa cx (kd := 0) (at0 := .int) (ty := .int) rfl rfl w_57 (by decide) rfl (fun _ _ h => h) (by decide +kernel)) ?_
  refine z_k (S_putf cx (T := F_Mo) (N := 43) (k := 22) (ty := t_Mo) rfl in_Mo t_Mo_ok n_Mo (by decide) rfl w_550 rfl (Or.inr (Or.inr ⟨rfl, Or.inr ⟨_, rfl⟩⟩)) (by decide +kernel)) ?_
  refine z_k (S_aload_n cx (k := 0) (by decide +kernel) rfl) ?_
  refine z_k (S_bipush cx (n := 12) (by decide +kernel) (by decide)) ?_
  refine z_k (S_newa cx (kd := 0) (at0 := .int) (ty := .int) rfl rfl w_57 (by decide) rfl (fun _ _ h => h) (by decide +kernel)) ?_
  refine z_k (S_putf cx (T := F_Mo) (N := 43) (k := 23) (ty := t_Mo) rfl in_Mo t_Mo_ok n_Mo (by decide) rfl w_551 rfl (Or.inr (Or.inr ⟨rfl, Or.inr ⟨_, rfl⟩⟩)) (by decide +kernel)) ?_
  refine z_k (S_aload_n cx (k := 0) (by decide +kernel) rfl) ?_
  refine z_k (S_bipush cx (n := 12) (by decide +kernel) (by decide)) ?_
  refine z_k (S_newa cx (kd := 1) (at0 := .boolean) (ty := .boolean) rfl rfl w_58 (by decide) rfl (fun _ _ h => h) (by decide +kernel)) ?_
  refine z_k (S_putf cx (T := F_Mo) (N := 43) (k := 24) (ty := t_Mo) rfl in_Mo t_Mo_ok n_Mo (by decide) rfl w_552 rfl (Or.inr (Or.inr ⟨rfl, Or.inr ⟨_, rfl⟩⟩)) (by decide +kernel)) ?_
  refine z_k (S_aload_n cx (k := 0) (by decide +kernel) rfl) ?_
  refine z_k (S_bipush cx (n := 12) (by decide +kernel) (by decide)) ?_
  refine z_k (S_newa cx (kd := 0) (at0 := .int) (ty := .int) rfl rfl w_57 (by decide) rfl (fun _ _ h => h) (by decide +kernel)) ?_
  refine z_k (S_putf cx (T := F_Mo) (N := 43) (k := 25) (ty := t_Mo) rfl in_Mo t_Mo_ok n_Mo (by decide) rfl w_553 rfl (Or.inr (Or.inr ⟨rfl, Or.inr ⟨_, rfl⟩⟩)) (by decide +kernel)) ?_
  refine z_k (S_aload_n cx (k := 0) (by decide +kernel) rfl) ?_
  refine z_k (S_bipush cx (n := 12) (by decide +kernel) (by decide)) ?_
  refine z_k (S_newa cx (kd := 0) (at0 := .int) (ty := .int) rfl rfl w_57 (by decide) rfl (fun _ _ h => h) (by decide +kernel)) ?_
  refine z_k (S_putf cx (T := F_Mo) (N := 43) (k := 26) (ty := t_Mo) rfl in_Mo t_Mo_ok n_Mo (by decide) rfl w_554 rfl (Or.inr (Or.inr ⟨rfl, Or.inr ⟨_, rfl⟩⟩)) (by decide +kernel)) ?_
  refine z_k (S_aload_n cx (k := 0) (by decide +kernel) rfl) ?_
  refine z_k (S_bipush cx (n := 12) (by decide +kernel) (by decide)) ?_
  exact z_k0
set_option maxRecDepth 100000 in
set_option maxHeartbeats 4000000 in
theorem s_Mo_init_4 (cx : z_cx zTab g d p l e R s m args below meth c prog_8_method_1_code "SealedTalksModel" 1) (hn : meth.name = "<init>") (hf : z_fin g p l e R s m args below meth c Q prog_8_method_1_code P none) : ∀ x ∈ k_Mo_init_4, z_sn zTab g d p l e R s m args below meth c Q 1 P x := by
  unfold k_Mo_init_4
  refine z_k (S_newa cx (kd := 0) (at0 := .int) (ty := .int) rfl rfl w_57 (by decide) rfl (fun _ _ h => h) (by decide +kernel)) ?_
  refine z_k (S_putf cx (T := F_Mo) (N := 43) (k := 27) (ty := t_Mo) rfl in_Mo t_Mo_ok n_Mo (by decide) rfl w_555 rfl (Or.inr (Or.inr ⟨rfl, Or.inr ⟨_, rfl⟩⟩)) (by decide +kernel)) ?_
  refine z_k (S_aload_n cx (k := 0) (by decide +kernel) rfl) ?_
  refine z_k (S_bipush cx (n := 12) (by decide +kernel) (by decide)) ?_
  refine z_k (S_newa cx (kd := 0) (at0 := .int) (ty := .int) rfl rfl w_57 (by decide) rfl (fun _ _ h => h) (by decide +kernel)) ?_
  refine z_k (S_putf cx (T := F_Mo) (N := 43) (k := 28) (ty := t_Mo) rfl in_Mo t_Mo_ok n_Mo (by decide) rfl w_556 rfl (Or.inr (Or.inr ⟨rfl, Or.inr ⟨_, rfl⟩⟩)) (by decide +kernel)) ?_
  refine z_k (S_aload_n cx (k := 0) (by decide +kernel) rfl) ?_
  refine z_k (S_bipush cx (n := 12) (by decide +kernel) (by decide)) ?_
  refine z_k (S_newa cx (kd := 0) (at0 := .int) (ty := .int) rfl rfl w_57 (by decide) rfl (fun _ _ h => h) (by decide +kernel)) ?_
  refine z_k (S_putf cx (T := F_Mo) (N := 43) (k := 29) (ty := t_Mo) rfl in_Mo t_Mo_ok n_Mo (by decide) rfl w_557 rfl (Or.inr (Or.inr ⟨rfl, Or.inr ⟨_, rfl⟩⟩)) (by decide +kernel)) ?_
  refine z_k (S_aload_n cx (k := 0) (by decide +kernel) rfl) ?_
  refine z_k (S_bipush cx (n := 12) (by decide +kernel) (by decide)) ?_
  refine z_k (S_newa cx (kd := 0) (at0 := .int) (ty := .int) rfl rfl w_57 (by decide) rfl (fun _ _ h => h) (by decide +kernel)) ?_
  refine z_k (S_putf cx (T := F_Mo) (N := 43) (k := 30) (ty := t_Mo) rfl in_Mo t_Mo_ok n_Mo (by decide) rfl w_558 rfl (Or.inr (Or.inr ⟨rfl, Or.inr ⟨_, rfl⟩⟩)) (by decide +kernel)) ?_
  refine z_k (S_aload_n cx (k := 0) (by decide +kernel) rfl) ?_
  refine z_k (S_push cx (n := 3) (by decide +kernel) (by decide)) ?_
  refine z_k (S_newa cx (kd := 0) (at0 := .int) (ty := .int) rfl rfl w_57 (by decide) rfl (fun _ _ h => h) (by decide +kernel)) ?_
  refine z_k (S_putf cx (T := F_Mo) (N := 43) (k := 40) (ty := t_Mo) rfl in_Mo t_Mo_ok n_Mo (by decide) rfl w_568 rfl (Or.inr (Or.inr ⟨rfl, Or.inr ⟨_, rfl⟩⟩)) (by decide +kernel)) ?_
  refine z_k (S_vret (hf.1 rfl) (by decide +kernel)) ?_
  exact z_k0
theorem s_Mo_init : z_snd zTab r_Mo_init := ⟨by decide +kernel, w_526, fun g d p l e R s m args below meth c Q P cx hn hf => z_k (s_Mo_init_0 cx hn hf) (z_k (s_Mo_init_1 cx hn hf) (z_k (s_Mo_init_2 cx hn hf) (z_k (s_Mo_init_3 cx hn hf) (z_k (s_Mo_init_4 cx hn hf) (z_k0)))))⟩
set_option maxRecDepth 100000 in
set_option maxHeartbeats 4000000 in
theorem s_Mo_within_0 (cx : z_cx zTab g d p l e R s m args below meth c prog_8_method_2_code "SealedTalksModel" 3) (hn : meth.name = "within") (hf : z_fin g p l e R s m args below meth c Q prog_8_method_2_code P (some .boolean)) : ∀ x ∈ k_Mo_within_0, z_sn zTab g d p l e R s m args below meth c Q 3 P x := by
  unfold k_Mo_within_0
  refine z_k (S_iload_n cx (k := 0) (by decide +kernel) rfl) ?_
  refine z_k (S_iload_n cx (k := 1) (by decide +kernel) rfl) ?_
  refine z_k (S_icmp_lt cx (off := 12) (by decide +kernel) (by decide)) ?_
  refine z_k (S_iload_n cx (k := 0) (by decide +kernel) rfl) ?_
  refine z_k (S_iload_n cx (k := 2) (by decide +kernel) rfl) ?_
  refine z_k (S_icmp_gt cx (off := 7) (by decide +kernel) (by decide)) ?_
  refine z_k (S_push cx (n := 1) (by decide +kernel) (by decide)) ?_
  refine z_k (S_goto cx (off := 4) (by decide +kernel) (by decide)) ?_
  refine z_k (S_push cx (n := 0) (by decide +kernel) (by decide)) ?_
  refine z_k (S_zret (hf.2.2.1 rfl) (by decide +kernel)) ?_
  exact z_k0
theorem s_Mo_within : z_snd zTab r_Mo_within := ⟨by decide +kernel, w_666, fun g d p l e R s m args below meth c Q P cx hn hf => z_k (s_Mo_within_0 cx hn hf) (z_k0)⟩
set_option maxRecDepth 100000 in
set_option maxHeartbeats 4000000 in
theorem s_Mo_term_0 (cx : z_cx zTab g d p l e R s m args below meth c prog_8_method_3_code "SealedTalksModel" 7) (hn : meth.name = "term") (hf : z_fin g p l e R s m args below meth c Q prog_8_method_3_code P (some .int)) : ∀ x ∈ k_Mo_term_0, z_sn zTab g d p l e R s m args below meth c Q 7 P x := by
  unfold k_Mo_term_0
  refine z_k (S_push cx (n := 0) (by decide +kernel) (by decide)) ?_
  refine z_k (S_istore cx (by decide) (by decide +kernel)) ?_
  refine z_k (S_iload cx (by decide +kernel)) ?_
  refine z_k (S_aload_n cx (k := 0) (by decide +kernel) rfl) ?_
  refine z_k (S_getf cx (T := F_Mo) (N := 43) (k := 0) rfl in_Mo (by decide) rfl w_528 (by decide +kernel)) ?_
  refine z_k (S_icmp_ge cx (off := 69) (by decide +kernel) (by decide)) ?_
  refine z_k (S_aload_n cx (k := 0) (by decide +kernel) rfl) ?_
  refine z_k (S_getf cx (T := F_Mo) (N := 43) (k := 1) rfl in_Mo (by decide) rfl w_529 (by decide +kernel)) ?_
  refine z_k (S_iload cx (by decide +kernel)) ?_
  refine z_k (S_bald cx (by decide +kernel)) ?_
  refine z_k (S_iload_n cx (k := 1) (by decide +kernel) rfl) ?_
  refine z_k (S_icmp_ne cx (off := 52) (by decide +kernel) (by decide)) ?_
  refine z_k (S_aload_n cx (k := 0) (by decide +kernel) rfl) ?_
  refine z_k (S_getf cx (T := F_Mo) (N := 43) (k := 2) rfl in_Mo (by decide) rfl w_530 (by decide +kernel)) ?_
  refine z_k (S_iload cx (by decide +kernel)) ?_
  refine z_k (S_iald cx (by decide +kernel)) ?_
  refine z_k (S_iload_n cx (k := 2) (by decide +kernel) rfl) ?_
  refine z_k (S_icmp_ne cx (off := 41) (by decide +kernel) (by decide)) ?_
  refine z_k (S_aload_n cx (k := 0) (by decide +kernel) rfl) ?_
  refine z_k (S_getf cx (T := F_Mo) (N := 43) (k := 3) rfl in_Mo (by decide) rfl w_531 (by decide +kernel)) ?_
  refine z_k (S_iload cx (by decide +kernel)) ?_
  refine z_k (S_sald cx (by decide +kernel)) ?_
  refine z_k (S_iload_n cx (k := 3) (by decide +kernel) rfl) ?_
  refine z_k (S_icmp_ne cx (off := 30) (by decide +kernel) (by decide)) ?_
  exact z_k0
set_option maxRecDepth 100000 in
set_option maxHeartbeats 4000000 in
theorem s_Mo_term_1 (cx : z_cx zTab g d p l e R s m args below meth c prog_8_method_3_code "SealedTalksModel" 7) (hn : meth.name = "term") (hf : z_fin g p l e R s m args below meth c Q prog_8_method_3_code P (some .int)) : ∀ x ∈ k_Mo_term_1, z_sn zTab g d p l e R s m args below meth c Q 7 P x := by
  unfold k_Mo_term_1
  refine z_k (S_aload_n cx (k := 0) (by decide +kernel) rfl) ?_
  refine z_k (S_getf cx (T := F_Mo) (N := 43) (k := 4) rfl in_Mo (by decide) rfl w_532 (by decide +kernel)) ?_
  refine z_k (S_iload cx (by decide +kernel)) ?_
  refine z_k (S_sald cx (by decide +kernel)) ?_
  refine z_k (S_iload cx (by decide +kernel)) ?_
  refine z_k (S_icmp_ne cx (off := 18) (by decide +kernel) (by decide)) ?_
  refine z_k (S_aload_n cx (k := 0) (by decide +kernel) rfl) ?_
  refine z_k (S_getf cx (T := F_Mo) (N := 43) (k := 5) rfl in_Mo (by decide) rfl w_533 (by decide +kernel)) ?_
  refine z_k (S_iload cx (by decide +kernel)) ?_
  refine z_k (S_sald cx (by decide +kernel)) ?_
  refine z_k (S_iload cx (by decide +kernel)) ?_
  refine z_k (S_icmp_ne cx (off := 6) (by decide +kernel) (by decide)) ?_
  refine z_k (S_iload cx (by decide +kernel)) ?_
  refine z_k (S_iret (hf.2.1 rfl) (by decide +kernel)) ?_
  refine z_k (S_iinc cx (n := 1) (by decide) (by decide +kernel) (by decide)) ?_
  refine z_k (S_goto cx (off := -72) (by decide +kernel) (by decide)) ?_
  refine z_k (S_aload_n cx (k := 0) (by decide +kernel) rfl) ?_
  refine z_k (S_getf cx (T := F_Mo) (N := 43) (k := 1) rfl in_Mo (by decide) rfl w_529 (by decide +kernel)) ?_
  refine z_k (S_aload_n cx (k := 0) (by decide +kernel) rfl) ?_
  refine z_k (S_getf cx (T := F_Mo) (N := 43) (k := 0) rfl in_Mo (by decide) rfl w_528 (by decide +kernel)) ?_
  refine z_k (S_iload_n cx (k := 1) (by decide +kernel) rfl) ?_
  refine z_k (S_i2b cx (by decide +kernel)) ?_
  refine z_k (S_bast cx (by decide +kernel)) ?_
  refine z_k (S_aload_n cx (k := 0) (by decide +kernel) rfl) ?_
  exact z_k0
set_option maxRecDepth 100000 in
set_option maxHeartbeats 4000000 in
theorem s_Mo_term_2 (cx : z_cx zTab g d p l e R s m args below meth c prog_8_method_3_code "SealedTalksModel" 7) (hn : meth.name = "term") (hf : z_fin g p l e R s m args below meth c Q prog_8_method_3_code P (some .int)) : ∀ x ∈ k_Mo_term_2, z_sn zTab g d p l e R s m args below meth c Q 7 P x := by
  unfold k_Mo_term_2
  refine z_k (S_getf cx (T := F_Mo) (N := 43) (k := 2) rfl in_Mo (by decide) rfl w_530 (by decide +kernel)) ?_
  refine z_k (S_aload_n cx (k := 0) (by decide +kernel) rfl) ?_
  refine z_k (S_getf cx (T := F_Mo) (N := 43) (k := 0) rfl in_Mo (by decide) rfl w_528 (by decide +kernel)) ?_
  refine z_k (S_iload_n cx (k := 2) (by decide +kernel) rfl) ?_
  refine z_k (S_iast cx (by decide +kernel)) ?_
  refine z_k (S_aload_n cx (k := 0) (by decide +kernel) rfl) ?_
  refine z_k (S_getf cx (T := F_Mo) (N := 43) (k := 3) rfl in_Mo (by decide) rfl w_531 (by decide +kernel)) ?_
  refine z_k (S_aload_n cx (k := 0) (by decide +kernel) rfl) ?_
  refine z_k (S_getf cx (T := F_Mo) (N := 43) (k := 0) rfl in_Mo (by decide) rfl w_528 (by decide +kernel)) ?_
  refine z_k (S_iload_n cx (k := 3) (by decide +kernel) rfl) ?_
  refine z_k (S_i2s cx (by decide +kernel)) ?_
  refine z_k (S_sast cx (by decide +kernel)) ?_
  refine z_k (S_aload_n cx (k := 0) (by decide +kernel) rfl) ?_
  refine z_k (S_getf cx (T := F_Mo) (N := 43) (k := 4) rfl in_Mo (by decide) rfl w_532 (by decide +kernel)) ?_
  refine z_k (S_aload_n cx (k := 0) (by decide +kernel) rfl) ?_
  refine z_k (S_getf cx (T := F_Mo) (N := 43) (k := 0) rfl in_Mo (by decide) rfl w_528 (by decide +kernel)) ?_
  refine z_k (S_iload cx (by decide +kernel)) ?_
  refine z_k (S_i2s cx (by decide +kernel)) ?_
  refine z_k (S_sast cx (by decide +kernel)) ?_
  refine z_k (S_aload_n cx (k := 0) (by decide +kernel) rfl) ?_
  refine z_k (S_getf cx (T := F_Mo) (N := 43) (k := 5) rfl in_Mo (by decide) rfl w_533 (by decide +kernel)) ?_
  refine z_k (S_aload_n cx (k := 0) (by decide +kernel) rfl) ?_
  refine z_k (S_getf cx (T := F_Mo) (N := 43) (k := 0) rfl in_Mo (by decide) rfl w_528 (by decide +kernel)) ?_
  refine z_k (S_iload cx (by decide +kernel)) ?_
  exact z_k0
set_option maxRecDepth 100000 in
set_option maxHeartbeats 4000000 in
theorem s_Mo_term_3 (cx : z_cx zTab g d p l e R s m args below meth c prog_8_method_3_code "SealedTalksModel" 7) (hn : meth.name = "term") (hf : z_fin g p l e R s m args below meth c Q prog_8_method_3_code P (some .int)) : ∀ x ∈ k_Mo_term_3, z_sn zTab g d p l e R s m args below meth c Q 7 P x := by
  unfold k_Mo_term_3
  refine z_k (S_i2s cx (by decide +kernel)) ?_
  refine z_k (S_sast cx (by decide +kernel)) ?_
  refine z_k (S_aload_n cx (k := 0) (by decide +kernel) rfl) ?_
  refine z_k (S_dup cx (by decide +kernel)) ?_
  refine z_k (S_getf cx (T := F_Mo) (N := 43) (k := 0) rfl in_Mo (by decide) rfl w_528 (by decide +kernel)) ?_
  refine z_k (S_push cx (n := 1) (by decide +kernel) (by decide)) ?_
  refine z_k (S_iadd cx (by decide +kernel)) ?_
  refine z_k (S_putf cx (T := F_Mo) (N := 43) (k := 0) (ty := t_Mo) rfl in_Mo t_Mo_ok n_Mo (by decide) rfl w_528 rfl (Or.inl ⟨rfl, rfl⟩) (by decide +kernel)) ?_
  refine z_k (S_aload_n cx (k := 0) (by decide +kernel) rfl) ?_
  refine z_k (S_getf cx (T := F_Mo) (N := 43) (k := 0) rfl in_Mo (by decide) rfl w_528 (by decide +kernel)) ?_
  refine z_k (S_push cx (n := 1) (by decide +kernel) (by decide)) ?_
  refine z_k (S_isub cx (by decide +kernel)) ?_
  refine z_k (S_iret (hf.2.1 rfl) (by decide +kernel)) ?_
  exact z_k0
theorem s_Mo_term : z_snd zTab r_Mo_term := ⟨by decide +kernel, w_674, fun g d p l e R s m args below meth c Q P cx hn hf => z_k (s_Mo_term_0 cx hn hf) (z_k (s_Mo_term_1 cx hn hf) (z_k (s_Mo_term_2 cx hn hf) (z_k (s_Mo_term_3 cx hn hf) (z_k0))))⟩
set_option maxRecDepth 100000 in
set_option maxHeartbeats 4000000 in
theorem s_Mo_num_0 (cx : z_cx zTab g d p l e R s m args below meth c prog_8_method_4_code "SealedTalksModel" 2) (hn : meth.name = "num") (hf : z_fin g p l e R s m args below meth c Q prog_8_method_4_code P (some .int)) : ∀ x ∈ k_Mo_num_0, z_sn zTab g d p l e R s m args below meth c Q 2 P x := by
  unfold k_Mo_num_0
  refine z_k (S_aload_n cx (k := 0) (by decide +kernel) rfl) ?_
  refine z_k (S_push cx (n := 1) (by decide +kernel) (by decide)) ?_
  refine z_k (S_iload_n cx (k := 1) (by decide +kernel) rfl) ?_
  refine z_k (S_push cx (n := 0) (by decide +kernel) (by decide)) ?_
  refine z_k (S_push cx (n := 0) (by decide +kernel) (by decide)) ?_
  refine z_k (S_push cx (n := 0) (by decide +kernel) (by decide)) ?_
  refine z_k (S_callV cx (T := F_Mo) (N := 43) (r := r_Mo_term) rfl ⟨w_674, w_4, by decide, by decide +kernel⟩ w_671 w_673 wp_14 rfl (by decide +kernel)) ?_
  refine z_k (S_iret (hf.2.1 rfl) (by decide +kernel)) ?_
  exact z_k0
theorem s_Mo_num : z_snd zTab r_Mo_num := ⟨by decide +kernel, w_670, fun g d p l e R s m args below meth c Q P cx hn hf => z_k (s_Mo_num_0 cx hn hf) (z_k0)⟩
set_option maxRecDepth 100000 in
set_option maxHeartbeats 4000000 in
theorem s_Mo_pub_0 (cx : z_cx zTab g d p l e R s m args below meth c prog_8_method_5_code "SealedTalksModel" 2) (hn : meth.name = "pub") (hf : z_fin g p l e R s m args below meth c Q prog_8_method_5_code P (some .int)) : ∀ x ∈ k_Mo_pub_0, z_sn zTab g d p l e R s m args below meth c Q 2 P x := by
  unfold k_Mo_pub_0
  refine z_k (S_aload_n cx (k := 0) (by decide +kernel) rfl) ?_
  refine z_k (S_push cx (n := 2) (by decide +kernel) (by decide)) ?_
  refine z_k (S_iload_n cx (k := 1) (by decide +kernel) rfl) ?_
  refine z_k (S_push cx (n := 0) (by decide +kernel) (by decide)) ?_
  refine z_k (S_push cx (n := 0) (by decide +kernel) (by decide)) ?_
  refine z_k (S_push cx (n := 0) (by decide +kernel) (by decide)) ?_
  refine z_k (S_callV cx (T := F_Mo) (N := 43) (r := r_Mo_term) rfl ⟨w_674, w_4, by decide, by decide +kernel⟩ w_671 w_673 wp_14 rfl (by decide +kernel)) ?_
  refine z_k (S_iret (hf.2.1 rfl) (by decide +kernel)) ?_
  exact z_k0
theorem s_Mo_pub : z_snd zTab r_Mo_pub := ⟨by decide +kernel, w_682, fun g d p l e R s m args below meth c Q P cx hn hf => z_k (s_Mo_pub_0 cx hn hf) (z_k0)⟩
set_option maxRecDepth 100000 in
set_option maxHeartbeats 4000000 in
theorem s_Mo_two_0 (cx : z_cx zTab g d p l e R s m args below meth c prog_8_method_6_code "SealedTalksModel" 4) (hn : meth.name = "two") (hf : z_fin g p l e R s m args below meth c Q prog_8_method_6_code P (some .int)) : ∀ x ∈ k_Mo_two_0, z_sn zTab g d p l e R s m args below meth c Q 4 P x := by
  unfold k_Mo_two_0
  refine z_k (S_aload_n cx (k := 0) (by decide +kernel) rfl) ?_
  refine z_k (S_iload_n cx (k := 1) (by decide +kernel) rfl) ?_
  refine z_k (S_push cx (n := 0) (by decide +kernel) (by decide)) ?_
  refine z_k (S_iload_n cx (k := 2) (by decide +kernel) rfl) ?_
  refine z_k (S_iload_n cx (k := 3) (by decide +kernel) rfl) ?_
  refine z_k (S_push cx (n := 0) (by decide +kernel) (by decide)) ?_
  refine z_k (S_callV cx (T := F_Mo) (N := 43) (r := r_Mo_term) rfl ⟨w_674, w_4, by decide, by decide +kernel⟩ w_671 w_673 wp_14 rfl (by decide +kernel)) ?_
  refine z_k (S_iret (hf.2.1 rfl) (by decide +kernel)) ?_
  exact z_k0
theorem s_Mo_two : z_snd zTab r_Mo_two := ⟨by decide +kernel, w_678, fun g d p l e R s m args below meth c Q P cx hn hf => z_k (s_Mo_two_0 cx hn hf) (z_k0)⟩
set_option maxRecDepth 100000 in
set_option maxHeartbeats 4000000 in
theorem s_Mo_workOut_0 (cx : z_cx zTab g d p l e R s m args below meth c prog_8_method_7_code "SealedTalksModel" 4) (hn : meth.name = "workOut") (hf : z_fin g p l e R s m args below meth c Q prog_8_method_7_code P none) : ∀ x ∈ k_Mo_workOut_0, z_sn zTab g d p l e R s m args below meth c Q 4 P x := by
  unfold k_Mo_workOut_0
  refine z_k (S_push cx (n := 0) (by decide +kernel) (by decide)) ?_
  refine z_k (S_istore_n cx (by decide) (k := 1) (by decide +kernel) rfl) ?_
  refine z_k (S_iload_n cx (k := 1) (by decide +kernel) rfl) ?_
  refine z_k (S_aload_n cx (k := 0) (by decide +kernel) rfl) ?_
  refine z_k (S_getf cx (T := F_Mo) (N := 43) (k := 0) rfl in_Mo (by decide) rfl w_528 (by decide +kernel)) ?_
  refine z_k (S_icmp_ge cx (off := 167) (by decide +kernel) (by decide)) ?_
  refine z_k (S_aload_n cx (k := 0) (by decide +kernel) rfl) ?_
  refine z_k (S_getf cx (T := F_Mo) (N := 43) (k := 3) rfl in_Mo (by decide) rfl w_531 (by decide +kernel)) ?_
  refine z_k (S_iload_n cx (k := 1) (by decide +kernel) rfl) ?_
  refine z_k (S_sald cx (by decide +kernel)) ?_
  refine z_k (S_istore_n cx (by decide) (k := 2) (by decide +kernel) rfl) ?_
  refine z_k (S_aload_n cx (k := 0) (by decide +kernel) rfl) ?_
  refine z_k (S_getf cx (T := F_Mo) (N := 43) (k := 4) rfl in_Mo (by decide) rfl w_532 (by decide +kernel)) ?_
  refine z_k (S_iload_n cx (k := 1) (by decide +kernel) rfl) ?_
  refine z_k (S_sald cx (by decide +kernel)) ?_
  refine z_k (S_istore_n cx (by decide) (k := 3) (by decide +kernel) rfl) ?_
  refine z_k (S_aload_n cx (k := 0) (by decide +kernel) rfl) ?_
  refine z_k (S_getf cx (T := F_Mo) (N := 43) (k := 1) rfl in_Mo (by decide) rfl w_529 (by decide +kernel)) ?_
  refine z_k (S_iload_n cx (k := 1) (by decide +kernel) rfl) ?_
  refine z_k (S_bald cx (by decide +kernel)) ?_
  refine z_k (S_tsw cx (df := 131) (lo := 3) (hi0 := 7) (offs := #[34, 84, 84, 84, 116]) (len := 34) (by decide +kernel) (by decide) (by decide) (by decide)) ?_
  refine z_k (S_aload_n cx (k := 0) (by decide +kernel) rfl) ?_
  refine z_k (S_getf cx (T := F_Mo) (N := 43) (k := 6) rfl in_Mo (by decide) rfl w_534 (by decide +kernel)) ?_
  refine z_k (S_iload_n cx (k := 1) (by decide +kernel) rfl) ?_
  exact z_k0
set_option maxRecDepth 100000 in
set_option maxHeartbeats 4000000 in
theorem s_Mo_workOut_1 (cx : z_cx zTab g d p l e R s m args below meth c prog_8_method_7_code "SealedTalksModel" 4) (hn : meth.name = "workOut") (hf : z_fin g p l e R s m args below meth c Q prog_8_method_7_code P none) : ∀ x ∈ k_Mo_workOut_1, z_sn zTab g d p l e R s m args below meth c Q 4 P x := by
  unfold k_Mo_workOut_1
  refine z_k (S_aload_n cx (k := 0) (by decide +kernel) rfl) ?_
  refine z_k (S_getf cx (T := F_Mo) (N := 43) (k := 11) rfl in_Mo (by decide) rfl w_539 (by decide +kernel)) ?_
  refine z_k (S_aload_n cx (k := 0) (by decide +kernel) rfl) ?_
  refine z_k (S_getf cx (T := F_Mo) (N := 43) (k := 2) rfl in_Mo (by decide) rfl w_530 (by decide +kernel)) ?_
  refine z_k (S_iload_n cx (k := 1) (by decide +kernel) rfl) ?_
  refine z_k (S_iald cx (by decide +kernel)) ?_
  refine z_k (S_sipush cx (n := 256) (by decide +kernel) (by decide)) ?_
  refine z_k (S_idiv cx (by decide +kernel)) ?_
  refine z_k (S_zald cx (by decide +kernel)) ?_
  refine z_k (S_if_ne cx (off := 21) (by decide +kernel) (by decide)) ?_
  refine z_k (S_aload_n cx (k := 0) (by decide +kernel) rfl) ?_
  refine z_k (S_getf cx (T := F_Mo) (N := 43) (k := 11) rfl in_Mo (by decide) rfl w_539 (by decide +kernel)) ?_
  refine z_k (S_aload_n cx (k := 0) (by decide +kernel) rfl) ?_
  refine z_k (S_getf cx (T := F_Mo) (N := 43) (k := 2) rfl in_Mo (by decide) rfl w_530 (by decide +kernel)) ?_
  refine z_k (S_iload_n cx (k := 1) (by decide +kernel) rfl) ?_
  refine z_k (S_iald cx (by decide +kernel)) ?_
  refine z_k (S_sipush cx (n := 256) (by decide +kernel) (by decide)) ?_
  refine z_k (S_irem cx (by decide +kernel)) ?_
  refine z_k (S_zald cx (by decide +kernel)) ?_
  refine z_k (S_if_eq cx (off := 7) (by decide +kernel) (by decide)) ?_
  refine z_k (S_push cx (n := 1) (by decide +kernel) (by decide)) ?_
  refine z_k (S_goto cx (off := 4) (by decide +kernel) (by decide)) ?_
  refine z_k (S_push cx (n := 0) (by decide +kernel) (by decide)) ?_
  refine z_k (S_zast cx (by decide +kernel)) ?_
  exact z_k0
set_option maxRecDepth 100000 in
set_option maxHeartbeats 4000000 in
theorem s_Mo_workOut_2 (cx : z_cx zTab g d p l e R s m args below meth c prog_8_method_7_code "SealedTalksModel" 4) (hn : meth.name = "workOut") (hf : z_fin g p l e R s m args below meth c Q prog_8_method_7_code P none) : ∀ x ∈ k_Mo_workOut_2, z_sn zTab g d p l e R s m args below meth c Q 4 P x := by
  unfold k_Mo_workOut_2
  refine z_k (S_goto cx (off := 57) (by decide +kernel) (by decide)) ?_
  refine z_k (S_aload_n cx (k := 0) (by decide +kernel) rfl) ?_
  refine z_k (S_getf cx (T := F_Mo) (N := 43) (k := 6) rfl in_Mo (by decide) rfl w_534 (by decide +kernel)) ?_
  refine z_k (S_iload_n cx (k := 1) (by decide +kernel) rfl) ?_
  refine z_k (S_aload_n cx (k := 0) (by decide +kernel) rfl) ?_
  refine z_k (S_getf cx (T := F_Mo) (N := 43) (k := 6) rfl in_Mo (by decide) rfl w_534 (by decide +kernel)) ?_
  refine z_k (S_iload_n cx (k := 2) (by decide +kernel) rfl) ?_
  refine z_k (S_zald cx (by decide +kernel)) ?_
  refine z_k (S_if_eq cx (off := 16) (by decide +kernel) (by decide)) ?_
  refine z_k (S_aload_n cx (k := 0) (by decide +kernel) rfl) ?_
  refine z_k (S_getf cx (T := F_Mo) (N := 43) (k := 6) rfl in_Mo (by decide) rfl w_534 (by decide +kernel)) ?_
  refine z_k (S_iload_n cx (k := 3) (by decide +kernel) rfl) ?_
  refine z_k (S_zald cx (by decide +kernel)) ?_
  refine z_k (S_if_eq cx (off := 7) (by decide +kernel) (by decide)) ?_
  refine z_k (S_push cx (n := 1) (by decide +kernel) (by decide)) ?_
  refine z_k (S_goto cx (off := 4) (by decide +kernel) (by decide)) ?_
  refine z_k (S_push cx (n := 0) (by decide +kernel) (by decide)) ?_
  refine z_k (S_zast cx (by decide +kernel)) ?_
  refine z_k (S_goto cx (off := 25) (by decide +kernel) (by decide)) ?_
  refine z_k (S_aload_n cx (k := 0) (by decide +kernel) rfl) ?_
  refine z_k (S_getf cx (T := F_Mo) (N := 43) (k := 6) rfl in_Mo (by decide) rfl w_534 (by decide +kernel)) ?_
  refine z_k (S_iload_n cx (k := 1) (by decide +kernel) rfl) ?_
  refine z_k (S_aload_n cx (k := 0) (by decide +kernel) rfl) ?_
  refine z_k (S_getf cx (T := F_Mo) (N := 43) (k := 6) rfl in_Mo (by decide) rfl w_534 (by decide +kernel)) ?_
  exact z_k0
set_option maxRecDepth 100000 in
set_option maxHeartbeats 4000000 in
theorem s_Mo_workOut_3 (cx : z_cx zTab g d p l e R s m args below meth c prog_8_method_7_code "SealedTalksModel" 4) (hn : meth.name = "workOut") (hf : z_fin g p l e R s m args below meth c Q prog_8_method_7_code P none) : ∀ x ∈ k_Mo_workOut_3, z_sn zTab g d p l e R s m args below meth c Q 4 P x := by
  unfold k_Mo_workOut_3
  refine z_k (S_iload_n cx (k := 2) (by decide +kernel) rfl) ?_
  refine z_k (S_zald cx (by decide +kernel)) ?_
  refine z_k (S_zast cx (by decide +kernel)) ?_
  refine z_k (S_goto cx (off := 10) (by decide +kernel) (by decide)) ?_
  refine z_k (S_aload_n cx (k := 0) (by decide +kernel) rfl) ?_
  refine z_k (S_getf cx (T := F_Mo) (N := 43) (k := 6) rfl in_Mo (by decide) rfl w_534 (by decide +kernel)) ?_
  refine z_k (S_iload_n cx (k := 1) (by decide +kernel) rfl) ?_
  refine z_k (S_push cx (n := 1) (by decide +kernel) (by decide)) ?_
  refine z_k (S_zast cx (by decide +kernel)) ?_
  refine z_k (S_iinc cx (n := 1) (by decide) (by decide +kernel) (by decide)) ?_
  refine z_k (S_goto cx (off := -169) (by decide +kernel) (by decide)) ?_
  refine z_k (S_vret (hf.1 rfl) (by decide +kernel)) ?_
  exact z_k0
theorem s_Mo_workOut : z_snd zTab r_Mo_workOut := ⟨by decide +kernel, w_820, fun g d p l e R s m args below meth c Q P cx hn hf => z_k (s_Mo_workOut_0 cx hn hf) (z_k (s_Mo_workOut_1 cx hn hf) (z_k (s_Mo_workOut_2 cx hn hf) (z_k (s_Mo_workOut_3 cx hn hf) (z_k0))))⟩
set_option maxRecDepth 100000 in
set_option maxHeartbeats 4000000 in
theorem s_Mo_token_0 (cx : z_cx zTab g d p l e R s m args below meth c prog_8_method_8_code "SealedTalksModel" 7) (hn : meth.name = "token") (hf : z_fin g p l e R s m args below meth c Q prog_8_method_8_code P (some .int)) : ∀ x ∈ k_Mo_token_0, z_sn zTab g d p l e R s m args below meth c Q 7 P x := by
  unfold k_Mo_token_0
  refine z_k (S_iload_n cx (k := 0) (by decide +kernel) rfl) ?_
  refine z_k (S_if_ne cx (off := 27) (by decide +kernel) (by decide)) ?_
  refine z_k (S_iload_n cx (k := 1) (by decide +kernel) rfl) ?_
  refine z_k (S_if_ne cx (off := 7) (by decide +kernel) (by decide)) ?_
  refine z_k (S_push cx (n := 1) (by decide +kernel) (by decide)) ?_
  refine z_k (S_goto cx (off := 32) (by decide +kernel) (by decide)) ?_
  refine z_k (S_iload_n cx (k := 1) (by decide +kernel) rfl) ?_
  refine z_k (S_push cx (n := 1) (by decide +kernel) (by decide)) ?_
  refine z_k (S_icmp_ne cx (off := 9) (by decide +kernel) (by decide)) ?_
  refine z_k (S_sipush cx (n := 1324) (by decide +kernel) (by decide)) ?_
  refine z_k (S_goto cx (off := 21) (by decide +kernel) (by decide)) ?_
  refine z_k (S_bipush cx (n := 25) (by decide +kernel) (by decide)) ?_
  refine z_k (S_goto cx (off := 16) (by decide +kernel) (by decide)) ?_
  refine z_k (S_iload_n cx (k := 1) (by decide +kernel) rfl) ?_
  refine z_k (S_if_ne cx (off := 9) (by decide +kernel) (by decide)) ?_
  refine z_k (S_sipush cx (n := 1426) (by decide +kernel) (by decide)) ?_
  refine z_k (S_goto cx (off := 6) (by decide +kernel) (by decide)) ?_
  refine z_k (S_sipush cx (n := 135) (by decide +kernel) (by decide)) ?_
  refine z_k (S_istore_n cx (by decide) (k := 3) (by decide +kernel) rfl) ?_
  refine z_k (S_iload_n cx (k := 3) (by decide +kernel) rfl) ?_
  refine z_k (S_sipush cx (n := 999) (by decide +kernel) (by decide)) ?_
  refine z_k (S_icmp_le cx (off := 7) (by decide +kernel) (by decide)) ?_
  refine z_k (S_push cx (n := 4) (by decide +kernel) (by decide)) ?_
  refine z_k (S_goto cx (off := 24) (by decide +kernel) (by decide)) ?_
  exact z_k0
set_option maxRecDepth 100000 in
set_option maxHeartbeats 4000000 in
theorem s_Mo_token_1 (cx : z_cx zTab g d p l e R s m args below meth c prog_8_method_8_code "SealedTalksModel" 7) (hn : meth.name = "token") (hf : z_fin g p l e R s m args below meth c Q prog_8_method_8_code P (some .int)) : ∀ x ∈ k_Mo_token_1, z_sn zTab g d p l e R s m args below meth c Q 7 P x := by
  unfold k_Mo_token_1
  refine z_k (S_iload_n cx (k := 3) (by decide +kernel) rfl) ?_
  refine z_k (S_bipush cx (n := 99) (by decide +kernel) (by decide)) ?_
  refine z_k (S_icmp_le cx (off := 7) (by decide +kernel) (by decide)) ?_
  refine z_k (S_push cx (n := 3) (by decide +kernel) (by decide)) ?_
  refine z_k (S_goto cx (off := 14) (by decide +kernel) (by decide)) ?_
  refine z_k (S_iload_n cx (k := 3) (by decide +kernel) rfl) ?_
  refine z_k (S_bipush cx (n := 9) (by decide +kernel) (by decide)) ?_
  refine z_k (S_icmp_le cx (off := 7) (by decide +kernel) (by decide)) ?_
  refine z_k (S_push cx (n := 2) (by decide +kernel) (by decide)) ?_
  refine z_k (S_goto cx (off := 4) (by decide +kernel) (by decide)) ?_
  refine z_k (S_push cx (n := 1) (by decide +kernel) (by decide)) ?_
  refine z_k (S_istore cx (by decide) (by decide +kernel)) ?_
  refine z_k (S_iload_n cx (k := 3) (by decide +kernel) rfl) ?_
  refine z_k (S_istore cx (by decide) (by decide +kernel)) ?_
  refine z_k (S_iload cx (by decide +kernel)) ?_
  refine z_k (S_push cx (n := 1) (by decide +kernel) (by decide)) ?_
  refine z_k (S_isub cx (by decide +kernel)) ?_
  refine z_k (S_istore cx (by decide) (by decide +kernel)) ?_
  refine z_k (S_iload cx (by decide +kernel)) ?_
  refine z_k (S_iload_n cx (k := 2) (by decide +kernel) rfl) ?_
  refine z_k (S_icmp_le cx (off := 16) (by decide +kernel) (by decide)) ?_
  refine z_k (S_iload cx (by decide +kernel)) ?_
  refine z_k (S_bipush cx (n := 10) (by decide +kernel) (by decide)) ?_
  refine z_k (S_idiv cx (by decide +kernel)) ?_
  exact z_k0
set_option maxRecDepth 100000 in
set_option maxHeartbeats 4000000 in
theorem s_Mo_token_2 (cx : z_cx zTab g d p l e R s m args below meth c prog_8_method_8_code "SealedTalksModel" 7) (hn : meth.name = "token") (hf : z_fin g p l e R s m args below meth c Q prog_8_method_8_code P (some .int)) : ∀ x ∈ k_Mo_token_2, z_sn zTab g d p l e R s m args below meth c Q 7 P x := by
  unfold k_Mo_token_2
  refine z_k (S_istore cx (by decide) (by decide +kernel)) ?_
  refine z_k (S_iinc cx (n := -1) (by decide) (by decide +kernel) (by decide)) ?_
  refine z_k (S_goto cx (off := -16) (by decide +kernel) (by decide)) ?_
  refine z_k (S_iload_n cx (k := 2) (by decide +kernel) rfl) ?_
  refine z_k (S_iload cx (by decide +kernel)) ?_
  refine z_k (S_icmp_ge cx (off := 11) (by decide +kernel) (by decide)) ?_
  refine z_k (S_iload cx (by decide +kernel)) ?_
  refine z_k (S_bipush cx (n := 10) (by decide +kernel) (by decide)) ?_
  refine z_k (S_irem cx (by decide +kernel)) ?_
  refine z_k (S_goto cx (off := 4) (by decide +kernel) (by decide)) ?_
  refine z_k (S_push cx (n := 0) (by decide +kernel) (by decide)) ?_
  refine z_k (S_iret (hf.2.1 rfl) (by decide +kernel)) ?_
  exact z_k0
theorem s_Mo_token : z_snd zTab r_Mo_token := ⟨by decide +kernel, w_708, fun g d p l e R s m args below meth c Q P cx hn hf => z_k (s_Mo_token_0 cx hn hf) (z_k (s_Mo_token_1 cx hn hf) (z_k (s_Mo_token_2 cx hn hf) (z_k0)))⟩
set_option maxRecDepth 100000 in
set_option maxHeartbeats 4000000 in
theorem s_Mo_last_0 (cx : z_cx zTab g d p l e R s m args below meth c prog_8_method_9_code "SealedTalksModel" 1) (hn : meth.name = "last") (hf : z_fin g p l e R s m args below meth c Q prog_8_method_9_code P (some .int)) : ∀ x ∈ k_Mo_last_0, z_sn zTab g d p l e R s m args below meth c Q 1 P x := by
  unfold k_Mo_last_0
  refine z_k (S_iload_n cx (k := 0) (by decide +kernel) rfl) ?_
  refine z_k (S_if_ne cx (off := 7) (by decide +kernel) (by decide)) ?_
  refine z_k (S_push cx (n := 3) (by decide +kernel) (by decide)) ?_
  refine z_k (S_goto cx (off := 4) (by decide +kernel) (by decide)) ?_
  refine z_k (S_push cx (n := 2) (by decide +kernel) (by decide)) ?_
  refine z_k (S_iret (hf.2.1 rfl) (by decide +kernel)) ?_
  exact z_k0
theorem s_Mo_last : z_snd zTab r_Mo_last := ⟨by decide +kernel, w_697, fun g d p l e R s m args below meth c Q P cx hn hf => z_k (s_Mo_last_0 cx hn hf) (z_k0)⟩
set_option maxRecDepth 100000 in
set_option maxHeartbeats 4000000 in
theorem s_Mo_load_0 (cx : z_cx zTab g d p l e R s m args below meth c prog_8_method_10_code "SealedTalksModel" 2) (hn : meth.name = "load") (hf : z_fin g p l e R s m args below meth c Q prog_8_method_10_code P none) : ∀ x ∈ k_Mo_load_0, z_sn zTab g d p l e R s m args below meth c Q 2 P x := by
  unfold k_Mo_load_0
  refine z_k (S_aload_n cx (k := 0) (by decide +kernel) rfl) ?_
  refine z_k (S_iload_n cx (k := 1) (by decide +kernel) rfl) ?_
  refine z_k (S_putf cx (T := F_Mo) (N := 43) (k := 31) (ty := t_Mo) rfl in_Mo t_Mo_ok n_Mo (by decide) rfl w_559 rfl (Or.inl ⟨rfl, rfl⟩) (by decide +kernel)) ?_
  refine z_k (S_aload_n cx (k := 0) (by decide +kernel) rfl) ?_
  refine z_k (S_aload_n cx (k := 0) (by decide +kernel) rfl) ?_
  refine z_k (S_getf cx (T := F_Mo) (N := 43) (k := 19) rfl in_Mo (by decide) rfl w_547 (by decide +kernel)) ?_
  refine z_k (S_iload_n cx (k := 1) (by decide +kernel) rfl) ?_
  refine z_k (S_iald cx (by decide +kernel)) ?_
  refine z_k (S_putf cx (T := F_Mo) (N := 43) (k := 32) (ty := t_Mo) rfl in_Mo t_Mo_ok n_Mo (by decide) rfl w_560 rfl (Or.inl ⟨rfl, rfl⟩) (by decide +kernel)) ?_
  refine z_k (S_aload_n cx (k := 0) (by decide +kernel) rfl) ?_
  refine z_k (S_aload_n cx (k := 0) (by decide +kernel) rfl) ?_
  refine z_k (S_getf cx (T := F_Mo) (N := 43) (k := 20) rfl in_Mo (by decide) rfl w_548 (by decide +kernel)) ?_
  refine z_k (S_iload_n cx (k := 1) (by decide +kernel) rfl) ?_
  refine z_k (S_iald cx (by decide +kernel)) ?_
  refine z_k (S_putf cx (T := F_Mo) (N := 43) (k := 33) (ty := t_Mo) rfl in_Mo t_Mo_ok n_Mo (by decide) rfl w_561 rfl (Or.inl ⟨rfl, rfl⟩) (by decide +kernel)) ?_
  refine z_k (S_aload_n cx (k := 0) (by decide +kernel) rfl) ?_
  refine z_k (S_aload_n cx (k := 0) (by decide +kernel) rfl) ?_
  refine z_k (S_getf cx (T := F_Mo) (N := 43) (k := 21) rfl in_Mo (by decide) rfl w_549 (by decide +kernel)) ?_
  refine z_k (S_iload_n cx (k := 1) (by decide +kernel) rfl) ?_
  refine z_k (S_iald cx (by decide +kernel)) ?_
  refine z_k (S_putf cx (T := F_Mo) (N := 43) (k := 34) (ty := t_Mo) rfl in_Mo t_Mo_ok n_Mo (by decide) rfl w_562 rfl (Or.inl ⟨rfl, rfl⟩) (by decide +kernel)) ?_
  refine z_k (S_aload_n cx (k := 0) (by decide +kernel) rfl) ?_
  refine z_k (S_aload_n cx (k := 0) (by decide +kernel) rfl) ?_
  refine z_k (S_getf cx (T := F_Mo) (N := 43) (k := 22) rfl in_Mo (by decide) rfl w_550 (by decide +kernel)) ?_
  exact z_k0
set_option maxRecDepth 100000 in
set_option maxHeartbeats 4000000 in
theorem s_Mo_load_1 (cx : z_cx zTab g d p l e R s m args below meth c prog_8_method_10_code "SealedTalksModel" 2) (hn : meth.name = "load") (hf : z_fin g p l e R s m args below meth c Q prog_8_method_10_code P none) : ∀ x ∈ k_Mo_load_1, z_sn zTab g d p l e R s m args below meth c Q 2 P x := by
  unfold k_Mo_load_1
  refine z_k (S_iload_n cx (k := 1) (by decide +kernel) rfl) ?_
  refine z_k (S_iald cx (by decide +kernel)) ?_
  refine z_k (S_putf cx (T := F_Mo) (N := 43) (k := 35) (ty := t_Mo) rfl in_Mo t_Mo_ok n_Mo (by decide) rfl w_563 rfl (Or.inl ⟨rfl, rfl⟩) (by decide +kernel)) ?_
  refine z_k (S_aload_n cx (k := 0) (by decide +kernel) rfl) ?_
  refine z_k (S_aload_n cx (k := 0) (by decide +kernel) rfl) ?_
  refine z_k (S_getf cx (T := F_Mo) (N := 43) (k := 16) rfl in_Mo (by decide) rfl w_544 (by decide +kernel)) ?_
  refine z_k (S_iload_n cx (k := 1) (by decide +kernel) rfl) ?_
  refine z_k (S_iald cx (by decide +kernel)) ?_
  refine z_k (S_putf cx (T := F_Mo) (N := 43) (k := 36) (ty := t_Mo) rfl in_Mo t_Mo_ok n_Mo (by decide) rfl w_564 rfl (Or.inl ⟨rfl, rfl⟩) (by decide +kernel)) ?_
  refine z_k (S_aload_n cx (k := 0) (by decide +kernel) rfl) ?_
  refine z_k (S_aload_n cx (k := 0) (by decide +kernel) rfl) ?_
  refine z_k (S_getf cx (T := F_Mo) (N := 43) (k := 17) rfl in_Mo (by decide) rfl w_545 (by decide +kernel)) ?_
  refine z_k (S_iload_n cx (k := 1) (by decide +kernel) rfl) ?_
  refine z_k (S_iald cx (by decide +kernel)) ?_
  refine z_k (S_putf cx (T := F_Mo) (N := 43) (k := 37) (ty := t_Mo) rfl in_Mo t_Mo_ok n_Mo (by decide) rfl w_565 rfl (Or.inl ⟨rfl, rfl⟩) (by decide +kernel)) ?_
  refine z_k (S_aload_n cx (k := 0) (by decide +kernel) rfl) ?_
  refine z_k (S_aload_n cx (k := 0) (by decide +kernel) rfl) ?_
  refine z_k (S_getf cx (T := F_Mo) (N := 43) (k := 18) rfl in_Mo (by decide) rfl w_546 (by decide +kernel)) ?_
  refine z_k (S_iload_n cx (k := 1) (by decide +kernel) rfl) ?_
  refine z_k (S_iald cx (by decide +kernel)) ?_
  refine z_k (S_putf cx (T := F_Mo) (N := 43) (k := 38) (ty := t_Mo) rfl in_Mo t_Mo_ok n_Mo (by decide) rfl w_566 rfl (Or.inl ⟨rfl, rfl⟩) (by decide +kernel)) ?_
  refine z_k (S_aload_n cx (k := 0) (by decide +kernel) rfl) ?_
  refine z_k (S_push cx (n := 0) (by decide +kernel) (by decide)) ?_
  refine z_k (S_putf cx (T := F_Mo) (N := 43) (k := 42) (ty := t_Mo) rfl in_Mo t_Mo_ok n_Mo (by decide) rfl w_570 rfl (Or.inr (Or.inl ⟨rfl, rfl⟩)) (by decide +kernel)) ?_
  exact z_k0
set_option maxRecDepth 100000 in
set_option maxHeartbeats 4000000 in
theorem s_Mo_load_2 (cx : z_cx zTab g d p l e R s m args below meth c prog_8_method_10_code "SealedTalksModel" 2) (hn : meth.name = "load") (hf : z_fin g p l e R s m args below meth c Q prog_8_method_10_code P none) : ∀ x ∈ k_Mo_load_2, z_sn zTab g d p l e R s m args below meth c Q 2 P x := by
  unfold k_Mo_load_2
  refine z_k (S_aload_n cx (k := 0) (by decide +kernel) rfl) ?_
  refine z_k (S_push cx (n := 0) (by decide +kernel) (by decide)) ?_
  refine z_k (S_putf cx (T := F_Mo) (N := 43) (k := 41) (ty := t_Mo) rfl in_Mo t_Mo_ok n_Mo (by decide) rfl w_569 rfl (Or.inl ⟨rfl, rfl⟩) (by decide +kernel)) ?_
  refine z_k (S_vret (hf.1 rfl) (by decide +kernel)) ?_
  exact z_k0
theorem s_Mo_load : z_snd zTab r_Mo_load := ⟨by decide +kernel, w_705, fun g d p l e R s m args below meth c Q P cx hn hf => z_k (s_Mo_load_0 cx hn hf) (z_k (s_Mo_load_1 cx hn hf) (z_k (s_Mo_load_2 cx hn hf) (z_k0)))⟩
set_option maxRecDepth 100000 in
set_option maxHeartbeats 4000000 in
theorem s_Mo_keep_0 (cx : z_cx zTab g d p l e R s m args below meth c prog_8_method_11_code "SealedTalksModel" 2) (hn : meth.name = "keep") (hf : z_fin g p l e R s m args below meth c Q prog_8_method_11_code P none) : ∀ x ∈ k_Mo_keep_0, z_sn zTab g d p l e R s m args below meth c Q 2 P x := by
  unfold k_Mo_keep_0
  refine z_k (S_aload_n cx (k := 0) (by decide +kernel) rfl) ?_
  refine z_k (S_getf cx (T := F_Mo) (N := 43) (k := 31) rfl in_Mo (by decide) rfl w_559 (by decide +kernel)) ?_
  refine z_k (S_istore_n cx (by decide) (k := 1) (by decide +kernel) rfl) ?_
  refine z_k (S_aload_n cx (k := 0) (by decide +kernel) rfl) ?_
  refine z_k (S_getf cx (T := F_Mo) (N := 43) (k := 19) rfl in_Mo (by decide) rfl w_547 (by decide +kernel)) ?_
  refine z_k (S_iload_n cx (k := 1) (by decide +kernel) rfl) ?_
  refine z_k (S_aload_n cx (k := 0) (by decide +kernel) rfl) ?_
  refine z_k (S_getf cx (T := F_Mo) (N := 43) (k := 32) rfl in_Mo (by decide) rfl w_560 (by decide +kernel)) ?_
  refine z_k (S_iast cx (by decide +kernel)) ?_
  refine z_k (S_aload_n cx (k := 0) (by decide +kernel) rfl) ?_
  refine z_k (S_getf cx (T := F_Mo) (N := 43) (k := 20) rfl in_Mo (by decide) rfl w_548 (by decide +kernel)) ?_
  refine z_k (S_iload_n cx (k := 1) (by decide +kernel) rfl) ?_
  refine z_k (S_aload_n cx (k := 0) (by decide +kernel) rfl) ?_
  refine z_k (S_getf cx (T := F_Mo) (N := 43) (k := 33) rfl in_Mo (by decide) rfl w_561 (by decide +kernel)) ?_
  refine z_k (S_iast cx (by decide +kernel)) ?_
  refine z_k (S_aload_n cx (k := 0) (by decide +kernel) rfl) ?_
  refine z_k (S_getf cx (T := F_Mo) (N := 43) (k := 21) rfl in_Mo (by decide) rfl w_549 (by decide +kernel)) ?_
  refine z_k (S_iload_n cx (k := 1) (by decide +kernel) rfl) ?_
  refine z_k (S_aload_n cx (k := 0) (by decide +kernel) rfl) ?_
  refine z_k (S_getf cx (T := F_Mo) (N := 43) (k := 34) rfl in_Mo (by decide) rfl w_562 (by decide +kernel)) ?_
  refine z_k (S_iast cx (by decide +kernel)) ?_
  refine z_k (S_aload_n cx (k := 0) (by decide +kernel) rfl) ?_
  refine z_k (S_getf cx (T := F_Mo) (N := 43) (k := 22) rfl in_Mo (by decide) rfl w_550 (by decide +kernel)) ?_
  refine z_k (S_iload_n cx (k := 1) (by decide +kernel) rfl) ?_
  exact z_k0
set_option maxRecDepth 100000 in
set_option maxHeartbeats 4000000 in
theorem s_Mo_keep_1 (cx : z_cx zTab g d p l e R s m args below meth c prog_8_method_11_code "SealedTalksModel" 2) (hn : meth.name = "keep") (hf : z_fin g p l e R s m args below meth c Q prog_8_method_11_code P none) : ∀ x ∈ k_Mo_keep_1, z_sn zTab g d p l e R s m args below meth c Q 2 P x := by
  unfold k_Mo_keep_1
  refine z_k (S_aload_n cx (k := 0) (by decide +kernel) rfl) ?_
  refine z_k (S_getf cx (T := F_Mo) (N := 43) (k := 35) rfl in_Mo (by decide) rfl w_563 (by decide +kernel)) ?_
  refine z_k (S_iast cx (by decide +kernel)) ?_
  refine z_k (S_aload_n cx (k := 0) (by decide +kernel) rfl) ?_
  refine z_k (S_getf cx (T := F_Mo) (N := 43) (k := 16) rfl in_Mo (by decide) rfl w_544 (by decide +kernel)) ?_
  refine z_k (S_iload_n cx (k := 1) (by decide +kernel) rfl) ?_
  refine z_k (S_aload_n cx (k := 0) (by decide +kernel) rfl) ?_
  refine z_k (S_getf cx (T := F_Mo) (N := 43) (k := 36) rfl in_Mo (by decide) rfl w_564 (by decide +kernel)) ?_
  refine z_k (S_iast cx (by decide +kernel)) ?_
  refine z_k (S_aload_n cx (k := 0) (by decide +kernel) rfl) ?_
  refine z_k (S_getf cx (T := F_Mo) (N := 43) (k := 17) rfl in_Mo (by decide) rfl w_545 (by decide +kernel)) ?_
  refine z_k (S_iload_n cx (k := 1) (by decide +kernel) rfl) ?_
  refine z_k (S_aload_n cx (k := 0) (by decide +kernel) rfl) ?_
  refine z_k (S_getf cx (T := F_Mo) (N := 43) (k := 37) rfl in_Mo (by decide) rfl w_565 (by decide +kernel)) ?_
  refine z_k (S_iast cx (by decide +kernel)) ?_
  refine z_k (S_aload_n cx (k := 0) (by decide +kernel) rfl) ?_
  refine z_k (S_getf cx (T := F_Mo) (N := 43) (k := 18) rfl in_Mo (by decide) rfl w_546 (by decide +kernel)) ?_
  refine z_k (S_iload_n cx (k := 1) (by decide +kernel) rfl) ?_
  refine z_k (S_aload_n cx (k := 0) (by decide +kernel) rfl) ?_
  refine z_k (S_getf cx (T := F_Mo) (N := 43) (k := 38) rfl in_Mo (by decide) rfl w_566 (by decide +kernel)) ?_
  refine z_k (S_iast cx (by decide +kernel)) ?_
  refine z_k (S_aload_n cx (k := 0) (by decide +kernel) rfl) ?_
  refine z_k (S_getf cx (T := F_Mo) (N := 43) (k := 23) rfl in_Mo (by decide) rfl w_551 (by decide +kernel)) ?_
  refine z_k (S_iload_n cx (k := 1) (by decide +kernel) rfl) ?_
  exact z_k0
set_option maxRecDepth 100000 in
set_option maxHeartbeats 4000000 in
theorem s_Mo_keep_2 (cx : z_cx zTab g d p l e R s m args below meth c prog_8_method_11_code "SealedTalksModel" 2) (hn : meth.name = "keep") (hf : z_fin g p l e R s m args below meth c Q prog_8_method_11_code P none) : ∀ x ∈ k_Mo_keep_2, z_sn zTab g d p l e R s m args below meth c Q 2 P x := by
  unfold k_Mo_keep_2
  refine z_k (S_aload_n cx (k := 0) (by decide +kernel) rfl) ?_
  refine z_k (S_getf cx (T := F_Mo) (N := 43) (k := 23) rfl in_Mo (by decide) rfl w_551 (by decide +kernel)) ?_
  refine z_k (S_iload_n cx (k := 1) (by decide +kernel) rfl) ?_
  refine z_k (S_iald cx (by decide +kernel)) ?_
  refine z_k (S_push cx (n := 1) (by decide +kernel) (by decide)) ?_
  refine z_k (S_iadd cx (by decide +kernel)) ?_
  refine z_k (S_iast cx (by decide +kernel)) ?_
  refine z_k (S_aload_n cx (k := 0) (by decide +kernel) rfl) ?_
  refine z_k (S_getf cx (T := F_Mo) (N := 43) (k := 25) rfl in_Mo (by decide) rfl w_553 (by decide +kernel)) ?_
  refine z_k (S_iload_n cx (k := 1) (by decide +kernel) rfl) ?_
  refine z_k (S_aload_n cx (k := 0) (by decide +kernel) rfl) ?_
  refine z_k (S_getf cx (T := F_Mo) (N := 43) (k := 23) rfl in_Mo (by decide) rfl w_551 (by decide +kernel)) ?_
  refine z_k (S_iload_n cx (k := 1) (by decide +kernel) rfl) ?_
  refine z_k (S_iald cx (by decide +kernel)) ?_
  refine z_k (S_aload_n cx (k := 0) (by decide +kernel) rfl) ?_
  refine z_k (S_getf cx (T := F_Mo) (N := 43) (k := 13) rfl in_Mo (by decide) rfl w_541 (by decide +kernel)) ?_
  refine z_k (S_iload_n cx (k := 1) (by decide +kernel) rfl) ?_
  refine z_k (S_iald cx (by decide +kernel)) ?_
  refine z_k (S_callS cx (r := r_Mo_last) rfl ⟨w_697, w_4, by decide, by decide +kernel⟩ w_695 w_696 (by decide +kernel)) ?_
  refine z_k (S_icmp_ne cx (off := 7) (by decide +kernel) (by decide)) ?_
  refine z_k (S_push cx (n := 0) (by decide +kernel) (by decide)) ?_
  refine z_k (S_goto cx (off := 9) (by decide +kernel) (by decide)) ?_
  refine z_k (S_aload_n cx (k := 0) (by decide +kernel) rfl) ?_
  refine z_k (S_getf cx (T := F_Mo) (N := 43) (k := 25) rfl in_Mo (by decide) rfl w_553 (by decide +kernel)) ?_
  exact z_k0
set_option maxRecDepth 100000 in
set_option maxHeartbeats 4000000 in
theorem s_Mo_keep_3 (cx : z_cx zTab g d p l e R s m args below meth c prog_8_method_11_code "SealedTalksModel" 2) (hn : meth.name = "keep") (hf : z_fin g p l e R s m args below meth c Q prog_8_method_11_code P none) : ∀ x ∈ k_Mo_keep_3, z_sn zTab g d p l e R s m args below meth c Q 2 P x := by
  unfold k_Mo_keep_3
  refine z_k (S_iload_n cx (k := 1) (by decide +kernel) rfl) ?_
  refine z_k (S_iald cx (by decide +kernel)) ?_
  refine z_k (S_iast cx (by decide +kernel)) ?_
  refine z_k (S_vret (hf.1 rfl) (by decide +kernel)) ?_
  exact z_k0
theorem s_Mo_keep : z_snd zTab r_Mo_keep := ⟨by decide +kernel, w_728, fun g d p l e R s m args below meth c Q P cx hn hf => z_k (s_Mo_keep_0 cx hn hf) (z_k (s_Mo_keep_1 cx hn hf) (z_k (s_Mo_keep_2 cx hn hf) (z_k (s_Mo_keep_3 cx hn hf) (z_k0))))⟩
end ZR40
end
section
/-! Each method of SealedTalksModel is sound (1). By program. -/
section ZR41
variable {g : zG} {d : Nat} {p : Program} {l : Launch} {e : Env} {R : Room} {s : State} {m : MethodId} {args : Array Value} {below : List Frame} {meth : Method} {c : Code} {Q : State → Prop} {P : zP}
set_option maxRecDepth 100000 in
set_option maxHeartbeats 4000000 in
theorem s_Mo_mixHash_0 (cx : z_cx zTab g d p l e R s m args below meth c prog_8_method_12_code "SealedTalksModel" 2) (hn : meth.name = "mixHash") (hf : z_fin g p l e R s m args below meth c Q prog_8_method_12_code P none) : ∀ x ∈ k_Mo_mixHash_0, z_sn zTab g d p l e R s m args below meth c Q 2 P x := by
  unfold k_Mo_mixHash_0
  refine z_k (S_aload_n cx (k := 0) (by decide +kernel) rfl) ?_
  refine z_k (S_aload_n cx (k := 0) (by decide +kernel) rfl) ?_
  refine z_k (S_push cx (n := 4) (by decide +kernel) (by decide)) ?_
  refine z_k (S_aload_n cx (k := 0) (by decide +kernel) rfl) ?_
  refine z_k (S_getf cx (T := F_Mo) (N := 43) (k := 32) rfl in_Mo (by decide) rfl w_560 (by decide +kernel)) ?_
  refine z_k (S_iload_n cx (k := 1) (by decide +kernel) rfl) ?_
  refine z_k (S_callV cx (T := F_Mo) (N := 43) (r := r_Mo_two) rfl ⟨w_678, w_4, by decide, by decide +kernel⟩ w_675 w_677 wp_15 rfl (by decide +kernel)) ?_
  refine z_k (S_putf cx (T := F_Mo) (N := 43) (k := 32) (ty := t_Mo) rfl in_Mo t_Mo_ok n_Mo (by decide) rfl w_560 rfl (Or.inl ⟨rfl, rfl⟩) (by decide +kernel)) ?_
  refine z_k (S_vret (hf.1 rfl) (by decide +kernel)) ?_
  exact z_k0
theorem s_Mo_mixHash : z_snd zTab r_Mo_mixHash := ⟨by decide +kernel, w_716, fun g d p l e R s m args below meth c Q P cx hn hf => z_k (s_Mo_mixHash_0 cx hn hf) (z_k0)⟩
set_option maxRecDepth 100000 in
set_option maxHeartbeats 4000000 in
theorem s_Mo_agree_0 (cx : z_cx zTab g d p l e R s m args below meth c prog_8_method_13_code "SealedTalksModel" 11) (hn : meth.name = "agree") (hf : z_fin g p l e R s m args below meth c Q prog_8_method_13_code P none) : ∀ x ∈ k_Mo_agree_0, z_sn zTab g d p l e R s m args below meth c Q 11 P x := by
  unfold k_Mo_agree_0
  refine z_k (S_aload_n cx (k := 0) (by decide +kernel) rfl) ?_
  refine z_k (S_getf cx (T := F_Mo) (N := 43) (k := 14) rfl in_Mo (by decide) rfl w_542 (by decide +kernel)) ?_
  refine z_k (S_aload_n cx (k := 0) (by decide +kernel) rfl) ?_
  refine z_k (S_getf cx (T := F_Mo) (N := 43) (k := 31) rfl in_Mo (by decide) rfl w_559 (by decide +kernel)) ?_
  refine z_k (S_zald cx (by decide +kernel)) ?_
  refine z_k (S_istore_n cx (by decide) (k := 2) (by decide +kernel) rfl) ?_
  refine z_k (S_iload_n cx (k := 2) (by decide +kernel) rfl) ?_
  refine z_k (S_if_eq cx (off := 10) (by decide +kernel) (by decide)) ?_
  refine z_k (S_aload_n cx (k := 0) (by decide +kernel) rfl) ?_
  refine z_k (S_getf cx (T := F_Mo) (N := 43) (k := 36) rfl in_Mo (by decide) rfl w_564 (by decide +kernel)) ?_
  refine z_k (S_goto cx (off := 7) (by decide +kernel) (by decide)) ?_
  refine z_k (S_aload_n cx (k := 0) (by decide +kernel) rfl) ?_
  refine z_k (S_getf cx (T := F_Mo) (N := 43) (k := 37) rfl in_Mo (by decide) rfl w_565 (by decide +kernel)) ?_
  refine z_k (S_istore_n cx (by decide) (k := 3) (by decide +kernel) rfl) ?_
  refine z_k (S_iload_n cx (k := 2) (by decide +kernel) rfl) ?_
  refine z_k (S_if_eq cx (off := 15) (by decide +kernel) (by decide)) ?_
  refine z_k (S_aload_n cx (k := 0) (by decide +kernel) rfl) ?_
  refine z_k (S_getf cx (T := F_Mo) (N := 43) (k := 15) rfl in_Mo (by decide) rfl w_543 (by decide +kernel)) ?_
  refine z_k (S_aload_n cx (k := 0) (by decide +kernel) rfl) ?_
  refine z_k (S_getf cx (T := F_Mo) (N := 43) (k := 31) rfl in_Mo (by decide) rfl w_559 (by decide +kernel)) ?_
  refine z_k (S_iald cx (by decide +kernel)) ?_
  refine z_k (S_goto cx (off := 7) (by decide +kernel) (by decide)) ?_
  refine z_k (S_aload_n cx (k := 0) (by decide +kernel) rfl) ?_
  refine z_k (S_getf cx (T := F_Mo) (N := 43) (k := 38) rfl in_Mo (by decide) rfl w_566 (by decide +kernel)) ?_
  exact z_k0
set_option maxRecDepth 100000 in
set_option maxHeartbeats 4000000 in
theorem s_Mo_agree_1 (cx : z_cx zTab g d p l e R s m args below meth c prog_8_method_13_code "SealedTalksModel" 11) (hn : meth.name = "agree") (hf : z_fin g p l e R s m args below meth c Q prog_8_method_13_code P none) : ∀ x ∈ k_Mo_agree_1, z_sn zTab g d p l e R s m args below meth c Q 11 P x := by
  unfold k_Mo_agree_1
  refine z_k (S_istore cx (by decide) (by decide +kernel)) ?_
  refine z_k (S_iload_n cx (k := 2) (by decide +kernel) rfl) ?_
  refine z_k (S_if_eq cx (off := 10) (by decide +kernel) (by decide)) ?_
  refine z_k (S_aload_n cx (k := 0) (by decide +kernel) rfl) ?_
  refine z_k (S_getf cx (T := F_Mo) (N := 43) (k := 37) rfl in_Mo (by decide) rfl w_565 (by decide +kernel)) ?_
  refine z_k (S_goto cx (off := 7) (by decide +kernel) (by decide)) ?_
  refine z_k (S_aload_n cx (k := 0) (by decide +kernel) rfl) ?_
  refine z_k (S_getf cx (T := F_Mo) (N := 43) (k := 36) rfl in_Mo (by decide) rfl w_564 (by decide +kernel)) ?_
  refine z_k (S_istore cx (by decide) (by decide +kernel)) ?_
  refine z_k (S_iload_n cx (k := 2) (by decide +kernel) rfl) ?_
  refine z_k (S_if_eq cx (off := 10) (by decide +kernel) (by decide)) ?_
  refine z_k (S_aload_n cx (k := 0) (by decide +kernel) rfl) ?_
  refine z_k (S_getf cx (T := F_Mo) (N := 43) (k := 38) rfl in_Mo (by decide) rfl w_566 (by decide +kernel)) ?_
  refine z_k (S_goto cx (off := 12) (by decide +kernel) (by decide)) ?_
  refine z_k (S_aload_n cx (k := 0) (by decide +kernel) rfl) ?_
  refine z_k (S_getf cx (T := F_Mo) (N := 43) (k := 15) rfl in_Mo (by decide) rfl w_543 (by decide +kernel)) ?_
  refine z_k (S_aload_n cx (k := 0) (by decide +kernel) rfl) ?_
  refine z_k (S_getf cx (T := F_Mo) (N := 43) (k := 31) rfl in_Mo (by decide) rfl w_559 (by decide +kernel)) ?_
  refine z_k (S_iald cx (by decide +kernel)) ?_
  refine z_k (S_istore cx (by decide) (by decide +kernel)) ?_
  refine z_k (S_iload_n cx (k := 1) (by decide +kernel) rfl) ?_
  refine z_k (S_push cx (n := 3) (by decide +kernel) (by decide)) ?_
  refine z_k (S_icmp_eq cx (off := 8) (by decide +kernel) (by decide)) ?_
  refine z_k (S_iload_n cx (k := 1) (by decide +kernel) rfl) ?_
  exact z_k0
set_option maxRecDepth 100000 in
set_option maxHeartbeats 4000000 in
theorem s_Mo_agree_2 (cx : z_cx zTab g d p l e R s m args below meth c prog_8_method_13_code "SealedTalksModel" 11) (hn : meth.name = "agree") (hf : z_fin g p l e R s m args below meth c Q prog_8_method_13_code P none) : ∀ x ∈ k_Mo_agree_2, z_sn zTab g d p l e R s m args below meth c Q 11 P x := by
  unfold k_Mo_agree_2
  refine z_k (S_push cx (n := 4) (by decide +kernel) (by decide)) ?_
  refine z_k (S_icmp_ne cx (off := 7) (by decide +kernel) (by decide)) ?_
  refine z_k (S_iload_n cx (k := 3) (by decide +kernel) rfl) ?_
  refine z_k (S_goto cx (off := 5) (by decide +kernel) (by decide)) ?_
  refine z_k (S_iload cx (by decide +kernel)) ?_
  refine z_k (S_istore cx (by decide) (by decide +kernel)) ?_
  refine z_k (S_iload_n cx (k := 1) (by decide +kernel) rfl) ?_
  refine z_k (S_push cx (n := 3) (by decide +kernel) (by decide)) ?_
  refine z_k (S_icmp_eq cx (off := 8) (by decide +kernel) (by decide)) ?_
  refine z_k (S_iload_n cx (k := 1) (by decide +kernel) rfl) ?_
  refine z_k (S_push cx (n := 5) (by decide +kernel) (by decide)) ?_
  refine z_k (S_icmp_ne cx (off := 8) (by decide +kernel) (by decide)) ?_
  refine z_k (S_iload cx (by decide +kernel)) ?_
  refine z_k (S_goto cx (off := 5) (by decide +kernel) (by decide)) ?_
  refine z_k (S_iload cx (by decide +kernel)) ?_
  refine z_k (S_istore cx (by decide) (by decide +kernel)) ?_
  refine z_k (S_aload_n cx (k := 0) (by decide +kernel) rfl) ?_
  refine z_k (S_push cx (n := 3) (by decide +kernel) (by decide)) ?_
  refine z_k (S_iload cx (by decide +kernel)) ?_
  refine z_k (S_iload cx (by decide +kernel)) ?_
  refine z_k (S_icmp_ge cx (off := 15) (by decide +kernel) (by decide)) ?_
  refine z_k (S_sipush cx (n := 256) (by decide +kernel) (by decide)) ?_
  refine z_k (S_iload cx (by decide +kernel)) ?_
  refine z_k (S_imul cx (by decide +kernel)) ?_
  exact z_k0
set_option maxRecDepth 100000 in
set_option maxHeartbeats 4000000 in
theorem s_Mo_agree_3 (cx : z_cx zTab g d p l e R s m args below meth c prog_8_method_13_code "SealedTalksModel" 11) (hn : meth.name = "agree") (hf : z_fin g p l e R s m args below meth c Q prog_8_method_13_code P none) : ∀ x ∈ k_Mo_agree_3, z_sn zTab g d p l e R s m args below meth c Q 11 P x := by
  unfold k_Mo_agree_3
  refine z_k (S_iload cx (by decide +kernel)) ?_
  refine z_k (S_iadd cx (by decide +kernel)) ?_
  refine z_k (S_goto cx (off := 12) (by decide +kernel) (by decide)) ?_
  refine z_k (S_sipush cx (n := 256) (by decide +kernel) (by decide)) ?_
  refine z_k (S_iload cx (by decide +kernel)) ?_
  refine z_k (S_imul cx (by decide +kernel)) ?_
  refine z_k (S_iload cx (by decide +kernel)) ?_
  refine z_k (S_iadd cx (by decide +kernel)) ?_
  refine z_k (S_push cx (n := 0) (by decide +kernel) (by decide)) ?_
  refine z_k (S_push cx (n := 0) (by decide +kernel) (by decide)) ?_
  refine z_k (S_push cx (n := 0) (by decide +kernel) (by decide)) ?_
  refine z_k (S_callV cx (T := F_Mo) (N := 43) (r := r_Mo_term) rfl ⟨w_674, w_4, by decide, by decide +kernel⟩ w_671 w_673 wp_14 rfl (by decide +kernel)) ?_
  refine z_k (S_istore cx (by decide) (by decide +kernel)) ?_
  refine z_k (S_aload_n cx (k := 0) (by decide +kernel) rfl) ?_
  refine z_k (S_getf cx (T := F_Mo) (N := 43) (k := 33) rfl in_Mo (by decide) rfl w_561 (by decide +kernel)) ?_
  refine z_k (S_istore cx (by decide) (by decide +kernel)) ?_
  refine z_k (S_aload_n cx (k := 0) (by decide +kernel) rfl) ?_
  refine z_k (S_aload_n cx (k := 0) (by decide +kernel) rfl) ?_
  refine z_k (S_bipush cx (n := 6) (by decide +kernel) (by decide)) ?_
  refine z_k (S_iload cx (by decide +kernel)) ?_
  refine z_k (S_iload cx (by decide +kernel)) ?_
  refine z_k (S_callV cx (T := F_Mo) (N := 43) (r := r_Mo_two) rfl ⟨w_678, w_4, by decide, by decide +kernel⟩ w_675 w_677 wp_15 rfl (by decide +kernel)) ?_
  refine z_k (S_putf cx (T := F_Mo) (N := 43) (k := 34) (ty := t_Mo) rfl in_Mo t_Mo_ok n_Mo (by decide) rfl w_562 rfl (Or.inl ⟨rfl, rfl⟩) (by decide +kernel)) ?_
  refine z_k (S_aload_n cx (k := 0) (by decide +kernel) rfl) ?_
  exact z_k0
set_option maxRecDepth 100000 in
set_option maxHeartbeats 4000000 in
theorem s_Mo_agree_4 (cx : z_cx zTab g d p l e R s m args below meth c prog_8_method_13_code "SealedTalksModel" 11) (hn : meth.name = "agree") (hf : z_fin g p l e R s m args below meth c Q prog_8_method_13_code P none) : ∀ x ∈ k_Mo_agree_4, z_sn zTab g d p l e R s m args below meth c Q 11 P x := by
  unfold k_Mo_agree_4
  refine z_k (S_aload_n cx (k := 0) (by decide +kernel) rfl) ?_
  refine z_k (S_push cx (n := 5) (by decide +kernel) (by decide)) ?_
  refine z_k (S_iload cx (by decide +kernel)) ?_
  refine z_k (S_iload cx (by decide +kernel)) ?_
  refine z_k (S_callV cx (T := F_Mo) (N := 43) (r := r_Mo_two) rfl ⟨w_678, w_4, by decide, by decide +kernel⟩ w_675 w_677 wp_15 rfl (by decide +kernel)) ?_
  refine z_k (S_putf cx (T := F_Mo) (N := 43) (k := 33) (ty := t_Mo) rfl in_Mo t_Mo_ok n_Mo (by decide) rfl w_561 rfl (Or.inl ⟨rfl, rfl⟩) (by decide +kernel)) ?_
  refine z_k (S_aload_n cx (k := 0) (by decide +kernel) rfl) ?_
  refine z_k (S_push cx (n := 0) (by decide +kernel) (by decide)) ?_
  refine z_k (S_putf cx (T := F_Mo) (N := 43) (k := 35) (ty := t_Mo) rfl in_Mo t_Mo_ok n_Mo (by decide) rfl w_563 rfl (Or.inl ⟨rfl, rfl⟩) (by decide +kernel)) ?_
  refine z_k (S_vret (hf.1 rfl) (by decide +kernel)) ?_
  exact z_k0
theorem s_Mo_agree : z_snd zTab r_Mo_agree := ⟨by decide +kernel, w_724, fun g d p l e R s m args below meth c Q P cx hn hf => z_k (s_Mo_agree_0 cx hn hf) (z_k (s_Mo_agree_1 cx hn hf) (z_k (s_Mo_agree_2 cx hn hf) (z_k (s_Mo_agree_3 cx hn hf) (z_k (s_Mo_agree_4 cx hn hf) (z_k0)))))⟩
set_option maxRecDepth 100000 in
set_option maxHeartbeats 4000000 in
theorem s_Mo_addPart_0 (cx : z_cx zTab g d p l e R s m args below meth c prog_8_method_14_code "SealedTalksModel" 2) (hn : meth.name = "addPart") (hf : z_fin g p l e R s m args below meth c Q prog_8_method_14_code P none) : ∀ x ∈ k_Mo_addPart_0, z_sn zTab g d p l e R s m args below meth c Q 2 P x := by
  unfold k_Mo_addPart_0
  refine z_k (S_aload_n cx (k := 0) (by decide +kernel) rfl) ?_
  refine z_k (S_getf cx (T := F_Mo) (N := 43) (k := 40) rfl in_Mo (by decide) rfl w_568 (by decide +kernel)) ?_
  refine z_k (S_aload_n cx (k := 0) (by decide +kernel) rfl) ?_
  refine z_k (S_getf cx (T := F_Mo) (N := 43) (k := 39) rfl in_Mo (by decide) rfl w_567 (by decide +kernel)) ?_
  refine z_k (S_iload_n cx (k := 1) (by decide +kernel) rfl) ?_
  refine z_k (S_iast cx (by decide +kernel)) ?_
  refine z_k (S_aload_n cx (k := 0) (by decide +kernel) rfl) ?_
  refine z_k (S_dup cx (by decide +kernel)) ?_
  refine z_k (S_getf cx (T := F_Mo) (N := 43) (k := 39) rfl in_Mo (by decide) rfl w_567 (by decide +kernel)) ?_
  refine z_k (S_push cx (n := 1) (by decide +kernel) (by decide)) ?_
  refine z_k (S_iadd cx (by decide +kernel)) ?_
  refine z_k (S_putf cx (T := F_Mo) (N := 43) (k := 39) (ty := t_Mo) rfl in_Mo t_Mo_ok n_Mo (by decide) rfl w_567 rfl (Or.inl ⟨rfl, rfl⟩) (by decide +kernel)) ?_
  refine z_k (S_aload_n cx (k := 0) (by decide +kernel) rfl) ?_
  refine z_k (S_iload_n cx (k := 1) (by decide +kernel) rfl) ?_
  refine z_k (S_callV cx (T := F_Mo) (N := 43) (r := r_Mo_mixHash) rfl ⟨w_716, w_4, by decide, by decide +kernel⟩ w_713 w_715 wp_22 rfl (by decide +kernel)) ?_
  refine z_k (S_vret (hf.1 rfl) (by decide +kernel)) ?_
  exact z_k0
theorem s_Mo_addPart : z_snd zTab r_Mo_addPart := ⟨by decide +kernel, w_712, fun g d p l e R s m args below meth c Q P cx hn hf => z_k (s_Mo_addPart_0 cx hn hf) (z_k0)⟩
set_option maxRecDepth 100000 in
set_option maxHeartbeats 4000000 in
theorem s_Mo_put_0 (cx : z_cx zTab g d p l e R s m args below meth c prog_8_method_15_code "SealedTalksModel" 3) (hn : meth.name = "put") (hf : z_fin g p l e R s m args below meth c Q prog_8_method_15_code P none) : ∀ x ∈ k_Mo_put_0, z_sn zTab g d p l e R s m args below meth c Q 3 P x := by
  unfold k_Mo_put_0
  refine z_k (S_aload_n cx (k := 0) (by decide +kernel) rfl) ?_
  refine z_k (S_getf cx (T := F_Mo) (N := 43) (k := 34) rfl in_Mo (by decide) rfl w_562 (by decide +kernel)) ?_
  refine z_k (S_if_ge cx (off := 11) (by decide +kernel) (by decide)) ?_
  refine z_k (S_aload_n cx (k := 0) (by decide +kernel) rfl) ?_
  refine z_k (S_iload_n cx (k := 1) (by decide +kernel) rfl) ?_
  refine z_k (S_callV cx (T := F_Mo) (N := 43) (r := r_Mo_addPart) rfl ⟨w_712, w_4, by decide, by decide +kernel⟩ w_709 w_711 wp_21 rfl (by decide +kernel)) ?_
  refine z_k (S_goto cx (off := 38) (by decide +kernel) (by decide)) ?_
  refine z_k (S_aload_n cx (k := 0) (by decide +kernel) rfl) ?_
  refine z_k (S_bipush cx (n := 8) (by decide +kernel) (by decide)) ?_
  refine z_k (S_aload_n cx (k := 0) (by decide +kernel) rfl) ?_
  refine z_k (S_getf cx (T := F_Mo) (N := 43) (k := 35) rfl in_Mo (by decide) rfl w_563 (by decide +kernel)) ?_
  refine z_k (S_aload_n cx (k := 0) (by decide +kernel) rfl) ?_
  refine z_k (S_getf cx (T := F_Mo) (N := 43) (k := 34) rfl in_Mo (by decide) rfl w_562 (by decide +kernel)) ?_
  refine z_k (S_aload_n cx (k := 0) (by decide +kernel) rfl) ?_
  refine z_k (S_getf cx (T := F_Mo) (N := 43) (k := 32) rfl in_Mo (by decide) rfl w_560 (by decide +kernel)) ?_
  refine z_k (S_iload_n cx (k := 1) (by decide +kernel) rfl) ?_
  refine z_k (S_callV cx (T := F_Mo) (N := 43) (r := r_Mo_term) rfl ⟨w_674, w_4, by decide, by decide +kernel⟩ w_671 w_673 wp_14 rfl (by decide +kernel)) ?_
  refine z_k (S_istore_n cx (by decide) (k := 2) (by decide +kernel) rfl) ?_
  refine z_k (S_aload_n cx (k := 0) (by decide +kernel) rfl) ?_
  refine z_k (S_dup cx (by decide +kernel)) ?_
  refine z_k (S_getf cx (T := F_Mo) (N := 43) (k := 35) rfl in_Mo (by decide) rfl w_563 (by decide +kernel)) ?_
  refine z_k (S_push cx (n := 1) (by decide +kernel) (by decide)) ?_
  refine z_k (S_iadd cx (by decide +kernel)) ?_
  refine z_k (S_putf cx (T := F_Mo) (N := 43) (k := 35) (ty := t_Mo) rfl in_Mo t_Mo_ok n_Mo (by decide) rfl w_563 rfl (Or.inl ⟨rfl, rfl⟩) (by decide +kernel)) ?_
  exact z_k0
set_option maxRecDepth 100000 in
set_option maxHeartbeats 4000000 in
theorem s_Mo_put_1 (cx : z_cx zTab g d p l e R s m args below meth c prog_8_method_15_code "SealedTalksModel" 3) (hn : meth.name = "put") (hf : z_fin g p l e R s m args below meth c Q prog_8_method_15_code P none) : ∀ x ∈ k_Mo_put_1, z_sn zTab g d p l e R s m args below meth c Q 3 P x := by
  unfold k_Mo_put_1
  refine z_k (S_aload_n cx (k := 0) (by decide +kernel) rfl) ?_
  refine z_k (S_iload_n cx (k := 2) (by decide +kernel) rfl) ?_
  refine z_k (S_callV cx (T := F_Mo) (N := 43) (r := r_Mo_addPart) rfl ⟨w_712, w_4, by decide, by decide +kernel⟩ w_709 w_711 wp_21 rfl (by decide +kernel)) ?_
  refine z_k (S_vret (hf.1 rfl) (by decide +kernel)) ?_
  exact z_k0
theorem s_Mo_put : z_snd zTab r_Mo_put := ⟨by decide +kernel, w_720, fun g d p l e R s m args below meth c Q P cx hn hf => z_k (s_Mo_put_0 cx hn hf) (z_k (s_Mo_put_1 cx hn hf) (z_k0))⟩
set_option maxRecDepth 100000 in
set_option maxHeartbeats 4000000 in
theorem s_Mo_nextPart_0 (cx : z_cx zTab g d p l e R s m args below meth c prog_8_method_16_code "SealedTalksModel" 1) (hn : meth.name = "nextPart") (hf : z_fin g p l e R s m args below meth c Q prog_8_method_16_code P (some .int)) : ∀ x ∈ k_Mo_nextPart_0, z_sn zTab g d p l e R s m args below meth c Q 1 P x := by
  unfold k_Mo_nextPart_0
  refine z_k (S_aload_n cx (k := 0) (by decide +kernel) rfl) ?_
  refine z_k (S_dup cx (by decide +kernel)) ?_
  refine z_k (S_getf cx (T := F_Mo) (N := 43) (k := 41) rfl in_Mo (by decide) rfl w_569 (by decide +kernel)) ?_
  refine z_k (S_push cx (n := 1) (by decide +kernel) (by decide)) ?_
  refine z_k (S_iadd cx (by decide +kernel)) ?_
  refine z_k (S_putf cx (T := F_Mo) (N := 43) (k := 41) (ty := t_Mo) rfl in_Mo t_Mo_ok n_Mo (by decide) rfl w_569 rfl (Or.inl ⟨rfl, rfl⟩) (by decide +kernel)) ?_
  refine z_k (S_aload_n cx (k := 0) (by decide +kernel) rfl) ?_
  refine z_k (S_getf cx (T := F_Mo) (N := 43) (k := 41) rfl in_Mo (by decide) rfl w_569 (by decide +kernel)) ?_
  refine z_k (S_aload_n cx (k := 0) (by decide +kernel) rfl) ?_
  refine z_k (S_getf cx (T := F_Mo) (N := 43) (k := 39) rfl in_Mo (by decide) rfl w_567 (by decide +kernel)) ?_
  refine z_k (S_icmp_gt cx (off := 17) (by decide +kernel) (by decide)) ?_
  refine z_k (S_aload_n cx (k := 0) (by decide +kernel) rfl) ?_
  refine z_k (S_getf cx (T := F_Mo) (N := 43) (k := 40) rfl in_Mo (by decide) rfl w_568 (by decide +kernel)) ?_
  refine z_k (S_aload_n cx (k := 0) (by decide +kernel) rfl) ?_
  refine z_k (S_getf cx (T := F_Mo) (N := 43) (k := 41) rfl in_Mo (by decide) rfl w_569 (by decide +kernel)) ?_
  refine z_k (S_push cx (n := 1) (by decide +kernel) (by decide)) ?_
  refine z_k (S_isub cx (by decide +kernel)) ?_
  refine z_k (S_iald cx (by decide +kernel)) ?_
  refine z_k (S_goto cx (off := 4) (by decide +kernel) (by decide)) ?_
  refine z_k (S_push cx (n := -1) (by decide +kernel) (by decide)) ?_
  refine z_k (S_iret (hf.2.1 rfl) (by decide +kernel)) ?_
  exact z_k0
theorem s_Mo_nextPart : z_snd zTab r_Mo_nextPart := ⟨by decide +kernel, w_760, fun g d p l e R s m args below meth c Q P cx hn hf => z_k (s_Mo_nextPart_0 cx hn hf) (z_k0)⟩
set_option maxRecDepth 100000 in
set_option maxHeartbeats 4000000 in
theorem s_Mo_take_0 (cx : z_cx zTab g d p l e R s m args below meth c prog_8_method_17_code "SealedTalksModel" 4) (hn : meth.name = "take") (hf : z_fin g p l e R s m args below meth c Q prog_8_method_17_code P (some .int)) : ∀ x ∈ k_Mo_take_0, z_sn zTab g d p l e R s m args below meth c Q 4 P x := by
  unfold k_Mo_take_0
  refine z_k (S_aload_n cx (k := 0) (by decide +kernel) rfl) ?_
  refine z_k (S_callV cx (T := F_Mo) (N := 43) (r := r_Mo_nextPart) rfl ⟨w_760, w_4, by decide, by decide +kernel⟩ w_757 w_759 wp_32 rfl (by decide +kernel)) ?_
  refine z_k (S_istore_n cx (by decide) (k := 2) (by decide +kernel) rfl) ?_
  refine z_k (S_iload_n cx (k := 2) (by decide +kernel) rfl) ?_
  refine z_k (S_if_lt cx (off := 60) (by decide +kernel) (by decide)) ?_
  refine z_k (S_aload_n cx (k := 0) (by decide +kernel) rfl) ?_
  refine z_k (S_getf cx (T := F_Mo) (N := 43) (k := 34) rfl in_Mo (by decide) rfl w_562 (by decide +kernel)) ?_
  refine z_k (S_if_lt cx (off := 60) (by decide +kernel) (by decide)) ?_
  refine z_k (S_aload_n cx (k := 0) (by decide +kernel) rfl) ?_
  refine z_k (S_getf cx (T := F_Mo) (N := 43) (k := 1) rfl in_Mo (by decide) rfl w_529 (by decide +kernel)) ?_
  refine z_k (S_iload_n cx (k := 2) (by decide +kernel) rfl) ?_
  refine z_k (S_bald cx (by decide +kernel)) ?_
  refine z_k (S_bipush cx (n := 8) (by decide +kernel) (by decide)) ?_
  refine z_k (S_icmp_ne cx (off := 42) (by decide +kernel) (by decide)) ?_
  refine z_k (S_aload_n cx (k := 0) (by decide +kernel) rfl) ?_
  refine z_k (S_getf cx (T := F_Mo) (N := 43) (k := 3) rfl in_Mo (by decide) rfl w_531 (by decide +kernel)) ?_
  refine z_k (S_iload_n cx (k := 2) (by decide +kernel) rfl) ?_
  refine z_k (S_sald cx (by decide +kernel)) ?_
  refine z_k (S_aload_n cx (k := 0) (by decide +kernel) rfl) ?_
  refine z_k (S_getf cx (T := F_Mo) (N := 43) (k := 34) rfl in_Mo (by decide) rfl w_562 (by decide +kernel)) ?_
  refine z_k (S_icmp_ne cx (off := 29) (by decide +kernel) (by decide)) ?_
  refine z_k (S_aload_n cx (k := 0) (by decide +kernel) rfl) ?_
  refine z_k (S_getf cx (T := F_Mo) (N := 43) (k := 2) rfl in_Mo (by decide) rfl w_530 (by decide +kernel)) ?_
  refine z_k (S_iload_n cx (k := 2) (by decide +kernel) rfl) ?_
  exact z_k0
set_option maxRecDepth 100000 in
set_option maxHeartbeats 4000000 in
theorem s_Mo_take_1 (cx : z_cx zTab g d p l e R s m args below meth c prog_8_method_17_code "SealedTalksModel" 4) (hn : meth.name = "take") (hf : z_fin g p l e R s m args below meth c Q prog_8_method_17_code P (some .int)) : ∀ x ∈ k_Mo_take_1, z_sn zTab g d p l e R s m args below meth c Q 4 P x := by
  unfold k_Mo_take_1
  refine z_k (S_iald cx (by decide +kernel)) ?_
  refine z_k (S_aload_n cx (k := 0) (by decide +kernel) rfl) ?_
  refine z_k (S_getf cx (T := F_Mo) (N := 43) (k := 35) rfl in_Mo (by decide) rfl w_563 (by decide +kernel)) ?_
  refine z_k (S_icmp_ne cx (off := 16) (by decide +kernel) (by decide)) ?_
  refine z_k (S_aload_n cx (k := 0) (by decide +kernel) rfl) ?_
  refine z_k (S_getf cx (T := F_Mo) (N := 43) (k := 4) rfl in_Mo (by decide) rfl w_532 (by decide +kernel)) ?_
  refine z_k (S_iload_n cx (k := 2) (by decide +kernel) rfl) ?_
  refine z_k (S_sald cx (by decide +kernel)) ?_
  refine z_k (S_aload_n cx (k := 0) (by decide +kernel) rfl) ?_
  refine z_k (S_getf cx (T := F_Mo) (N := 43) (k := 32) rfl in_Mo (by decide) rfl w_560 (by decide +kernel)) ?_
  refine z_k (S_icmp_eq cx (off := 10) (by decide +kernel) (by decide)) ?_
  refine z_k (S_aload_n cx (k := 0) (by decide +kernel) rfl) ?_
  refine z_k (S_push cx (n := 1) (by decide +kernel) (by decide)) ?_
  refine z_k (S_putf cx (T := F_Mo) (N := 43) (k := 42) (ty := t_Mo) rfl in_Mo t_Mo_ok n_Mo (by decide) rfl w_570 rfl (Or.inr (Or.inl ⟨rfl, rfl⟩)) (by decide +kernel)) ?_
  refine z_k (S_push cx (n := -1) (by decide +kernel) (by decide)) ?_
  refine z_k (S_iret (hf.2.1 rfl) (by decide +kernel)) ?_
  refine z_k (S_aload_n cx (k := 0) (by decide +kernel) rfl) ?_
  refine z_k (S_getf cx (T := F_Mo) (N := 43) (k := 34) rfl in_Mo (by decide) rfl w_562 (by decide +kernel)) ?_
  refine z_k (S_if_ge cx (off := 7) (by decide +kernel) (by decide)) ?_
  refine z_k (S_iload_n cx (k := 2) (by decide +kernel) rfl) ?_
  refine z_k (S_goto cx (off := 9) (by decide +kernel) (by decide)) ?_
  refine z_k (S_aload_n cx (k := 0) (by decide +kernel) rfl) ?_
  refine z_k (S_getf cx (T := F_Mo) (N := 43) (k := 5) rfl in_Mo (by decide) rfl w_533 (by decide +kernel)) ?_
  refine z_k (S_iload_n cx (k := 2) (by decide +kernel) rfl) ?_
  exact z_k0
set_option maxRecDepth 100000 in
set_option maxHeartbeats 4000000 in
theorem s_Mo_take_2 (cx : z_cx zTab g d p l e R s m args below meth c prog_8_method_17_code "SealedTalksModel" 4) (hn : meth.name = "take") (hf : z_fin g p l e R s m args below meth c Q prog_8_method_17_code P (some .int)) : ∀ x ∈ k_Mo_take_2, z_sn zTab g d p l e R s m args below meth c Q 4 P x := by
  unfold k_Mo_take_2
  refine z_k (S_sald cx (by decide +kernel)) ?_
  refine z_k (S_istore_n cx (by decide) (k := 3) (by decide +kernel) rfl) ?_
  refine z_k (S_aload_n cx (k := 0) (by decide +kernel) rfl) ?_
  refine z_k (S_aload_n cx (k := 0) (by decide +kernel) rfl) ?_
  refine z_k (S_getf cx (T := F_Mo) (N := 43) (k := 34) rfl in_Mo (by decide) rfl w_562 (by decide +kernel)) ?_
  refine z_k (S_if_ge cx (off := 10) (by decide +kernel) (by decide)) ?_
  refine z_k (S_aload_n cx (k := 0) (by decide +kernel) rfl) ?_
  refine z_k (S_getf cx (T := F_Mo) (N := 43) (k := 35) rfl in_Mo (by decide) rfl w_563 (by decide +kernel)) ?_
  refine z_k (S_goto cx (off := 9) (by decide +kernel) (by decide)) ?_
  refine z_k (S_aload_n cx (k := 0) (by decide +kernel) rfl) ?_
  refine z_k (S_getf cx (T := F_Mo) (N := 43) (k := 35) rfl in_Mo (by decide) rfl w_563 (by decide +kernel)) ?_
  refine z_k (S_push cx (n := 1) (by decide +kernel) (by decide)) ?_
  refine z_k (S_iadd cx (by decide +kernel)) ?_
  refine z_k (S_putf cx (T := F_Mo) (N := 43) (k := 35) (ty := t_Mo) rfl in_Mo t_Mo_ok n_Mo (by decide) rfl w_563 rfl (Or.inl ⟨rfl, rfl⟩) (by decide +kernel)) ?_
  refine z_k (S_aload_n cx (k := 0) (by decide +kernel) rfl) ?_
  refine z_k (S_iload_n cx (k := 2) (by decide +kernel) rfl) ?_
  refine z_k (S_callV cx (T := F_Mo) (N := 43) (r := r_Mo_mixHash) rfl ⟨w_716, w_4, by decide, by decide +kernel⟩ w_713 w_715 wp_22 rfl (by decide +kernel)) ?_
  refine z_k (S_aload_n cx (k := 0) (by decide +kernel) rfl) ?_
  refine z_k (S_aload_n cx (k := 0) (by decide +kernel) rfl) ?_
  refine z_k (S_getf cx (T := F_Mo) (N := 43) (k := 42) rfl in_Mo (by decide) rfl w_570 (by decide +kernel)) ?_
  refine z_k (S_if_ne cx (off := 13) (by decide +kernel) (by decide)) ?_
  refine z_k (S_aload_n cx (k := 0) (by decide +kernel) rfl) ?_
  refine z_k (S_getf cx (T := F_Mo) (N := 43) (k := 1) rfl in_Mo (by decide) rfl w_529 (by decide +kernel)) ?_
  refine z_k (S_iload_n cx (k := 3) (by decide +kernel) rfl) ?_
  exact z_k0
set_option maxRecDepth 100000 in
set_option maxHeartbeats 4000000 in
theorem s_Mo_take_3 (cx : z_cx zTab g d p l e R s m args below meth c prog_8_method_17_code "SealedTalksModel" 4) (hn : meth.name = "take") (hf : z_fin g p l e R s m args below meth c Q prog_8_method_17_code P (some .int)) : ∀ x ∈ k_Mo_take_3, z_sn zTab g d p l e R s m args below meth c Q 4 P x := by
  unfold k_Mo_take_3
  refine z_k (S_bald cx (by decide +kernel)) ?_
  refine z_k (S_iload_n cx (k := 1) (by decide +kernel) rfl) ?_
  refine z_k (S_icmp_eq cx (off := 7) (by decide +kernel) (by decide)) ?_
  refine z_k (S_push cx (n := 1) (by decide +kernel) (by decide)) ?_
  refine z_k (S_goto cx (off := 4) (by decide +kernel) (by decide)) ?_
  refine z_k (S_push cx (n := 0) (by decide +kernel) (by decide)) ?_
  refine z_k (S_putf cx (T := F_Mo) (N := 43) (k := 42) (ty := t_Mo) rfl in_Mo t_Mo_ok n_Mo (by decide) rfl w_570 rfl (Or.inr (Or.inl ⟨rfl, rfl⟩)) (by decide +kernel)) ?_
  refine z_k (S_iload_n cx (k := 3) (by decide +kernel) rfl) ?_
  refine z_k (S_iret (hf.2.1 rfl) (by decide +kernel)) ?_
  exact z_k0
theorem s_Mo_take : z_snd zTab r_Mo_take := ⟨by decide +kernel, w_764, fun g d p l e R s m args below meth c Q P cx hn hf => z_k (s_Mo_take_0 cx hn hf) (z_k (s_Mo_take_1 cx hn hf) (z_k (s_Mo_take_2 cx hn hf) (z_k (s_Mo_take_3 cx hn hf) (z_k0))))⟩
set_option maxRecDepth 100000 in
set_option maxHeartbeats 4000000 in
theorem s_Mo_start_0 (cx : z_cx zTab g d p l e R s m args below meth c prog_8_method_18_code "SealedTalksModel" 9) (hn : meth.name = "start") (hf : z_fin g p l e R s m args below meth c Q prog_8_method_18_code P (some .int)) : ∀ x ∈ k_Mo_start_0, z_sn zTab g d p l e R s m args below meth c Q 9 P x := by
  unfold k_Mo_start_0
  refine z_k (S_iload_n cx (k := 1) (by decide +kernel) rfl) ?_
  refine z_k (S_push cx (n := 0) (by decide +kernel) (by decide)) ?_
  refine z_k (S_push cx (n := 1) (by decide +kernel) (by decide)) ?_
  refine z_k (S_callS cx (r := r_Mo_within) rfl ⟨w_666, w_4, by decide, by decide +kernel⟩ w_664 w_665 (by decide +kernel)) ?_
  refine z_k (S_if_eq cx (off := 33) (by decide +kernel) (by decide)) ?_
  refine z_k (S_iload_n cx (k := 3) (by decide +kernel) rfl) ?_
  refine z_k (S_push cx (n := 1) (by decide +kernel) (by decide)) ?_
  refine z_k (S_bipush cx (n := 8) (by decide +kernel) (by decide)) ?_
  refine z_k (S_callS cx (r := r_Mo_within) rfl ⟨w_666, w_4, by decide, by decide +kernel⟩ w_664 w_665 (by decide +kernel)) ?_
  refine z_k (S_if_eq cx (off := 23) (by decide +kernel) (by decide)) ?_
  refine z_k (S_iload_n cx (k := 2) (by decide +kernel) rfl) ?_
  refine z_k (S_if_eq cx (off := 21) (by decide +kernel) (by decide)) ?_
  refine z_k (S_iload_n cx (k := 1) (by decide +kernel) rfl) ?_
  refine z_k (S_push cx (n := 1) (by decide +kernel) (by decide)) ?_
  refine z_k (S_icmp_ne cx (off := 16) (by decide +kernel) (by decide)) ?_
  refine z_k (S_iload cx (by decide +kernel)) ?_
  refine z_k (S_push cx (n := 1) (by decide +kernel) (by decide)) ?_
  refine z_k (S_bipush cx (n := 8) (by decide +kernel) (by decide)) ?_
  refine z_k (S_callS cx (r := r_Mo_within) rfl ⟨w_666, w_4, by decide, by decide +kernel⟩ w_664 w_665 (by decide +kernel)) ?_
  refine z_k (S_if_ne cx (off := 5) (by decide +kernel) (by decide)) ?_
  refine z_k (S_push cx (n := -1) (by decide +kernel) (by decide)) ?_
  refine z_k (S_iret (hf.2.1 rfl) (by decide +kernel)) ?_
  refine z_k (S_aload_n cx (k := 0) (by decide +kernel) rfl) ?_
  refine z_k (S_getf cx (T := F_Mo) (N := 43) (k := 12) rfl in_Mo (by decide) rfl w_540 (by decide +kernel)) ?_
  exact z_k0
set_option maxRecDepth 100000 in
set_option maxHeartbeats 4000000 in
theorem s_Mo_start_1 (cx : z_cx zTab g d p l e R s m args below meth c prog_8_method_18_code "SealedTalksModel" 9) (hn : meth.name = "start") (hf : z_fin g p l e R s m args below meth c Q prog_8_method_18_code P (some .int)) : ∀ x ∈ k_Mo_start_1, z_sn zTab g d p l e R s m args below meth c Q 9 P x := by
  unfold k_Mo_start_1
  refine z_k (S_bipush cx (n := 12) (by decide +kernel) (by decide)) ?_
  refine z_k (S_icmp_ne cx (off := 6) (by decide +kernel) (by decide)) ?_
  refine z_k (S_bipush cx (n := -4) (by decide +kernel) (by decide)) ?_
  refine z_k (S_iret (hf.2.1 rfl) (by decide +kernel)) ?_
  refine z_k (S_aload_n cx (k := 0) (by decide +kernel) rfl) ?_
  refine z_k (S_getf cx (T := F_Mo) (N := 43) (k := 12) rfl in_Mo (by decide) rfl w_540 (by decide +kernel)) ?_
  refine z_k (S_istore cx (by decide) (by decide +kernel)) ?_
  refine z_k (S_aload_n cx (k := 0) (by decide +kernel) rfl) ?_
  refine z_k (S_dup cx (by decide +kernel)) ?_
  refine z_k (S_getf cx (T := F_Mo) (N := 43) (k := 12) rfl in_Mo (by decide) rfl w_540 (by decide +kernel)) ?_
  refine z_k (S_push cx (n := 1) (by decide +kernel) (by decide)) ?_
  refine z_k (S_iadd cx (by decide +kernel)) ?_
  refine z_k (S_putf cx (T := F_Mo) (N := 43) (k := 12) (ty := t_Mo) rfl in_Mo t_Mo_ok n_Mo (by decide) rfl w_540 rfl (Or.inl ⟨rfl, rfl⟩) (by decide +kernel)) ?_
  refine z_k (S_aload_n cx (k := 0) (by decide +kernel) rfl) ?_
  refine z_k (S_getf cx (T := F_Mo) (N := 43) (k := 13) rfl in_Mo (by decide) rfl w_541 (by decide +kernel)) ?_
  refine z_k (S_iload cx (by decide +kernel)) ?_
  refine z_k (S_iload_n cx (k := 1) (by decide +kernel) rfl) ?_
  refine z_k (S_iast cx (by decide +kernel)) ?_
  refine z_k (S_aload_n cx (k := 0) (by decide +kernel) rfl) ?_
  refine z_k (S_getf cx (T := F_Mo) (N := 43) (k := 14) rfl in_Mo (by decide) rfl w_542 (by decide +kernel)) ?_
  refine z_k (S_iload cx (by decide +kernel)) ?_
  refine z_k (S_iload_n cx (k := 2) (by decide +kernel) rfl) ?_
  refine z_k (S_zast cx (by decide +kernel)) ?_
  refine z_k (S_aload_n cx (k := 0) (by decide +kernel) rfl) ?_
  exact z_k0
set_option maxRecDepth 100000 in
set_option maxHeartbeats 4000000 in
theorem s_Mo_start_2 (cx : z_cx zTab g d p l e R s m args below meth c prog_8_method_18_code "SealedTalksModel" 9) (hn : meth.name = "start") (hf : z_fin g p l e R s m args below meth c Q prog_8_method_18_code P (some .int)) : ∀ x ∈ k_Mo_start_2, z_sn zTab g d p l e R s m args below meth c Q 9 P x := by
  unfold k_Mo_start_2
  refine z_k (S_getf cx (T := F_Mo) (N := 43) (k := 15) rfl in_Mo (by decide) rfl w_543 (by decide +kernel)) ?_
  refine z_k (S_iload cx (by decide +kernel)) ?_
  refine z_k (S_iload_n cx (k := 3) (by decide +kernel) rfl) ?_
  refine z_k (S_iast cx (by decide +kernel)) ?_
  refine z_k (S_aload_n cx (k := 0) (by decide +kernel) rfl) ?_
  refine z_k (S_getf cx (T := F_Mo) (N := 43) (k := 18) rfl in_Mo (by decide) rfl w_546 (by decide +kernel)) ?_
  refine z_k (S_iload cx (by decide +kernel)) ?_
  refine z_k (S_iload_n cx (k := 2) (by decide +kernel) rfl) ?_
  refine z_k (S_if_eq cx (off := 13) (by decide +kernel) (by decide)) ?_
  refine z_k (S_iload_n cx (k := 1) (by decide +kernel) rfl) ?_
  refine z_k (S_push cx (n := 1) (by decide +kernel) (by decide)) ?_
  refine z_k (S_icmp_ne cx (off := 8) (by decide +kernel) (by decide)) ?_
  refine z_k (S_iload cx (by decide +kernel)) ?_
  refine z_k (S_goto cx (off := 4) (by decide +kernel) (by decide)) ?_
  refine z_k (S_push cx (n := 0) (by decide +kernel) (by decide)) ?_
  refine z_k (S_iast cx (by decide +kernel)) ?_
  refine z_k (S_aload_n cx (k := 0) (by decide +kernel) rfl) ?_
  refine z_k (S_getf cx (T := F_Mo) (N := 43) (k := 20) rfl in_Mo (by decide) rfl w_548 (by decide +kernel)) ?_
  refine z_k (S_iload cx (by decide +kernel)) ?_
  refine z_k (S_aload_n cx (k := 0) (by decide +kernel) rfl) ?_
  refine z_k (S_iload_n cx (k := 1) (by decide +kernel) rfl) ?_
  refine z_k (S_callV cx (T := F_Mo) (N := 43) (r := r_Mo_num) rfl ⟨w_670, w_4, by decide, by decide +kernel⟩ w_667 w_669 wp_13 rfl (by decide +kernel)) ?_
  refine z_k (S_iast cx (by decide +kernel)) ?_
  refine z_k (S_aload_n cx (k := 0) (by decide +kernel) rfl) ?_
  exact z_k0
set_option maxRecDepth 100000 in
set_option maxHeartbeats 4000000 in
theorem s_Mo_start_3 (cx : z_cx zTab g d p l e R s m args below meth c prog_8_method_18_code "SealedTalksModel" 9) (hn : meth.name = "start") (hf : z_fin g p l e R s m args below meth c Q prog_8_method_18_code P (some .int)) : ∀ x ∈ k_Mo_start_3, z_sn zTab g d p l e R s m args below meth c Q 9 P x := by
  unfold k_Mo_start_3
  refine z_k (S_iload cx (by decide +kernel)) ?_
  refine z_k (S_callV cx (T := F_Mo) (N := 43) (r := r_Mo_num) rfl ⟨w_670, w_4, by decide, by decide +kernel⟩ w_667 w_669 wp_13 rfl (by decide +kernel)) ?_
  refine z_k (S_istore cx (by decide) (by decide +kernel)) ?_
  refine z_k (S_aload_n cx (k := 0) (by decide +kernel) rfl) ?_
  refine z_k (S_getf cx (T := F_Mo) (N := 43) (k := 19) rfl in_Mo (by decide) rfl w_547 (by decide +kernel)) ?_
  refine z_k (S_iload cx (by decide +kernel)) ?_
  refine z_k (S_aload_n cx (k := 0) (by decide +kernel) rfl) ?_
  refine z_k (S_push cx (n := 4) (by decide +kernel) (by decide)) ?_
  refine z_k (S_aload_n cx (k := 0) (by decide +kernel) rfl) ?_
  refine z_k (S_getf cx (T := F_Mo) (N := 43) (k := 20) rfl in_Mo (by decide) rfl w_548 (by decide +kernel)) ?_
  refine z_k (S_iload cx (by decide +kernel)) ?_
  refine z_k (S_iald cx (by decide +kernel)) ?_
  refine z_k (S_iload cx (by decide +kernel)) ?_
  refine z_k (S_callV cx (T := F_Mo) (N := 43) (r := r_Mo_two) rfl ⟨w_678, w_4, by decide, by decide +kernel⟩ w_675 w_677 wp_15 rfl (by decide +kernel)) ?_
  refine z_k (S_iast cx (by decide +kernel)) ?_
  refine z_k (S_iload_n cx (k := 1) (by decide +kernel) rfl) ?_
  refine z_k (S_push cx (n := 1) (by decide +kernel) (by decide)) ?_
  refine z_k (S_icmp_ne cx (off := 40) (by decide +kernel) (by decide)) ?_
  refine z_k (S_aload_n cx (k := 0) (by decide +kernel) rfl) ?_
  refine z_k (S_iload_n cx (k := 2) (by decide +kernel) rfl) ?_
  refine z_k (S_if_eq cx (off := 8) (by decide +kernel) (by decide)) ?_
  refine z_k (S_iload cx (by decide +kernel)) ?_
  refine z_k (S_goto cx (off := 4) (by decide +kernel) (by decide)) ?_
  refine z_k (S_iload_n cx (k := 3) (by decide +kernel) rfl) ?_
  exact z_k0
set_option maxRecDepth 100000 in
set_option maxHeartbeats 4000000 in
theorem s_Mo_start_4 (cx : z_cx zTab g d p l e R s m args below meth c prog_8_method_18_code "SealedTalksModel" 9) (hn : meth.name = "start") (hf : z_fin g p l e R s m args below meth c Q prog_8_method_18_code P (some .int)) : ∀ x ∈ k_Mo_start_4, z_sn zTab g d p l e R s m args below meth c Q 9 P x := by
  unfold k_Mo_start_4
  refine z_k (S_callV cx (T := F_Mo) (N := 43) (r := r_Mo_pub) rfl ⟨w_682, w_4, by decide, by decide +kernel⟩ w_679 w_681 wp_16 rfl (by decide +kernel)) ?_
  refine z_k (S_istore cx (by decide) (by decide +kernel)) ?_
  refine z_k (S_aload_n cx (k := 0) (by decide +kernel) rfl) ?_
  refine z_k (S_getf cx (T := F_Mo) (N := 43) (k := 19) rfl in_Mo (by decide) rfl w_547 (by decide +kernel)) ?_
  refine z_k (S_iload cx (by decide +kernel)) ?_
  refine z_k (S_aload_n cx (k := 0) (by decide +kernel) rfl) ?_
  refine z_k (S_push cx (n := 4) (by decide +kernel) (by decide)) ?_
  refine z_k (S_aload_n cx (k := 0) (by decide +kernel) rfl) ?_
  refine z_k (S_getf cx (T := F_Mo) (N := 43) (k := 19) rfl in_Mo (by decide) rfl w_547 (by decide +kernel)) ?_
  refine z_k (S_iload cx (by decide +kernel)) ?_
  refine z_k (S_iald cx (by decide +kernel)) ?_
  refine z_k (S_iload cx (by decide +kernel)) ?_
  refine z_k (S_callV cx (T := F_Mo) (N := 43) (r := r_Mo_two) rfl ⟨w_678, w_4, by decide, by decide +kernel⟩ w_675 w_677 wp_15 rfl (by decide +kernel)) ?_
  refine z_k (S_iast cx (by decide +kernel)) ?_
  refine z_k (S_aload_n cx (k := 0) (by decide +kernel) rfl) ?_
  refine z_k (S_getf cx (T := F_Mo) (N := 43) (k := 21) rfl in_Mo (by decide) rfl w_549 (by decide +kernel)) ?_
  refine z_k (S_iload cx (by decide +kernel)) ?_
  refine z_k (S_push cx (n := -1) (by decide +kernel) (by decide)) ?_
  refine z_k (S_iast cx (by decide +kernel)) ?_
  refine z_k (S_aload_n cx (k := 0) (by decide +kernel) rfl) ?_
  refine z_k (S_getf cx (T := F_Mo) (N := 43) (k := 29) rfl in_Mo (by decide) rfl w_557 (by decide +kernel)) ?_
  refine z_k (S_iload cx (by decide +kernel)) ?_
  refine z_k (S_push cx (n := -1) (by decide +kernel) (by decide)) ?_
  refine z_k (S_iast cx (by decide +kernel)) ?_
  exact z_k0
set_option maxRecDepth 100000 in
set_option maxHeartbeats 4000000 in
theorem s_Mo_start_5 (cx : z_cx zTab g d p l e R s m args below meth c prog_8_method_18_code "SealedTalksModel" 9) (hn : meth.name = "start") (hf : z_fin g p l e R s m args below meth c Q prog_8_method_18_code P (some .int)) : ∀ x ∈ k_Mo_start_5, z_sn zTab g d p l e R s m args below meth c Q 9 P x := by
  unfold k_Mo_start_5
  refine z_k (S_iload cx (by decide +kernel)) ?_
  refine z_k (S_iret (hf.2.1 rfl) (by decide +kernel)) ?_
  exact z_k0
theorem s_Mo_start : z_snd zTab r_Mo_start := ⟨by decide +kernel, w_663, fun g d p l e R s m args below meth c Q P cx hn hf => z_k (s_Mo_start_0 cx hn hf) (z_k (s_Mo_start_1 cx hn hf) (z_k (s_Mo_start_2 cx hn hf) (z_k (s_Mo_start_3 cx hn hf) (z_k (s_Mo_start_4 cx hn hf) (z_k (s_Mo_start_5 cx hn hf) (z_k0))))))⟩
set_option maxRecDepth 100000 in
set_option maxHeartbeats 4000000 in
theorem s_Mo_isSession_0 (cx : z_cx zTab g d p l e R s m args below meth c prog_8_method_19_code "SealedTalksModel" 2) (hn : meth.name = "isSession") (hf : z_fin g p l e R s m args below meth c Q prog_8_method_19_code P (some .boolean)) : ∀ x ∈ k_Mo_isSession_0, z_sn zTab g d p l e R s m args below meth c Q 2 P x := by
  unfold k_Mo_isSession_0
  refine z_k (S_iload_n cx (k := 1) (by decide +kernel) rfl) ?_
  refine z_k (S_push cx (n := 0) (by decide +kernel) (by decide)) ?_
  refine z_k (S_aload_n cx (k := 0) (by decide +kernel) rfl) ?_
  refine z_k (S_getf cx (T := F_Mo) (N := 43) (k := 12) rfl in_Mo (by decide) rfl w_540 (by decide +kernel)) ?_
  refine z_k (S_push cx (n := 1) (by decide +kernel) (by decide)) ?_
  refine z_k (S_isub cx (by decide +kernel)) ?_
  refine z_k (S_callS cx (r := r_Mo_within) rfl ⟨w_666, w_4, by decide, by decide +kernel⟩ w_664 w_665 (by decide +kernel)) ?_
  refine z_k (S_zret (hf.2.2.1 rfl) (by decide +kernel)) ?_
  exact z_k0
theorem s_Mo_isSession : z_snd zTab r_Mo_isSession := ⟨by decide +kernel, w_690, fun g d p l e R s m args below meth c Q P cx hn hf => z_k (s_Mo_isSession_0 cx hn hf) (z_k0)⟩
set_option maxRecDepth 100000 in
set_option maxHeartbeats 4000000 in
theorem s_Mo_isDone_0 (cx : z_cx zTab g d p l e R s m args below meth c prog_8_method_20_code "SealedTalksModel" 2) (hn : meth.name = "isDone") (hf : z_fin g p l e R s m args below meth c Q prog_8_method_20_code P (some .boolean)) : ∀ x ∈ k_Mo_isDone_0, z_sn zTab g d p l e R s m args below meth c Q 2 P x := by
  unfold k_Mo_isDone_0
  refine z_k (S_aload_n cx (k := 0) (by decide +kernel) rfl) ?_
  refine z_k (S_getf cx (T := F_Mo) (N := 43) (k := 23) rfl in_Mo (by decide) rfl w_551 (by decide +kernel)) ?_
  refine z_k (S_iload_n cx (k := 1) (by decide +kernel) rfl) ?_
  refine z_k (S_iald cx (by decide +kernel)) ?_
  refine z_k (S_aload_n cx (k := 0) (by decide +kernel) rfl) ?_
  refine z_k (S_getf cx (T := F_Mo) (N := 43) (k := 13) rfl in_Mo (by decide) rfl w_541 (by decide +kernel)) ?_
  refine z_k (S_iload_n cx (k := 1) (by decide +kernel) rfl) ?_
  refine z_k (S_iald cx (by decide +kernel)) ?_
  refine z_k (S_callS cx (r := r_Mo_last) rfl ⟨w_697, w_4, by decide, by decide +kernel⟩ w_695 w_696 (by decide +kernel)) ?_
  refine z_k (S_icmp_ne cx (off := 7) (by decide +kernel) (by decide)) ?_
  refine z_k (S_push cx (n := 1) (by decide +kernel) (by decide)) ?_
  refine z_k (S_goto cx (off := 4) (by decide +kernel) (by decide)) ?_
  refine z_k (S_push cx (n := 0) (by decide +kernel) (by decide)) ?_
  refine z_k (S_zret (hf.2.2.1 rfl) (by decide +kernel)) ?_
  exact z_k0
theorem s_Mo_isDone : z_snd zTab r_Mo_isDone := ⟨by decide +kernel, w_694, fun g d p l e R s m args below meth c Q P cx hn hf => z_k (s_Mo_isDone_0 cx hn hf) (z_k0)⟩
set_option maxRecDepth 100000 in
set_option maxHeartbeats 4000000 in
theorem s_Mo_writes_0 (cx : z_cx zTab g d p l e R s m args below meth c prog_8_method_21_code "SealedTalksModel" 2) (hn : meth.name = "writes") (hf : z_fin g p l e R s m args below meth c Q prog_8_method_21_code P (some .boolean)) : ∀ x ∈ k_Mo_writes_0, z_sn zTab g d p l e R s m args below meth c Q 2 P x := by
  unfold k_Mo_writes_0
  refine z_k (S_aload_n cx (k := 0) (by decide +kernel) rfl) ?_
  refine z_k (S_getf cx (T := F_Mo) (N := 43) (k := 23) rfl in_Mo (by decide) rfl w_551 (by decide +kernel)) ?_
  refine z_k (S_iload_n cx (k := 1) (by decide +kernel) rfl) ?_
  refine z_k (S_iald cx (by decide +kernel)) ?_
  refine z_k (S_push cx (n := 2) (by decide +kernel) (by decide)) ?_
  refine z_k (S_irem cx (by decide +kernel)) ?_
  refine z_k (S_if_ne cx (off := 7) (by decide +kernel) (by decide)) ?_
  refine z_k (S_push cx (n := 1) (by decide +kernel) (by decide)) ?_
  refine z_k (S_goto cx (off := 4) (by decide +kernel) (by decide)) ?_
  refine z_k (S_push cx (n := 0) (by decide +kernel) (by decide)) ?_
  refine z_k (S_aload_n cx (k := 0) (by decide +kernel) rfl) ?_
  refine z_k (S_getf cx (T := F_Mo) (N := 43) (k := 14) rfl in_Mo (by decide) rfl w_542 (by decide +kernel)) ?_
  refine z_k (S_iload_n cx (k := 1) (by decide +kernel) rfl) ?_
  refine z_k (S_zald cx (by decide +kernel)) ?_
  refine z_k (S_icmp_ne cx (off := 7) (by decide +kernel) (by decide)) ?_
  refine z_k (S_push cx (n := 1) (by decide +kernel) (by decide)) ?_
  refine z_k (S_goto cx (off := 4) (by decide +kernel) (by decide)) ?_
  refine z_k (S_push cx (n := 0) (by decide +kernel) (by decide)) ?_
  refine z_k (S_zret (hf.2.2.1 rfl) (by decide +kernel)) ?_
  exact z_k0
theorem s_Mo_writes : z_snd zTab r_Mo_writes := ⟨by decide +kernel, w_701, fun g d p l e R s m args below meth c Q P cx hn hf => z_k (s_Mo_writes_0 cx hn hf) (z_k0)⟩
set_option maxRecDepth 100000 in
set_option maxHeartbeats 4000000 in
theorem s_Mo_newMessage_0 (cx : z_cx zTab g d p l e R s m args below meth c prog_8_method_22_code "SealedTalksModel" 3) (hn : meth.name = "newMessage") (hf : z_fin g p l e R s m args below meth c Q prog_8_method_22_code P (some .int)) : ∀ x ∈ k_Mo_newMessage_0, z_sn zTab g d p l e R s m args below meth c Q 3 P x := by
  unfold k_Mo_newMessage_0
  refine z_k (S_aload_n cx (k := 0) (by decide +kernel) rfl) ?_
  refine z_k (S_getf cx (T := F_Mo) (N := 43) (k := 8) rfl in_Mo (by decide) rfl w_536 (by decide +kernel)) ?_
  refine z_k (S_aload_n cx (k := 0) (by decide +kernel) rfl) ?_
  refine z_k (S_getf cx (T := F_Mo) (N := 43) (k := 7) rfl in_Mo (by decide) rfl w_535 (by decide +kernel)) ?_
  refine z_k (S_iload_n cx (k := 1) (by decide +kernel) rfl) ?_
  refine z_k (S_iast cx (by decide +kernel)) ?_
  refine z_k (S_push cx (n := 0) (by decide +kernel) (by decide)) ?_
  refine z_k (S_istore_n cx (by decide) (k := 2) (by decide +kernel) rfl) ?_
  refine z_k (S_iload_n cx (k := 2) (by decide +kernel) rfl) ?_
  refine z_k (S_iload_n cx (k := 1) (by decide +kernel) rfl) ?_
  refine z_k (S_icmp_ge cx (off := 28) (by decide +kernel) (by decide)) ?_
  refine z_k (S_aload_n cx (k := 0) (by decide +kernel) rfl) ?_
  refine z_k (S_getf cx (T := F_Mo) (N := 43) (k := 9) rfl in_Mo (by decide) rfl w_537 (by decide +kernel)) ?_
  refine z_k (S_push cx (n := 3) (by decide +kernel) (by decide)) ?_
  refine z_k (S_aload_n cx (k := 0) (by decide +kernel) rfl) ?_
  refine z_k (S_getf cx (T := F_Mo) (N := 43) (k := 7) rfl in_Mo (by decide) rfl w_535 (by decide +kernel)) ?_
  refine z_k (S_imul cx (by decide +kernel)) ?_
  refine z_k (S_iload_n cx (k := 2) (by decide +kernel) rfl) ?_
  refine z_k (S_iadd cx (by decide +kernel)) ?_
  refine z_k (S_aload_n cx (k := 0) (by decide +kernel) rfl) ?_
  refine z_k (S_getf cx (T := F_Mo) (N := 43) (k := 40) rfl in_Mo (by decide) rfl w_568 (by decide +kernel)) ?_
  refine z_k (S_iload_n cx (k := 2) (by decide +kernel) rfl) ?_
  refine z_k (S_iald cx (by decide +kernel)) ?_
  refine z_k (S_iast cx (by decide +kernel)) ?_
  exact z_k0
set_option maxRecDepth 100000 in
set_option maxHeartbeats 4000000 in
theorem s_Mo_newMessage_1 (cx : z_cx zTab g d p l e R s m args below meth c prog_8_method_22_code "SealedTalksModel" 3) (hn : meth.name = "newMessage") (hf : z_fin g p l e R s m args below meth c Q prog_8_method_22_code P (some .int)) : ∀ x ∈ k_Mo_newMessage_1, z_sn zTab g d p l e R s m args below meth c Q 3 P x := by
  unfold k_Mo_newMessage_1
  refine z_k (S_iinc cx (n := 1) (by decide) (by decide +kernel) (by decide)) ?_
  refine z_k (S_goto cx (off := -27) (by decide +kernel) (by decide)) ?_
  refine z_k (S_aload_n cx (k := 0) (by decide +kernel) rfl) ?_
  refine z_k (S_dup cx (by decide +kernel)) ?_
  refine z_k (S_getf cx (T := F_Mo) (N := 43) (k := 7) rfl in_Mo (by decide) rfl w_535 (by decide +kernel)) ?_
  refine z_k (S_push cx (n := 1) (by decide +kernel) (by decide)) ?_
  refine z_k (S_iadd cx (by decide +kernel)) ?_
  refine z_k (S_putf cx (T := F_Mo) (N := 43) (k := 7) (ty := t_Mo) rfl in_Mo t_Mo_ok n_Mo (by decide) rfl w_535 rfl (Or.inl ⟨rfl, rfl⟩) (by decide +kernel)) ?_
  refine z_k (S_aload_n cx (k := 0) (by decide +kernel) rfl) ?_
  refine z_k (S_getf cx (T := F_Mo) (N := 43) (k := 7) rfl in_Mo (by decide) rfl w_535 (by decide +kernel)) ?_
  refine z_k (S_push cx (n := 1) (by decide +kernel) (by decide)) ?_
  refine z_k (S_isub cx (by decide +kernel)) ?_
  refine z_k (S_iret (hf.2.1 rfl) (by decide +kernel)) ?_
  exact z_k0
theorem s_Mo_newMessage : z_snd zTab r_Mo_newMessage := ⟨by decide +kernel, w_732, fun g d p l e R s m args below meth c Q P cx hn hf => z_k (s_Mo_newMessage_0 cx hn hf) (z_k (s_Mo_newMessage_1 cx hn hf) (z_k0))⟩
end ZR41
end
section
/-! Each method of SealedTalksModel is sound (2). By program. -/
section ZR42
variable {g : zG} {d : Nat} {p : Program} {l : Launch} {e : Env} {R : Room} {s : State} {m : MethodId} {args : Array Value} {below : List Frame} {meth : Method} {c : Code} {Q : State → Prop} {P : zP}
set_option maxRecDepth 100000 in
set_option maxHeartbeats 4000000 in
theorem s_Mo_write_0 (cx : z_cx zTab g d p l e R s m args below meth c prog_8_method_23_code "SealedTalksModel" 6) (hn : meth.name = "write") (hf : z_fin g p l e R s m args below meth c Q prog_8_method_23_code P (some .int)) : ∀ x ∈ k_Mo_write_0, z_sn zTab g d p l e R s m args below meth c Q 6 P x := by
  unfold k_Mo_write_0
  refine z_k (S_aload_n cx (k := 0) (by decide +kernel) rfl) ?_
  refine z_k (S_iload_n cx (k := 1) (by decide +kernel) rfl) ?_
  refine z_k (S_callV cx (T := F_Mo) (N := 43) (r := r_Mo_isSession) rfl ⟨w_690, w_4, by decide, by decide +kernel⟩ w_687 w_689 wp_17 rfl (by decide +kernel)) ?_
  refine z_k (S_if_ne cx (off := 5) (by decide +kernel) (by decide)) ?_
  refine z_k (S_push cx (n := -1) (by decide +kernel) (by decide)) ?_
  refine z_k (S_iret (hf.2.1 rfl) (by decide +kernel)) ?_
  refine z_k (S_aload_n cx (k := 0) (by decide +kernel) rfl) ?_
  refine z_k (S_getf cx (T := F_Mo) (N := 43) (k := 24) rfl in_Mo (by decide) rfl w_552 (by decide +kernel)) ?_
  refine z_k (S_iload_n cx (k := 1) (by decide +kernel) rfl) ?_
  refine z_k (S_zald cx (by decide +kernel)) ?_
  refine z_k (S_if_eq cx (off := 6) (by decide +kernel) (by decide)) ?_
  refine z_k (S_bipush cx (n := -2) (by decide +kernel) (by decide)) ?_
  refine z_k (S_iret (hf.2.1 rfl) (by decide +kernel)) ?_
  refine z_k (S_aload_n cx (k := 0) (by decide +kernel) rfl) ?_
  refine z_k (S_iload_n cx (k := 1) (by decide +kernel) rfl) ?_
  refine z_k (S_callV cx (T := F_Mo) (N := 43) (r := r_Mo_isDone) rfl ⟨w_694, w_4, by decide, by decide +kernel⟩ w_691 w_693 wp_18 rfl (by decide +kernel)) ?_
  refine z_k (S_if_ne cx (off := 11) (by decide +kernel) (by decide)) ?_
  refine z_k (S_aload_n cx (k := 0) (by decide +kernel) rfl) ?_
  refine z_k (S_iload_n cx (k := 1) (by decide +kernel) rfl) ?_
  refine z_k (S_callV cx (T := F_Mo) (N := 43) (r := r_Mo_writes) rfl ⟨w_701, w_4, by decide, by decide +kernel⟩ w_698 w_700 wp_19 rfl (by decide +kernel)) ?_
  refine z_k (S_if_ne cx (off := 6) (by decide +kernel) (by decide)) ?_
  refine z_k (S_bipush cx (n := -3) (by decide +kernel) (by decide)) ?_
  refine z_k (S_iret (hf.2.1 rfl) (by decide +kernel)) ?_
  refine z_k (S_aload_n cx (k := 0) (by decide +kernel) rfl) ?_
  exact z_k0
set_option maxRecDepth 100000 in
set_option maxHeartbeats 4000000 in
theorem s_Mo_write_1 (cx : z_cx zTab g d p l e R s m args below meth c prog_8_method_23_code "SealedTalksModel" 6) (hn : meth.name = "write") (hf : z_fin g p l e R s m args below meth c Q prog_8_method_23_code P (some .int)) : ∀ x ∈ k_Mo_write_1, z_sn zTab g d p l e R s m args below meth c Q 6 P x := by
  unfold k_Mo_write_1
  refine z_k (S_getf cx (T := F_Mo) (N := 43) (k := 7) rfl in_Mo (by decide) rfl w_535 (by decide +kernel)) ?_
  refine z_k (S_bipush cx (n := 60) (by decide +kernel) (by decide)) ?_
  refine z_k (S_icmp_ne cx (off := 6) (by decide +kernel) (by decide)) ?_
  refine z_k (S_bipush cx (n := -4) (by decide +kernel) (by decide)) ?_
  refine z_k (S_iret (hf.2.1 rfl) (by decide +kernel)) ?_
  refine z_k (S_aload_n cx (k := 0) (by decide +kernel) rfl) ?_
  refine z_k (S_iload_n cx (k := 1) (by decide +kernel) rfl) ?_
  refine z_k (S_callV cx (T := F_Mo) (N := 43) (r := r_Mo_load) rfl ⟨w_705, w_4, by decide, by decide +kernel⟩ w_702 w_704 wp_20 rfl (by decide +kernel)) ?_
  refine z_k (S_aload_n cx (k := 0) (by decide +kernel) rfl) ?_
  refine z_k (S_push cx (n := 0) (by decide +kernel) (by decide)) ?_
  refine z_k (S_putf cx (T := F_Mo) (N := 43) (k := 39) (ty := t_Mo) rfl in_Mo t_Mo_ok n_Mo (by decide) rfl w_567 rfl (Or.inl ⟨rfl, rfl⟩) (by decide +kernel)) ?_
  refine z_k (S_push cx (n := 0) (by decide +kernel) (by decide)) ?_
  refine z_k (S_istore_n cx (by decide) (k := 3) (by decide +kernel) rfl) ?_
  refine z_k (S_iload_n cx (k := 3) (by decide +kernel) rfl) ?_
  refine z_k (S_push cx (n := 4) (by decide +kernel) (by decide)) ?_
  refine z_k (S_icmp_ge cx (off := 112) (by decide +kernel) (by decide)) ?_
  refine z_k (S_aload_n cx (k := 0) (by decide +kernel) rfl) ?_
  refine z_k (S_getf cx (T := F_Mo) (N := 43) (k := 13) rfl in_Mo (by decide) rfl w_541 (by decide +kernel)) ?_
  refine z_k (S_iload_n cx (k := 1) (by decide +kernel) rfl) ?_
  refine z_k (S_iald cx (by decide +kernel)) ?_
  refine z_k (S_aload_n cx (k := 0) (by decide +kernel) rfl) ?_
  refine z_k (S_getf cx (T := F_Mo) (N := 43) (k := 23) rfl in_Mo (by decide) rfl w_551 (by decide +kernel)) ?_
  refine z_k (S_iload_n cx (k := 1) (by decide +kernel) rfl) ?_
  refine z_k (S_iald cx (by decide +kernel)) ?_
  exact z_k0
set_option maxRecDepth 100000 in
set_option maxHeartbeats 4000000 in
theorem s_Mo_write_2 (cx : z_cx zTab g d p l e R s m args below meth c prog_8_method_23_code "SealedTalksModel" 6) (hn : meth.name = "write") (hf : z_fin g p l e R s m args below meth c Q prog_8_method_23_code P (some .int)) : ∀ x ∈ k_Mo_write_2, z_sn zTab g d p l e R s m args below meth c Q 6 P x := by
  unfold k_Mo_write_2
  refine z_k (S_iload_n cx (k := 3) (by decide +kernel) rfl) ?_
  refine z_k (S_callS cx (r := r_Mo_token) rfl ⟨w_708, w_4, by decide, by decide +kernel⟩ w_706 w_707 (by decide +kernel)) ?_
  refine z_k (S_istore cx (by decide) (by decide +kernel)) ?_
  refine z_k (S_iload cx (by decide +kernel)) ?_
  refine z_k (S_push cx (n := 1) (by decide +kernel) (by decide)) ?_
  refine z_k (S_icmp_ne cx (off := 43) (by decide +kernel) (by decide)) ?_
  refine z_k (S_aload_n cx (k := 0) (by decide +kernel) rfl) ?_
  refine z_k (S_dup cx (by decide +kernel)) ?_
  refine z_k (S_getf cx (T := F_Mo) (N := 43) (k := 10) rfl in_Mo (by decide) rfl w_538 (by decide +kernel)) ?_
  refine z_k (S_push cx (n := 1) (by decide +kernel) (by decide)) ?_
  refine z_k (S_iadd cx (by decide +kernel)) ?_
  refine z_k (S_putf cx (T := F_Mo) (N := 43) (k := 10) (ty := t_Mo) rfl in_Mo t_Mo_ok n_Mo (by decide) rfl w_538 rfl (Or.inl ⟨rfl, rfl⟩) (by decide +kernel)) ?_
  refine z_k (S_aload_n cx (k := 0) (by decide +kernel) rfl) ?_
  refine z_k (S_bipush cx (n := 8) (by decide +kernel) (by decide)) ?_
  refine z_k (S_aload_n cx (k := 0) (by decide +kernel) rfl) ?_
  refine z_k (S_getf cx (T := F_Mo) (N := 43) (k := 10) rfl in_Mo (by decide) rfl w_538 (by decide +kernel)) ?_
  refine z_k (S_iadd cx (by decide +kernel)) ?_
  refine z_k (S_putf cx (T := F_Mo) (N := 43) (k := 36) (ty := t_Mo) rfl in_Mo t_Mo_ok n_Mo (by decide) rfl w_564 rfl (Or.inl ⟨rfl, rfl⟩) (by decide +kernel)) ?_
  refine z_k (S_aload_n cx (k := 0) (by decide +kernel) rfl) ?_
  refine z_k (S_aload_n cx (k := 0) (by decide +kernel) rfl) ?_
  refine z_k (S_getf cx (T := F_Mo) (N := 43) (k := 36) rfl in_Mo (by decide) rfl w_564 (by decide +kernel)) ?_
  refine z_k (S_callV cx (T := F_Mo) (N := 43) (r := r_Mo_pub) rfl ⟨w_682, w_4, by decide, by decide +kernel⟩ w_679 w_681 wp_16 rfl (by decide +kernel)) ?_
  refine z_k (S_istore cx (by decide) (by decide +kernel)) ?_
  refine z_k (S_aload_n cx (k := 0) (by decide +kernel) rfl) ?_
  exact z_k0
set_option maxRecDepth 100000 in
set_option maxHeartbeats 4000000 in
theorem s_Mo_write_3 (cx : z_cx zTab g d p l e R s m args below meth c prog_8_method_23_code "SealedTalksModel" 6) (hn : meth.name = "write") (hf : z_fin g p l e R s m args below meth c Q prog_8_method_23_code P (some .int)) : ∀ x ∈ k_Mo_write_3, z_sn zTab g d p l e R s m args below meth c Q 6 P x := by
  unfold k_Mo_write_3
  refine z_k (S_iload cx (by decide +kernel)) ?_
  refine z_k (S_callV cx (T := F_Mo) (N := 43) (r := r_Mo_addPart) rfl ⟨w_712, w_4, by decide, by decide +kernel⟩ w_709 w_711 wp_21 rfl (by decide +kernel)) ?_
  refine z_k (S_goto cx (off := 42) (by decide +kernel) (by decide)) ?_
  refine z_k (S_iload cx (by decide +kernel)) ?_
  refine z_k (S_push cx (n := 2) (by decide +kernel) (by decide)) ?_
  refine z_k (S_icmp_ne cx (off := 24) (by decide +kernel) (by decide)) ?_
  refine z_k (S_aload_n cx (k := 0) (by decide +kernel) rfl) ?_
  refine z_k (S_aload_n cx (k := 0) (by decide +kernel) rfl) ?_
  refine z_k (S_getf cx (T := F_Mo) (N := 43) (k := 15) rfl in_Mo (by decide) rfl w_543 (by decide +kernel)) ?_
  refine z_k (S_iload_n cx (k := 1) (by decide +kernel) rfl) ?_
  refine z_k (S_iald cx (by decide +kernel)) ?_
  refine z_k (S_callV cx (T := F_Mo) (N := 43) (r := r_Mo_pub) rfl ⟨w_682, w_4, by decide, by decide +kernel⟩ w_679 w_681 wp_16 rfl (by decide +kernel)) ?_
  refine z_k (S_istore cx (by decide) (by decide +kernel)) ?_
  refine z_k (S_aload_n cx (k := 0) (by decide +kernel) rfl) ?_
  refine z_k (S_iload cx (by decide +kernel)) ?_
  refine z_k (S_callV cx (T := F_Mo) (N := 43) (r := r_Mo_put) rfl ⟨w_720, w_4, by decide, by decide +kernel⟩ w_717 w_719 wp_23 rfl (by decide +kernel)) ?_
  refine z_k (S_goto cx (off := 15) (by decide +kernel) (by decide)) ?_
  refine z_k (S_iload cx (by decide +kernel)) ?_
  refine z_k (S_push cx (n := 2) (by decide +kernel) (by decide)) ?_
  refine z_k (S_icmp_le cx (off := 9) (by decide +kernel) (by decide)) ?_
  refine z_k (S_aload_n cx (k := 0) (by decide +kernel) rfl) ?_
  refine z_k (S_iload cx (by decide +kernel)) ?_
  refine z_k (S_callV cx (T := F_Mo) (N := 43) (r := r_Mo_agree) rfl ⟨w_724, w_4, by decide, by decide +kernel⟩ w_721 w_723 wp_24 rfl (by decide +kernel)) ?_
  refine z_k (S_iinc cx (n := 1) (by decide) (by decide +kernel) (by decide)) ?_
  exact z_k0
set_option maxRecDepth 100000 in
set_option maxHeartbeats 4000000 in
theorem s_Mo_write_4 (cx : z_cx zTab g d p l e R s m args below meth c prog_8_method_23_code "SealedTalksModel" 6) (hn : meth.name = "write") (hf : z_fin g p l e R s m args below meth c Q prog_8_method_23_code P (some .int)) : ∀ x ∈ k_Mo_write_4, z_sn zTab g d p l e R s m args below meth c Q 6 P x := by
  unfold k_Mo_write_4
  refine z_k (S_goto cx (off := -111) (by decide +kernel) (by decide)) ?_
  refine z_k (S_aload_n cx (k := 0) (by decide +kernel) rfl) ?_
  refine z_k (S_iload_n cx (k := 2) (by decide +kernel) rfl) ?_
  refine z_k (S_callV cx (T := F_Mo) (N := 43) (r := r_Mo_num) rfl ⟨w_670, w_4, by decide, by decide +kernel⟩ w_667 w_669 wp_13 rfl (by decide +kernel)) ?_
  refine z_k (S_istore_n cx (by decide) (k := 3) (by decide +kernel) rfl) ?_
  refine z_k (S_aload_n cx (k := 0) (by decide +kernel) rfl) ?_
  refine z_k (S_iload_n cx (k := 3) (by decide +kernel) rfl) ?_
  refine z_k (S_callV cx (T := F_Mo) (N := 43) (r := r_Mo_put) rfl ⟨w_720, w_4, by decide, by decide +kernel⟩ w_717 w_719 wp_23 rfl (by decide +kernel)) ?_
  refine z_k (S_aload_n cx (k := 0) (by decide +kernel) rfl) ?_
  refine z_k (S_callV cx (T := F_Mo) (N := 43) (r := r_Mo_keep) rfl ⟨w_728, w_4, by decide, by decide +kernel⟩ w_725 w_727 wp_25 rfl (by decide +kernel)) ?_
  refine z_k (S_aload_n cx (k := 0) (by decide +kernel) rfl) ?_
  refine z_k (S_aload_n cx (k := 0) (by decide +kernel) rfl) ?_
  refine z_k (S_getf cx (T := F_Mo) (N := 43) (k := 39) rfl in_Mo (by decide) rfl w_567 (by decide +kernel)) ?_
  refine z_k (S_callV cx (T := F_Mo) (N := 43) (r := r_Mo_newMessage) rfl ⟨w_732, w_4, by decide, by decide +kernel⟩ w_729 w_731 wp_26 rfl (by decide +kernel)) ?_
  refine z_k (S_iret (hf.2.1 rfl) (by decide +kernel)) ?_
  exact z_k0
theorem s_Mo_write : z_snd zTab r_Mo_write := ⟨by decide +kernel, w_686, fun g d p l e R s m args below meth c Q P cx hn hf => z_k (s_Mo_write_0 cx hn hf) (z_k (s_Mo_write_1 cx hn hf) (z_k (s_Mo_write_2 cx hn hf) (z_k (s_Mo_write_3 cx hn hf) (z_k (s_Mo_write_4 cx hn hf) (z_k0)))))⟩
set_option maxRecDepth 100000 in
set_option maxHeartbeats 4000000 in
theorem s_Mo_fetch_0 (cx : z_cx zTab g d p l e R s m args below meth c prog_8_method_24_code "SealedTalksModel" 3) (hn : meth.name = "fetch") (hf : z_fin g p l e R s m args below meth c Q prog_8_method_24_code P none) : ∀ x ∈ k_Mo_fetch_0, z_sn zTab g d p l e R s m args below meth c Q 3 P x := by
  unfold k_Mo_fetch_0
  refine z_k (S_aload_n cx (k := 0) (by decide +kernel) rfl) ?_
  refine z_k (S_aload_n cx (k := 0) (by decide +kernel) rfl) ?_
  refine z_k (S_getf cx (T := F_Mo) (N := 43) (k := 8) rfl in_Mo (by decide) rfl w_536 (by decide +kernel)) ?_
  refine z_k (S_iload_n cx (k := 1) (by decide +kernel) rfl) ?_
  refine z_k (S_iald cx (by decide +kernel)) ?_
  refine z_k (S_putf cx (T := F_Mo) (N := 43) (k := 39) (ty := t_Mo) rfl in_Mo t_Mo_ok n_Mo (by decide) rfl w_567 rfl (Or.inl ⟨rfl, rfl⟩) (by decide +kernel)) ?_
  refine z_k (S_push cx (n := 0) (by decide +kernel) (by decide)) ?_
  refine z_k (S_istore_n cx (by decide) (k := 2) (by decide +kernel) rfl) ?_
  refine z_k (S_iload_n cx (k := 2) (by decide +kernel) rfl) ?_
  refine z_k (S_aload_n cx (k := 0) (by decide +kernel) rfl) ?_
  refine z_k (S_getf cx (T := F_Mo) (N := 43) (k := 39) rfl in_Mo (by decide) rfl w_567 (by decide +kernel)) ?_
  refine z_k (S_icmp_ge cx (off := 25) (by decide +kernel) (by decide)) ?_
  refine z_k (S_aload_n cx (k := 0) (by decide +kernel) rfl) ?_
  refine z_k (S_getf cx (T := F_Mo) (N := 43) (k := 40) rfl in_Mo (by decide) rfl w_568 (by decide +kernel)) ?_
  refine z_k (S_iload_n cx (k := 2) (by decide +kernel) rfl) ?_
  refine z_k (S_aload_n cx (k := 0) (by decide +kernel) rfl) ?_
  refine z_k (S_getf cx (T := F_Mo) (N := 43) (k := 9) rfl in_Mo (by decide) rfl w_537 (by decide +kernel)) ?_
  refine z_k (S_push cx (n := 3) (by decide +kernel) (by decide)) ?_
  refine z_k (S_iload_n cx (k := 1) (by decide +kernel) rfl) ?_
  refine z_k (S_imul cx (by decide +kernel)) ?_
  refine z_k (S_iload_n cx (k := 2) (by decide +kernel) rfl) ?_
  refine z_k (S_iadd cx (by decide +kernel)) ?_
  refine z_k (S_iald cx (by decide +kernel)) ?_
  refine z_k (S_iast cx (by decide +kernel)) ?_
  exact z_k0
set_option maxRecDepth 100000 in
set_option maxHeartbeats 4000000 in
theorem s_Mo_fetch_1 (cx : z_cx zTab g d p l e R s m args below meth c prog_8_method_24_code "SealedTalksModel" 3) (hn : meth.name = "fetch") (hf : z_fin g p l e R s m args below meth c Q prog_8_method_24_code P none) : ∀ x ∈ k_Mo_fetch_1, z_sn zTab g d p l e R s m args below meth c Q 3 P x := by
  unfold k_Mo_fetch_1
  refine z_k (S_iinc cx (n := 1) (by decide) (by decide +kernel) (by decide)) ?_
  refine z_k (S_goto cx (off := -27) (by decide +kernel) (by decide)) ?_
  refine z_k (S_vret (hf.1 rfl) (by decide +kernel)) ?_
  exact z_k0
theorem s_Mo_fetch : z_snd zTab r_Mo_fetch := ⟨by decide +kernel, w_740, fun g d p l e R s m args below meth c Q P cx hn hf => z_k (s_Mo_fetch_0 cx hn hf) (z_k (s_Mo_fetch_1 cx hn hf) (z_k0))⟩
set_option maxRecDepth 100000 in
set_option maxHeartbeats 4000000 in
theorem s_Mo_run_0 (cx : z_cx zTab g d p l e R s m args below meth c prog_8_method_25_code "SealedTalksModel" 5) (hn : meth.name = "run") (hf : z_fin g p l e R s m args below meth c Q prog_8_method_25_code P (some .int)) : ∀ x ∈ k_Mo_run_0, z_sn zTab g d p l e R s m args below meth c Q 5 P x := by
  unfold k_Mo_run_0
  refine z_k (S_push cx (n := 0) (by decide +kernel) (by decide)) ?_
  refine z_k (S_istore_n cx (by decide) (k := 2) (by decide +kernel) rfl) ?_
  refine z_k (S_iload_n cx (k := 2) (by decide +kernel) rfl) ?_
  refine z_k (S_push cx (n := 4) (by decide +kernel) (by decide)) ?_
  refine z_k (S_icmp_ge cx (off := 160) (by decide +kernel) (by decide)) ?_
  refine z_k (S_aload_n cx (k := 0) (by decide +kernel) rfl) ?_
  refine z_k (S_getf cx (T := F_Mo) (N := 43) (k := 42) rfl in_Mo (by decide) rfl w_570 (by decide +kernel)) ?_
  refine z_k (S_if_ne cx (off := 153) (by decide +kernel) (by decide)) ?_
  refine z_k (S_aload_n cx (k := 0) (by decide +kernel) rfl) ?_
  refine z_k (S_getf cx (T := F_Mo) (N := 43) (k := 13) rfl in_Mo (by decide) rfl w_541 (by decide +kernel)) ?_
  refine z_k (S_iload_n cx (k := 1) (by decide +kernel) rfl) ?_
  refine z_k (S_iald cx (by decide +kernel)) ?_
  refine z_k (S_aload_n cx (k := 0) (by decide +kernel) rfl) ?_
  refine z_k (S_getf cx (T := F_Mo) (N := 43) (k := 23) rfl in_Mo (by decide) rfl w_551 (by decide +kernel)) ?_
  refine z_k (S_iload_n cx (k := 1) (by decide +kernel) rfl) ?_
  refine z_k (S_iald cx (by decide +kernel)) ?_
  refine z_k (S_iload_n cx (k := 2) (by decide +kernel) rfl) ?_
  refine z_k (S_callS cx (r := r_Mo_token) rfl ⟨w_708, w_4, by decide, by decide +kernel⟩ w_706 w_707 (by decide +kernel)) ?_
  refine z_k (S_istore_n cx (by decide) (k := 3) (by decide +kernel) rfl) ?_
  refine z_k (S_iload_n cx (k := 3) (by decide +kernel) rfl) ?_
  refine z_k (S_push cx (n := 1) (by decide +kernel) (by decide)) ?_
  refine z_k (S_icmp_ne cx (off := 75) (by decide +kernel) (by decide)) ?_
  refine z_k (S_aload_n cx (k := 0) (by decide +kernel) rfl) ?_
  refine z_k (S_callV cx (T := F_Mo) (N := 43) (r := r_Mo_nextPart) rfl ⟨w_760, w_4, by decide, by decide +kernel⟩ w_757 w_759 wp_32 rfl (by decide +kernel)) ?_
  exact z_k0
set_option maxRecDepth 100000 in
set_option maxHeartbeats 4000000 in
theorem s_Mo_run_1 (cx : z_cx zTab g d p l e R s m args below meth c prog_8_method_25_code "SealedTalksModel" 5) (hn : meth.name = "run") (hf : z_fin g p l e R s m args below meth c Q prog_8_method_25_code P (some .int)) : ∀ x ∈ k_Mo_run_1, z_sn zTab g d p l e R s m args below meth c Q 5 P x := by
  unfold k_Mo_run_1
  refine z_k (S_istore cx (by decide) (by decide +kernel)) ?_
  refine z_k (S_aload_n cx (k := 0) (by decide +kernel) rfl) ?_
  refine z_k (S_iload cx (by decide +kernel)) ?_
  refine z_k (S_if_lt cx (off := 14) (by decide +kernel) (by decide)) ?_
  refine z_k (S_aload_n cx (k := 0) (by decide +kernel) rfl) ?_
  refine z_k (S_getf cx (T := F_Mo) (N := 43) (k := 1) rfl in_Mo (by decide) rfl w_529 (by decide +kernel)) ?_
  refine z_k (S_iload cx (by decide +kernel)) ?_
  refine z_k (S_bald cx (by decide +kernel)) ?_
  refine z_k (S_push cx (n := 2) (by decide +kernel) (by decide)) ?_
  refine z_k (S_icmp_eq cx (off := 7) (by decide +kernel) (by decide)) ?_
  refine z_k (S_push cx (n := 1) (by decide +kernel) (by decide)) ?_
  refine z_k (S_goto cx (off := 4) (by decide +kernel) (by decide)) ?_
  refine z_k (S_push cx (n := 0) (by decide +kernel) (by decide)) ?_
  refine z_k (S_putf cx (T := F_Mo) (N := 43) (k := 42) (ty := t_Mo) rfl in_Mo t_Mo_ok n_Mo (by decide) rfl w_570 rfl (Or.inr (Or.inl ⟨rfl, rfl⟩)) (by decide +kernel)) ?_
  refine z_k (S_aload_n cx (k := 0) (by decide +kernel) rfl) ?_
  refine z_k (S_aload_n cx (k := 0) (by decide +kernel) rfl) ?_
  refine z_k (S_getf cx (T := F_Mo) (N := 43) (k := 42) rfl in_Mo (by decide) rfl w_570 (by decide +kernel)) ?_
  refine z_k (S_if_eq cx (off := 10) (by decide +kernel) (by decide)) ?_
  refine z_k (S_aload_n cx (k := 0) (by decide +kernel) rfl) ?_
  refine z_k (S_getf cx (T := F_Mo) (N := 43) (k := 37) rfl in_Mo (by decide) rfl w_565 (by decide +kernel)) ?_
  refine z_k (S_goto cx (off := 10) (by decide +kernel) (by decide)) ?_
  refine z_k (S_aload_n cx (k := 0) (by decide +kernel) rfl) ?_
  refine z_k (S_getf cx (T := F_Mo) (N := 43) (k := 2) rfl in_Mo (by decide) rfl w_530 (by decide +kernel)) ?_
  refine z_k (S_iload cx (by decide +kernel)) ?_
  exact z_k0
set_option maxRecDepth 100000 in
set_option maxHeartbeats 4000000 in
theorem s_Mo_run_2 (cx : z_cx zTab g d p l e R s m args below meth c prog_8_method_25_code "SealedTalksModel" 5) (hn : meth.name = "run") (hf : z_fin g p l e R s m args below meth c Q prog_8_method_25_code P (some .int)) : ∀ x ∈ k_Mo_run_2, z_sn zTab g d p l e R s m args below meth c Q 5 P x := by
  unfold k_Mo_run_2
  refine z_k (S_iald cx (by decide +kernel)) ?_
  refine z_k (S_putf cx (T := F_Mo) (N := 43) (k := 37) (ty := t_Mo) rfl in_Mo t_Mo_ok n_Mo (by decide) rfl w_565 rfl (Or.inl ⟨rfl, rfl⟩) (by decide +kernel)) ?_
  refine z_k (S_aload_n cx (k := 0) (by decide +kernel) rfl) ?_
  refine z_k (S_getf cx (T := F_Mo) (N := 43) (k := 42) rfl in_Mo (by decide) rfl w_570 (by decide +kernel)) ?_
  refine z_k (S_if_ne cx (off := 9) (by decide +kernel) (by decide)) ?_
  refine z_k (S_aload_n cx (k := 0) (by decide +kernel) rfl) ?_
  refine z_k (S_iload cx (by decide +kernel)) ?_
  refine z_k (S_callV cx (T := F_Mo) (N := 43) (r := r_Mo_mixHash) rfl ⟨w_716, w_4, by decide, by decide +kernel⟩ w_713 w_715 wp_22 rfl (by decide +kernel)) ?_
  refine z_k (S_goto cx (off := 53) (by decide +kernel) (by decide)) ?_
  refine z_k (S_iload_n cx (k := 3) (by decide +kernel) rfl) ?_
  refine z_k (S_push cx (n := 2) (by decide +kernel) (by decide)) ?_
  refine z_k (S_icmp_ne cx (off := 38) (by decide +kernel) (by decide)) ?_
  refine z_k (S_aload_n cx (k := 0) (by decide +kernel) rfl) ?_
  refine z_k (S_push cx (n := 2) (by decide +kernel) (by decide)) ?_
  refine z_k (S_callV cx (T := F_Mo) (N := 43) (r := r_Mo_take) rfl ⟨w_764, w_4, by decide, by decide +kernel⟩ w_761 w_763 wp_33 rfl (by decide +kernel)) ?_
  refine z_k (S_istore cx (by decide) (by decide +kernel)) ?_
  refine z_k (S_aload_n cx (k := 0) (by decide +kernel) rfl) ?_
  refine z_k (S_aload_n cx (k := 0) (by decide +kernel) rfl) ?_
  refine z_k (S_getf cx (T := F_Mo) (N := 43) (k := 42) rfl in_Mo (by decide) rfl w_570 (by decide +kernel)) ?_
  refine z_k (S_if_eq cx (off := 10) (by decide +kernel) (by decide)) ?_
  refine z_k (S_aload_n cx (k := 0) (by decide +kernel) rfl) ?_
  refine z_k (S_getf cx (T := F_Mo) (N := 43) (k := 38) rfl in_Mo (by decide) rfl w_566 (by decide +kernel)) ?_
  refine z_k (S_goto cx (off := 10) (by decide +kernel) (by decide)) ?_
  refine z_k (S_aload_n cx (k := 0) (by decide +kernel) rfl) ?_
  exact z_k0
set_option maxRecDepth 100000 in
set_option maxHeartbeats 4000000 in
theorem s_Mo_run_3 (cx : z_cx zTab g d p l e R s m args below meth c prog_8_method_25_code "SealedTalksModel" 5) (hn : meth.name = "run") (hf : z_fin g p l e R s m args below meth c Q prog_8_method_25_code P (some .int)) : ∀ x ∈ k_Mo_run_3, z_sn zTab g d p l e R s m args below meth c Q 5 P x := by
  unfold k_Mo_run_3
  refine z_k (S_getf cx (T := F_Mo) (N := 43) (k := 2) rfl in_Mo (by decide) rfl w_530 (by decide +kernel)) ?_
  refine z_k (S_iload cx (by decide +kernel)) ?_
  refine z_k (S_iald cx (by decide +kernel)) ?_
  refine z_k (S_putf cx (T := F_Mo) (N := 43) (k := 38) (ty := t_Mo) rfl in_Mo t_Mo_ok n_Mo (by decide) rfl w_566 rfl (Or.inl ⟨rfl, rfl⟩) (by decide +kernel)) ?_
  refine z_k (S_goto cx (off := 13) (by decide +kernel) (by decide)) ?_
  refine z_k (S_iload_n cx (k := 3) (by decide +kernel) rfl) ?_
  refine z_k (S_push cx (n := 2) (by decide +kernel) (by decide)) ?_
  refine z_k (S_icmp_le cx (off := 8) (by decide +kernel) (by decide)) ?_
  refine z_k (S_aload_n cx (k := 0) (by decide +kernel) rfl) ?_
  refine z_k (S_iload_n cx (k := 3) (by decide +kernel) rfl) ?_
  refine z_k (S_callV cx (T := F_Mo) (N := 43) (r := r_Mo_agree) rfl ⟨w_724, w_4, by decide, by decide +kernel⟩ w_721 w_723 wp_24 rfl (by decide +kernel)) ?_
  refine z_k (S_iinc cx (n := 1) (by decide) (by decide +kernel) (by decide)) ?_
  refine z_k (S_goto cx (off := -159) (by decide +kernel) (by decide)) ?_
  refine z_k (S_aload_n cx (k := 0) (by decide +kernel) rfl) ?_
  refine z_k (S_getf cx (T := F_Mo) (N := 43) (k := 42) rfl in_Mo (by decide) rfl w_570 (by decide +kernel)) ?_
  refine z_k (S_if_eq cx (off := 7) (by decide +kernel) (by decide)) ?_
  refine z_k (S_push cx (n := -1) (by decide +kernel) (by decide)) ?_
  refine z_k (S_goto cx (off := 8) (by decide +kernel) (by decide)) ?_
  refine z_k (S_aload_n cx (k := 0) (by decide +kernel) rfl) ?_
  refine z_k (S_push cx (n := 1) (by decide +kernel) (by decide)) ?_
  refine z_k (S_callV cx (T := F_Mo) (N := 43) (r := r_Mo_take) rfl ⟨w_764, w_4, by decide, by decide +kernel⟩ w_761 w_763 wp_33 rfl (by decide +kernel)) ?_
  refine z_k (S_istore_n cx (by decide) (k := 2) (by decide +kernel) rfl) ?_
  refine z_k (S_aload_n cx (k := 0) (by decide +kernel) rfl) ?_
  refine z_k (S_getf cx (T := F_Mo) (N := 43) (k := 42) rfl in_Mo (by decide) rfl w_570 (by decide +kernel)) ?_
  exact z_k0
set_option maxRecDepth 100000 in
set_option maxHeartbeats 4000000 in
theorem s_Mo_run_4 (cx : z_cx zTab g d p l e R s m args below meth c prog_8_method_25_code "SealedTalksModel" 5) (hn : meth.name = "run") (hf : z_fin g p l e R s m args below meth c Q prog_8_method_25_code P (some .int)) : ∀ x ∈ k_Mo_run_4, z_sn zTab g d p l e R s m args below meth c Q 5 P x := by
  unfold k_Mo_run_4
  refine z_k (S_if_ne cx (off := 14) (by decide +kernel) (by decide)) ?_
  refine z_k (S_aload_n cx (k := 0) (by decide +kernel) rfl) ?_
  refine z_k (S_getf cx (T := F_Mo) (N := 43) (k := 41) rfl in_Mo (by decide) rfl w_569 (by decide +kernel)) ?_
  refine z_k (S_aload_n cx (k := 0) (by decide +kernel) rfl) ?_
  refine z_k (S_getf cx (T := F_Mo) (N := 43) (k := 39) rfl in_Mo (by decide) rfl w_567 (by decide +kernel)) ?_
  refine z_k (S_icmp_eq cx (off := 7) (by decide +kernel) (by decide)) ?_
  refine z_k (S_push cx (n := -1) (by decide +kernel) (by decide)) ?_
  refine z_k (S_goto cx (off := 4) (by decide +kernel) (by decide)) ?_
  refine z_k (S_iload_n cx (k := 2) (by decide +kernel) rfl) ?_
  refine z_k (S_iret (hf.2.1 rfl) (by decide +kernel)) ?_
  exact z_k0
theorem s_Mo_run : z_snd zTab r_Mo_run := ⟨by decide +kernel, w_756, fun g d p l e R s m args below meth c Q P cx hn hf => z_k (s_Mo_run_0 cx hn hf) (z_k (s_Mo_run_1 cx hn hf) (z_k (s_Mo_run_2 cx hn hf) (z_k (s_Mo_run_3 cx hn hf) (z_k (s_Mo_run_4 cx hn hf) (z_k0)))))⟩
set_option maxRecDepth 100000 in
set_option maxHeartbeats 4000000 in
theorem s_Mo_took_0 (cx : z_cx zTab g d p l e R s m args below meth c prog_8_method_26_code "SealedTalksModel" 3) (hn : meth.name = "took") (hf : z_fin g p l e R s m args below meth c Q prog_8_method_26_code P none) : ∀ x ∈ k_Mo_took_0, z_sn zTab g d p l e R s m args below meth c Q 3 P x := by
  unfold k_Mo_took_0
  refine z_k (S_aload_n cx (k := 0) (by decide +kernel) rfl) ?_
  refine z_k (S_getf cx (T := F_Mo) (N := 43) (k := 26) rfl in_Mo (by decide) rfl w_554 (by decide +kernel)) ?_
  refine z_k (S_iload_n cx (k := 1) (by decide +kernel) rfl) ?_
  refine z_k (S_iload_n cx (k := 2) (by decide +kernel) rfl) ?_
  refine z_k (S_iast cx (by decide +kernel)) ?_
  refine z_k (S_aload_n cx (k := 0) (by decide +kernel) rfl) ?_
  refine z_k (S_getf cx (T := F_Mo) (N := 43) (k := 27) rfl in_Mo (by decide) rfl w_555 (by decide +kernel)) ?_
  refine z_k (S_iload_n cx (k := 1) (by decide +kernel) rfl) ?_
  refine z_k (S_aload_n cx (k := 0) (by decide +kernel) rfl) ?_
  refine z_k (S_getf cx (T := F_Mo) (N := 43) (k := 27) rfl in_Mo (by decide) rfl w_555 (by decide +kernel)) ?_
  refine z_k (S_iload_n cx (k := 1) (by decide +kernel) rfl) ?_
  refine z_k (S_iald cx (by decide +kernel)) ?_
  refine z_k (S_push cx (n := 1) (by decide +kernel) (by decide)) ?_
  refine z_k (S_iadd cx (by decide +kernel)) ?_
  refine z_k (S_iast cx (by decide +kernel)) ?_
  refine z_k (S_vret (hf.1 rfl) (by decide +kernel)) ?_
  exact z_k0
theorem s_Mo_took : z_snd zTab r_Mo_took := ⟨by decide +kernel, w_748, fun g d p l e R s m args below meth c Q P cx hn hf => z_k (s_Mo_took_0 cx hn hf) (z_k0)⟩
set_option maxRecDepth 100000 in
set_option maxHeartbeats 4000000 in
theorem s_Mo_reads_0 (cx : z_cx zTab g d p l e R s m args below meth c prog_8_method_27_code "SealedTalksModel" 4) (hn : meth.name = "reads") (hf : z_fin g p l e R s m args below meth c Q prog_8_method_27_code P (some .boolean)) : ∀ x ∈ k_Mo_reads_0, z_sn zTab g d p l e R s m args below meth c Q 4 P x := by
  unfold k_Mo_reads_0
  refine z_k (S_aload_n cx (k := 0) (by decide +kernel) rfl) ?_
  refine z_k (S_getf cx (T := F_Mo) (N := 43) (k := 0) rfl in_Mo (by decide) rfl w_528 (by decide +kernel)) ?_
  refine z_k (S_istore_n cx (by decide) (k := 2) (by decide +kernel) rfl) ?_
  refine z_k (S_aload_n cx (k := 0) (by decide +kernel) rfl) ?_
  refine z_k (S_iload_n cx (k := 1) (by decide +kernel) rfl) ?_
  refine z_k (S_callV cx (T := F_Mo) (N := 43) (r := r_Mo_load) rfl ⟨w_705, w_4, by decide, by decide +kernel⟩ w_702 w_704 wp_20 rfl (by decide +kernel)) ?_
  refine z_k (S_aload_n cx (k := 0) (by decide +kernel) rfl) ?_
  refine z_k (S_iload_n cx (k := 1) (by decide +kernel) rfl) ?_
  refine z_k (S_callV cx (T := F_Mo) (N := 43) (r := r_Mo_writes) rfl ⟨w_701, w_4, by decide, by decide +kernel⟩ w_698 w_700 wp_19 rfl (by decide +kernel)) ?_
  refine z_k (S_if_eq cx (off := 7) (by decide +kernel) (by decide)) ?_
  refine z_k (S_push cx (n := -1) (by decide +kernel) (by decide)) ?_
  refine z_k (S_goto cx (off := 8) (by decide +kernel) (by decide)) ?_
  refine z_k (S_aload_n cx (k := 0) (by decide +kernel) rfl) ?_
  refine z_k (S_iload_n cx (k := 1) (by decide +kernel) rfl) ?_
  refine z_k (S_callV cx (T := F_Mo) (N := 43) (r := r_Mo_run) rfl ⟨w_756, w_4, by decide, by decide +kernel⟩ w_753 w_755 wp_31 rfl (by decide +kernel)) ?_
  refine z_k (S_istore_n cx (by decide) (k := 3) (by decide +kernel) rfl) ?_
  refine z_k (S_iload_n cx (k := 3) (by decide +kernel) rfl) ?_
  refine z_k (S_if_ge cx (off := 10) (by decide +kernel) (by decide)) ?_
  refine z_k (S_aload_n cx (k := 0) (by decide +kernel) rfl) ?_
  refine z_k (S_iload_n cx (k := 2) (by decide +kernel) rfl) ?_
  refine z_k (S_putf cx (T := F_Mo) (N := 43) (k := 0) (ty := t_Mo) rfl in_Mo t_Mo_ok n_Mo (by decide) rfl w_528 rfl (Or.inl ⟨rfl, rfl⟩) (by decide +kernel)) ?_
  refine z_k (S_push cx (n := 0) (by decide +kernel) (by decide)) ?_
  refine z_k (S_zret (hf.2.2.1 rfl) (by decide +kernel)) ?_
  refine z_k (S_aload_n cx (k := 0) (by decide +kernel) rfl) ?_
  exact z_k0
set_option maxRecDepth 100000 in
set_option maxHeartbeats 4000000 in
theorem s_Mo_reads_1 (cx : z_cx zTab g d p l e R s m args below meth c prog_8_method_27_code "SealedTalksModel" 4) (hn : meth.name = "reads") (hf : z_fin g p l e R s m args below meth c Q prog_8_method_27_code P (some .boolean)) : ∀ x ∈ k_Mo_reads_1, z_sn zTab g d p l e R s m args below meth c Q 4 P x := by
  unfold k_Mo_reads_1
  refine z_k (S_callV cx (T := F_Mo) (N := 43) (r := r_Mo_keep) rfl ⟨w_728, w_4, by decide, by decide +kernel⟩ w_725 w_727 wp_25 rfl (by decide +kernel)) ?_
  refine z_k (S_aload_n cx (k := 0) (by decide +kernel) rfl) ?_
  refine z_k (S_iload_n cx (k := 1) (by decide +kernel) rfl) ?_
  refine z_k (S_aload_n cx (k := 0) (by decide +kernel) rfl) ?_
  refine z_k (S_getf cx (T := F_Mo) (N := 43) (k := 2) rfl in_Mo (by decide) rfl w_530 (by decide +kernel)) ?_
  refine z_k (S_iload_n cx (k := 3) (by decide +kernel) rfl) ?_
  refine z_k (S_iald cx (by decide +kernel)) ?_
  refine z_k (S_callV cx (T := F_Mo) (N := 43) (r := r_Mo_took) rfl ⟨w_748, w_4, by decide, by decide +kernel⟩ w_745 w_747 wp_29 rfl (by decide +kernel)) ?_
  refine z_k (S_push cx (n := 1) (by decide +kernel) (by decide)) ?_
  refine z_k (S_zret (hf.2.2.1 rfl) (by decide +kernel)) ?_
  exact z_k0
theorem s_Mo_reads : z_snd zTab r_Mo_reads := ⟨by decide +kernel, w_752, fun g d p l e R s m args below meth c Q P cx hn hf => z_k (s_Mo_reads_0 cx hn hf) (z_k (s_Mo_reads_1 cx hn hf) (z_k0))⟩
set_option maxRecDepth 100000 in
set_option maxHeartbeats 4000000 in
theorem s_Mo_accepts_0 (cx : z_cx zTab g d p l e R s m args below meth c prog_8_method_28_code "SealedTalksModel" 10) (hn : meth.name = "accepts") (hf : z_fin g p l e R s m args below meth c Q prog_8_method_28_code P (some .boolean)) : ∀ x ∈ k_Mo_accepts_0, z_sn zTab g d p l e R s m args below meth c Q 10 P x := by
  unfold k_Mo_accepts_0
  refine z_k (S_aload_n cx (k := 0) (by decide +kernel) rfl) ?_
  refine z_k (S_getf cx (T := F_Mo) (N := 43) (k := 39) rfl in_Mo (by decide) rfl w_567 (by decide +kernel)) ?_
  refine z_k (S_push cx (n := 2) (by decide +kernel) (by decide)) ?_
  refine z_k (S_icmp_ne cx (off := 12) (by decide +kernel) (by decide)) ?_
  refine z_k (S_aload_n cx (k := 0) (by decide +kernel) rfl) ?_
  refine z_k (S_getf cx (T := F_Mo) (N := 43) (k := 40) rfl in_Mo (by decide) rfl w_568 (by decide +kernel)) ?_
  refine z_k (S_push cx (n := 1) (by decide +kernel) (by decide)) ?_
  refine z_k (S_iald cx (by decide +kernel)) ?_
  refine z_k (S_goto cx (off := 4) (by decide +kernel) (by decide)) ?_
  refine z_k (S_push cx (n := 0) (by decide +kernel) (by decide)) ?_
  refine z_k (S_istore_n cx (by decide) (k := 2) (by decide +kernel) rfl) ?_
  refine z_k (S_aload_n cx (k := 0) (by decide +kernel) rfl) ?_
  refine z_k (S_getf cx (T := F_Mo) (N := 43) (k := 39) rfl in_Mo (by decide) rfl w_567 (by decide +kernel)) ?_
  refine z_k (S_push cx (n := 2) (by decide +kernel) (by decide)) ?_
  refine z_k (S_icmp_ne cx (off := 29) (by decide +kernel) (by decide)) ?_
  refine z_k (S_aload_n cx (k := 0) (by decide +kernel) rfl) ?_
  refine z_k (S_getf cx (T := F_Mo) (N := 43) (k := 1) rfl in_Mo (by decide) rfl w_529 (by decide +kernel)) ?_
  refine z_k (S_aload_n cx (k := 0) (by decide +kernel) rfl) ?_
  refine z_k (S_getf cx (T := F_Mo) (N := 43) (k := 40) rfl in_Mo (by decide) rfl w_568 (by decide +kernel)) ?_
  refine z_k (S_push cx (n := 0) (by decide +kernel) (by decide)) ?_
  refine z_k (S_iald cx (by decide +kernel)) ?_
  refine z_k (S_bald cx (by decide +kernel)) ?_
  refine z_k (S_push cx (n := 1) (by decide +kernel) (by decide)) ?_
  refine z_k (S_icmp_ne cx (off := 14) (by decide +kernel) (by decide)) ?_
  exact z_k0
set_option maxRecDepth 100000 in
set_option maxHeartbeats 4000000 in
theorem s_Mo_accepts_1 (cx : z_cx zTab g d p l e R s m args below meth c prog_8_method_28_code "SealedTalksModel" 10) (hn : meth.name = "accepts") (hf : z_fin g p l e R s m args below meth c Q prog_8_method_28_code P (some .boolean)) : ∀ x ∈ k_Mo_accepts_1, z_sn zTab g d p l e R s m args below meth c Q 10 P x := by
  unfold k_Mo_accepts_1
  refine z_k (S_aload_n cx (k := 0) (by decide +kernel) rfl) ?_
  refine z_k (S_getf cx (T := F_Mo) (N := 43) (k := 1) rfl in_Mo (by decide) rfl w_529 (by decide +kernel)) ?_
  refine z_k (S_iload_n cx (k := 2) (by decide +kernel) rfl) ?_
  refine z_k (S_bald cx (by decide +kernel)) ?_
  refine z_k (S_bipush cx (n := 8) (by decide +kernel) (by decide)) ?_
  refine z_k (S_icmp_eq cx (off := 5) (by decide +kernel) (by decide)) ?_
  refine z_k (S_push cx (n := 0) (by decide +kernel) (by decide)) ?_
  refine z_k (S_zret (hf.2.2.1 rfl) (by decide +kernel)) ?_
  refine z_k (S_aload_n cx (k := 0) (by decide +kernel) rfl) ?_
  refine z_k (S_getf cx (T := F_Mo) (N := 43) (k := 2) rfl in_Mo (by decide) rfl w_530 (by decide +kernel)) ?_
  refine z_k (S_aload_n cx (k := 0) (by decide +kernel) rfl) ?_
  refine z_k (S_getf cx (T := F_Mo) (N := 43) (k := 40) rfl in_Mo (by decide) rfl w_568 (by decide +kernel)) ?_
  refine z_k (S_push cx (n := 0) (by decide +kernel) (by decide)) ?_
  refine z_k (S_iald cx (by decide +kernel)) ?_
  refine z_k (S_iald cx (by decide +kernel)) ?_
  refine z_k (S_istore_n cx (by decide) (k := 3) (by decide +kernel) rfl) ?_
  refine z_k (S_aload_n cx (k := 0) (by decide +kernel) rfl) ?_
  refine z_k (S_getf cx (T := F_Mo) (N := 43) (k := 3) rfl in_Mo (by decide) rfl w_531 (by decide +kernel)) ?_
  refine z_k (S_iload_n cx (k := 2) (by decide +kernel) rfl) ?_
  refine z_k (S_sald cx (by decide +kernel)) ?_
  refine z_k (S_istore cx (by decide) (by decide +kernel)) ?_
  refine z_k (S_aload_n cx (k := 0) (by decide +kernel) rfl) ?_
  refine z_k (S_getf cx (T := F_Mo) (N := 43) (k := 4) rfl in_Mo (by decide) rfl w_532 (by decide +kernel)) ?_
  refine z_k (S_iload_n cx (k := 2) (by decide +kernel) rfl) ?_
  exact z_k0
set_option maxRecDepth 100000 in
set_option maxHeartbeats 4000000 in
theorem s_Mo_accepts_2 (cx : z_cx zTab g d p l e R s m args below meth c prog_8_method_28_code "SealedTalksModel" 10) (hn : meth.name = "accepts") (hf : z_fin g p l e R s m args below meth c Q prog_8_method_28_code P (some .boolean)) : ∀ x ∈ k_Mo_accepts_2, z_sn zTab g d p l e R s m args below meth c Q 10 P x := by
  unfold k_Mo_accepts_2
  refine z_k (S_sald cx (by decide +kernel)) ?_
  refine z_k (S_istore cx (by decide) (by decide +kernel)) ?_
  refine z_k (S_aload_n cx (k := 0) (by decide +kernel) rfl) ?_
  refine z_k (S_getf cx (T := F_Mo) (N := 43) (k := 5) rfl in_Mo (by decide) rfl w_533 (by decide +kernel)) ?_
  refine z_k (S_iload_n cx (k := 2) (by decide +kernel) rfl) ?_
  refine z_k (S_sald cx (by decide +kernel)) ?_
  refine z_k (S_istore cx (by decide) (by decide +kernel)) ?_
  refine z_k (S_aload_n cx (k := 0) (by decide +kernel) rfl) ?_
  refine z_k (S_getf cx (T := F_Mo) (N := 43) (k := 1) rfl in_Mo (by decide) rfl w_529 (by decide +kernel)) ?_
  refine z_k (S_iload cx (by decide +kernel)) ?_
  refine z_k (S_bald cx (by decide +kernel)) ?_
  refine z_k (S_bipush cx (n := 7) (by decide +kernel) (by decide)) ?_
  refine z_k (S_icmp_ne cx (off := 47) (by decide +kernel) (by decide)) ?_
  refine z_k (S_aload_n cx (k := 0) (by decide +kernel) rfl) ?_
  refine z_k (S_getf cx (T := F_Mo) (N := 43) (k := 3) rfl in_Mo (by decide) rfl w_531 (by decide +kernel)) ?_
  refine z_k (S_iload cx (by decide +kernel)) ?_
  refine z_k (S_sald cx (by decide +kernel)) ?_
  refine z_k (S_aload_n cx (k := 0) (by decide +kernel) rfl) ?_
  refine z_k (S_getf cx (T := F_Mo) (N := 43) (k := 20) rfl in_Mo (by decide) rfl w_548 (by decide +kernel)) ?_
  refine z_k (S_iload_n cx (k := 1) (by decide +kernel) rfl) ?_
  refine z_k (S_iald cx (by decide +kernel)) ?_
  refine z_k (S_icmp_ne cx (off := 31) (by decide +kernel) (by decide)) ?_
  refine z_k (S_aload_n cx (k := 0) (by decide +kernel) rfl) ?_
  refine z_k (S_getf cx (T := F_Mo) (N := 43) (k := 2) rfl in_Mo (by decide) rfl w_530 (by decide +kernel)) ?_
  exact z_k0
set_option maxRecDepth 100000 in
set_option maxHeartbeats 4000000 in
theorem s_Mo_accepts_3 (cx : z_cx zTab g d p l e R s m args below meth c prog_8_method_28_code "SealedTalksModel" 10) (hn : meth.name = "accepts") (hf : z_fin g p l e R s m args below meth c Q prog_8_method_28_code P (some .boolean)) : ∀ x ∈ k_Mo_accepts_3, z_sn zTab g d p l e R s m args below meth c Q 10 P x := by
  unfold k_Mo_accepts_3
  refine z_k (S_iload cx (by decide +kernel)) ?_
  refine z_k (S_iald cx (by decide +kernel)) ?_
  refine z_k (S_aload_n cx (k := 0) (by decide +kernel) rfl) ?_
  refine z_k (S_getf cx (T := F_Mo) (N := 43) (k := 14) rfl in_Mo (by decide) rfl w_542 (by decide +kernel)) ?_
  refine z_k (S_iload_n cx (k := 1) (by decide +kernel) rfl) ?_
  refine z_k (S_zald cx (by decide +kernel)) ?_
  refine z_k (S_if_eq cx (off := 7) (by decide +kernel) (by decide)) ?_
  refine z_k (S_push cx (n := 2) (by decide +kernel) (by decide)) ?_
  refine z_k (S_goto cx (off := 4) (by decide +kernel) (by decide)) ?_
  refine z_k (S_push cx (n := 1) (by decide +kernel) (by decide)) ?_
  refine z_k (S_icmp_ne cx (off := 7) (by decide +kernel) (by decide)) ?_
  refine z_k (S_push cx (n := 1) (by decide +kernel) (by decide)) ?_
  refine z_k (S_goto cx (off := 4) (by decide +kernel) (by decide)) ?_
  refine z_k (S_push cx (n := 0) (by decide +kernel) (by decide)) ?_
  refine z_k (S_istore cx (by decide) (by decide +kernel)) ?_
  refine z_k (S_iload cx (by decide +kernel)) ?_
  refine z_k (S_if_eq cx (off := 53) (by decide +kernel) (by decide)) ?_
  refine z_k (S_aload_n cx (k := 0) (by decide +kernel) rfl) ?_
  refine z_k (S_getf cx (T := F_Mo) (N := 43) (k := 2) rfl in_Mo (by decide) rfl w_530 (by decide +kernel)) ?_
  refine z_k (S_iload_n cx (k := 2) (by decide +kernel) rfl) ?_
  refine z_k (S_iald cx (by decide +kernel)) ?_
  refine z_k (S_iload_n cx (k := 3) (by decide +kernel) rfl) ?_
  refine z_k (S_icmp_ne cx (off := 43) (by decide +kernel) (by decide)) ?_
  refine z_k (S_aload_n cx (k := 0) (by decide +kernel) rfl) ?_
  exact z_k0
set_option maxRecDepth 100000 in
set_option maxHeartbeats 4000000 in
theorem s_Mo_accepts_4 (cx : z_cx zTab g d p l e R s m args below meth c prog_8_method_28_code "SealedTalksModel" 10) (hn : meth.name = "accepts") (hf : z_fin g p l e R s m args below meth c Q prog_8_method_28_code P (some .boolean)) : ∀ x ∈ k_Mo_accepts_4, z_sn zTab g d p l e R s m args below meth c Q 10 P x := by
  unfold k_Mo_accepts_4
  refine z_k (S_getf cx (T := F_Mo) (N := 43) (k := 1) rfl in_Mo (by decide) rfl w_529 (by decide +kernel)) ?_
  refine z_k (S_iload cx (by decide +kernel)) ?_
  refine z_k (S_bald cx (by decide +kernel)) ?_
  refine z_k (S_push cx (n := 1) (by decide +kernel) (by decide)) ?_
  refine z_k (S_icmp_ne cx (off := 32) (by decide +kernel) (by decide)) ?_
  refine z_k (S_aload_n cx (k := 0) (by decide +kernel) rfl) ?_
  refine z_k (S_getf cx (T := F_Mo) (N := 43) (k := 2) rfl in_Mo (by decide) rfl w_530 (by decide +kernel)) ?_
  refine z_k (S_iload cx (by decide +kernel)) ?_
  refine z_k (S_iald cx (by decide +kernel)) ?_
  refine z_k (S_if_ne cx (off := 22) (by decide +kernel) (by decide)) ?_
  refine z_k (S_aload_n cx (k := 0) (by decide +kernel) rfl) ?_
  refine z_k (S_getf cx (T := F_Mo) (N := 43) (k := 1) rfl in_Mo (by decide) rfl w_529 (by decide +kernel)) ?_
  refine z_k (S_iload cx (by decide +kernel)) ?_
  refine z_k (S_bald cx (by decide +kernel)) ?_
  refine z_k (S_push cx (n := 1) (by decide +kernel) (by decide)) ?_
  refine z_k (S_icmp_ne cx (off := 11) (by decide +kernel) (by decide)) ?_
  refine z_k (S_iload_n cx (k := 3) (by decide +kernel) rfl) ?_
  refine z_k (S_if_lt cx (off := 7) (by decide +kernel) (by decide)) ?_
  refine z_k (S_push cx (n := 1) (by decide +kernel) (by decide)) ?_
  refine z_k (S_goto cx (off := 4) (by decide +kernel) (by decide)) ?_
  refine z_k (S_push cx (n := 0) (by decide +kernel) (by decide)) ?_
  refine z_k (S_istore cx (by decide) (by decide +kernel)) ?_
  refine z_k (S_iload cx (by decide +kernel)) ?_
  refine z_k (S_if_eq cx (off := 51) (by decide +kernel) (by decide)) ?_
  exact z_k0
set_option maxRecDepth 100000 in
set_option maxHeartbeats 4000000 in
theorem s_Mo_accepts_5 (cx : z_cx zTab g d p l e R s m args below meth c prog_8_method_28_code "SealedTalksModel" 10) (hn : meth.name = "accepts") (hf : z_fin g p l e R s m args below meth c Q prog_8_method_28_code P (some .boolean)) : ∀ x ∈ k_Mo_accepts_5, z_sn zTab g d p l e R s m args below meth c Q 10 P x := by
  unfold k_Mo_accepts_5
  refine z_k (S_iload_n cx (k := 3) (by decide +kernel) rfl) ?_
  refine z_k (S_aload_n cx (k := 0) (by decide +kernel) rfl) ?_
  refine z_k (S_getf cx (T := F_Mo) (N := 43) (k := 29) rfl in_Mo (by decide) rfl w_557 (by decide +kernel)) ?_
  refine z_k (S_iload_n cx (k := 1) (by decide +kernel) rfl) ?_
  refine z_k (S_iald cx (by decide +kernel)) ?_
  refine z_k (S_icmp_gt cx (off := 41) (by decide +kernel) (by decide)) ?_
  refine z_k (S_aload_n cx (k := 0) (by decide +kernel) rfl) ?_
  refine z_k (S_getf cx (T := F_Mo) (N := 43) (k := 29) rfl in_Mo (by decide) rfl w_557 (by decide +kernel)) ?_
  refine z_k (S_iload_n cx (k := 1) (by decide +kernel) rfl) ?_
  refine z_k (S_iald cx (by decide +kernel)) ?_
  refine z_k (S_iload_n cx (k := 3) (by decide +kernel) rfl) ?_
  refine z_k (S_isub cx (by decide +kernel)) ?_
  refine z_k (S_bipush cx (n := 7) (by decide +kernel) (by decide)) ?_
  refine z_k (S_icmp_gt cx (off := 24) (by decide +kernel) (by decide)) ?_
  refine z_k (S_aload_n cx (k := 0) (by decide +kernel) rfl) ?_
  refine z_k (S_getf cx (T := F_Mo) (N := 43) (k := 30) rfl in_Mo (by decide) rfl w_558 (by decide +kernel)) ?_
  refine z_k (S_iload_n cx (k := 1) (by decide +kernel) rfl) ?_
  refine z_k (S_iald cx (by decide +kernel)) ?_
  refine z_k (S_aload_n cx (k := 0) (by decide +kernel) rfl) ?_
  refine z_k (S_getf cx (T := F_Mo) (N := 43) (k := 29) rfl in_Mo (by decide) rfl w_557 (by decide +kernel)) ?_
  refine z_k (S_iload_n cx (k := 1) (by decide +kernel) rfl) ?_
  refine z_k (S_iald cx (by decide +kernel)) ?_
  refine z_k (S_iload_n cx (k := 3) (by decide +kernel) rfl) ?_
  refine z_k (S_isub cx (by decide +kernel)) ?_
  exact z_k0
set_option maxRecDepth 100000 in
set_option maxHeartbeats 4000000 in
theorem s_Mo_accepts_6 (cx : z_cx zTab g d p l e R s m args below meth c prog_8_method_28_code "SealedTalksModel" 10) (hn : meth.name = "accepts") (hf : z_fin g p l e R s m args below meth c Q prog_8_method_28_code P (some .boolean)) : ∀ x ∈ k_Mo_accepts_6, z_sn zTab g d p l e R s m args below meth c Q 10 P x := by
  unfold k_Mo_accepts_6
  refine z_k (S_ishr cx (by decide +kernel)) ?_
  refine z_k (S_push cx (n := 1) (by decide +kernel) (by decide)) ?_
  refine z_k (S_iand cx (by decide +kernel)) ?_
  refine z_k (S_push cx (n := 1) (by decide +kernel) (by decide)) ?_
  refine z_k (S_icmp_ne cx (off := 7) (by decide +kernel) (by decide)) ?_
  refine z_k (S_push cx (n := 1) (by decide +kernel) (by decide)) ?_
  refine z_k (S_goto cx (off := 4) (by decide +kernel) (by decide)) ?_
  refine z_k (S_push cx (n := 0) (by decide +kernel) (by decide)) ?_
  refine z_k (S_istore cx (by decide) (by decide +kernel)) ?_
  refine z_k (S_iload cx (by decide +kernel)) ?_
  refine z_k (S_if_eq cx (off := 8) (by decide +kernel) (by decide)) ?_
  refine z_k (S_iload cx (by decide +kernel)) ?_
  refine z_k (S_if_eq cx (off := 5) (by decide +kernel) (by decide)) ?_
  refine z_k (S_push cx (n := 0) (by decide +kernel) (by decide)) ?_
  refine z_k (S_zret (hf.2.2.1 rfl) (by decide +kernel)) ?_
  refine z_k (S_iload_n cx (k := 3) (by decide +kernel) rfl) ?_
  refine z_k (S_aload_n cx (k := 0) (by decide +kernel) rfl) ?_
  refine z_k (S_getf cx (T := F_Mo) (N := 43) (k := 29) rfl in_Mo (by decide) rfl w_557 (by decide +kernel)) ?_
  refine z_k (S_iload_n cx (k := 1) (by decide +kernel) rfl) ?_
  refine z_k (S_iald cx (by decide +kernel)) ?_
  refine z_k (S_icmp_le cx (off := 14) (by decide +kernel) (by decide)) ?_
  refine z_k (S_iload_n cx (k := 3) (by decide +kernel) rfl) ?_
  refine z_k (S_aload_n cx (k := 0) (by decide +kernel) rfl) ?_
  refine z_k (S_getf cx (T := F_Mo) (N := 43) (k := 29) rfl in_Mo (by decide) rfl w_557 (by decide +kernel)) ?_
  exact z_k0
set_option maxRecDepth 100000 in
set_option maxHeartbeats 4000000 in
theorem s_Mo_accepts_7 (cx : z_cx zTab g d p l e R s m args below meth c prog_8_method_28_code "SealedTalksModel" 10) (hn : meth.name = "accepts") (hf : z_fin g p l e R s m args below meth c Q prog_8_method_28_code P (some .boolean)) : ∀ x ∈ k_Mo_accepts_7, z_sn zTab g d p l e R s m args below meth c Q 10 P x := by
  unfold k_Mo_accepts_7
  refine z_k (S_iload_n cx (k := 1) (by decide +kernel) rfl) ?_
  refine z_k (S_iald cx (by decide +kernel)) ?_
  refine z_k (S_isub cx (by decide +kernel)) ?_
  refine z_k (S_goto cx (off := 4) (by decide +kernel) (by decide)) ?_
  refine z_k (S_push cx (n := 0) (by decide +kernel) (by decide)) ?_
  refine z_k (S_istore cx (by decide) (by decide +kernel)) ?_
  refine z_k (S_aload_n cx (k := 0) (by decide +kernel) rfl) ?_
  refine z_k (S_getf cx (T := F_Mo) (N := 43) (k := 30) rfl in_Mo (by decide) rfl w_558 (by decide +kernel)) ?_
  refine z_k (S_iload_n cx (k := 1) (by decide +kernel) rfl) ?_
  refine z_k (S_iload cx (by decide +kernel)) ?_
  refine z_k (S_bipush cx (n := 8) (by decide +kernel) (by decide)) ?_
  refine z_k (S_icmp_le cx (off := 7) (by decide +kernel) (by decide)) ?_
  refine z_k (S_push cx (n := 0) (by decide +kernel) (by decide)) ?_
  refine z_k (S_goto cx (off := 16) (by decide +kernel) (by decide)) ?_
  refine z_k (S_aload_n cx (k := 0) (by decide +kernel) rfl) ?_
  refine z_k (S_getf cx (T := F_Mo) (N := 43) (k := 30) rfl in_Mo (by decide) rfl w_558 (by decide +kernel)) ?_
  refine z_k (S_iload_n cx (k := 1) (by decide +kernel) rfl) ?_
  refine z_k (S_iald cx (by decide +kernel)) ?_
  refine z_k (S_iload cx (by decide +kernel)) ?_
  refine z_k (S_ishl cx (by decide +kernel)) ?_
  refine z_k (S_sipush cx (n := 255) (by decide +kernel) (by decide)) ?_
  refine z_k (S_iand cx (by decide +kernel)) ?_
  refine z_k (S_iast cx (by decide +kernel)) ?_
  refine z_k (S_aload_n cx (k := 0) (by decide +kernel) rfl) ?_
  exact z_k0
set_option maxRecDepth 100000 in
set_option maxHeartbeats 4000000 in
theorem s_Mo_accepts_8 (cx : z_cx zTab g d p l e R s m args below meth c prog_8_method_28_code "SealedTalksModel" 10) (hn : meth.name = "accepts") (hf : z_fin g p l e R s m args below meth c Q prog_8_method_28_code P (some .boolean)) : ∀ x ∈ k_Mo_accepts_8, z_sn zTab g d p l e R s m args below meth c Q 10 P x := by
  unfold k_Mo_accepts_8
  refine z_k (S_getf cx (T := F_Mo) (N := 43) (k := 29) rfl in_Mo (by decide) rfl w_557 (by decide +kernel)) ?_
  refine z_k (S_iload_n cx (k := 1) (by decide +kernel) rfl) ?_
  refine z_k (S_iload_n cx (k := 3) (by decide +kernel) rfl) ?_
  refine z_k (S_aload_n cx (k := 0) (by decide +kernel) rfl) ?_
  refine z_k (S_getf cx (T := F_Mo) (N := 43) (k := 29) rfl in_Mo (by decide) rfl w_557 (by decide +kernel)) ?_
  refine z_k (S_iload_n cx (k := 1) (by decide +kernel) rfl) ?_
  refine z_k (S_iald cx (by decide +kernel)) ?_
  refine z_k (S_icmp_le cx (off := 7) (by decide +kernel) (by decide)) ?_
  refine z_k (S_iload_n cx (k := 3) (by decide +kernel) rfl) ?_
  refine z_k (S_goto cx (off := 9) (by decide +kernel) (by decide)) ?_
  refine z_k (S_aload_n cx (k := 0) (by decide +kernel) rfl) ?_
  refine z_k (S_getf cx (T := F_Mo) (N := 43) (k := 29) rfl in_Mo (by decide) rfl w_557 (by decide +kernel)) ?_
  refine z_k (S_iload_n cx (k := 1) (by decide +kernel) rfl) ?_
  refine z_k (S_iald cx (by decide +kernel)) ?_
  refine z_k (S_iast cx (by decide +kernel)) ?_
  refine z_k (S_aload_n cx (k := 0) (by decide +kernel) rfl) ?_
  refine z_k (S_getf cx (T := F_Mo) (N := 43) (k := 30) rfl in_Mo (by decide) rfl w_558 (by decide +kernel)) ?_
  refine z_k (S_iload_n cx (k := 1) (by decide +kernel) rfl) ?_
  refine z_k (S_aload_n cx (k := 0) (by decide +kernel) rfl) ?_
  refine z_k (S_getf cx (T := F_Mo) (N := 43) (k := 30) rfl in_Mo (by decide) rfl w_558 (by decide +kernel)) ?_
  refine z_k (S_iload_n cx (k := 1) (by decide +kernel) rfl) ?_
  refine z_k (S_iald cx (by decide +kernel)) ?_
  refine z_k (S_push cx (n := 1) (by decide +kernel) (by decide)) ?_
  refine z_k (S_aload_n cx (k := 0) (by decide +kernel) rfl) ?_
  exact z_k0
set_option maxRecDepth 100000 in
set_option maxHeartbeats 4000000 in
theorem s_Mo_accepts_9 (cx : z_cx zTab g d p l e R s m args below meth c prog_8_method_28_code "SealedTalksModel" 10) (hn : meth.name = "accepts") (hf : z_fin g p l e R s m args below meth c Q prog_8_method_28_code P (some .boolean)) : ∀ x ∈ k_Mo_accepts_9, z_sn zTab g d p l e R s m args below meth c Q 10 P x := by
  unfold k_Mo_accepts_9
  refine z_k (S_getf cx (T := F_Mo) (N := 43) (k := 29) rfl in_Mo (by decide) rfl w_557 (by decide +kernel)) ?_
  refine z_k (S_iload_n cx (k := 1) (by decide +kernel) rfl) ?_
  refine z_k (S_iald cx (by decide +kernel)) ?_
  refine z_k (S_iload_n cx (k := 3) (by decide +kernel) rfl) ?_
  refine z_k (S_isub cx (by decide +kernel)) ?_
  refine z_k (S_ishl cx (by decide +kernel)) ?_
  refine z_k (S_ior cx (by decide +kernel)) ?_
  refine z_k (S_iast cx (by decide +kernel)) ?_
  refine z_k (S_aload_n cx (k := 0) (by decide +kernel) rfl) ?_
  refine z_k (S_iload_n cx (k := 1) (by decide +kernel) rfl) ?_
  refine z_k (S_aload_n cx (k := 0) (by decide +kernel) rfl) ?_
  refine z_k (S_getf cx (T := F_Mo) (N := 43) (k := 2) rfl in_Mo (by decide) rfl w_530 (by decide +kernel)) ?_
  refine z_k (S_iload cx (by decide +kernel)) ?_
  refine z_k (S_iald cx (by decide +kernel)) ?_
  refine z_k (S_callV cx (T := F_Mo) (N := 43) (r := r_Mo_took) rfl ⟨w_748, w_4, by decide, by decide +kernel⟩ w_745 w_747 wp_29 rfl (by decide +kernel)) ?_
  refine z_k (S_push cx (n := 1) (by decide +kernel) (by decide)) ?_
  refine z_k (S_zret (hf.2.2.1 rfl) (by decide +kernel)) ?_
  exact z_k0
theorem s_Mo_accepts : z_snd zTab r_Mo_accepts := ⟨by decide +kernel, w_744, fun g d p l e R s m args below meth c Q P cx hn hf => z_k (s_Mo_accepts_0 cx hn hf) (z_k (s_Mo_accepts_1 cx hn hf) (z_k (s_Mo_accepts_2 cx hn hf) (z_k (s_Mo_accepts_3 cx hn hf) (z_k (s_Mo_accepts_4 cx hn hf) (z_k (s_Mo_accepts_5 cx hn hf) (z_k (s_Mo_accepts_6 cx hn hf) (z_k (s_Mo_accepts_7 cx hn hf) (z_k (s_Mo_accepts_8 cx hn hf) (z_k (s_Mo_accepts_9 cx hn hf) (z_k0))))))))))⟩
end ZR42
end
section
/-! Each method of SealedTalksModel is sound (3). By program. -/
section ZR43
variable {g : zG} {d : Nat} {p : Program} {l : Launch} {e : Env} {R : Room} {s : State} {m : MethodId} {args : Array Value} {below : List Frame} {meth : Method} {c : Code} {Q : State → Prop} {P : zP}
set_option maxRecDepth 100000 in
set_option maxHeartbeats 4000000 in
theorem s_Mo_deliver_0 (cx : z_cx zTab g d p l e R s m args below meth c prog_8_method_29_code "SealedTalksModel" 4) (hn : meth.name = "deliver") (hf : z_fin g p l e R s m args below meth c Q prog_8_method_29_code P (some .int)) : ∀ x ∈ k_Mo_deliver_0, z_sn zTab g d p l e R s m args below meth c Q 4 P x := by
  unfold k_Mo_deliver_0
  refine z_k (S_aload_n cx (k := 0) (by decide +kernel) rfl) ?_
  refine z_k (S_iload_n cx (k := 2) (by decide +kernel) rfl) ?_
  refine z_k (S_callV cx (T := F_Mo) (N := 43) (r := r_Mo_isSession) rfl ⟨w_690, w_4, by decide, by decide +kernel⟩ w_687 w_689 wp_17 rfl (by decide +kernel)) ?_
  refine z_k (S_if_eq cx (off := 17) (by decide +kernel) (by decide)) ?_
  refine z_k (S_iload_n cx (k := 1) (by decide +kernel) rfl) ?_
  refine z_k (S_push cx (n := 0) (by decide +kernel) (by decide)) ?_
  refine z_k (S_aload_n cx (k := 0) (by decide +kernel) rfl) ?_
  refine z_k (S_getf cx (T := F_Mo) (N := 43) (k := 7) rfl in_Mo (by decide) rfl w_535 (by decide +kernel)) ?_
  refine z_k (S_push cx (n := 1) (by decide +kernel) (by decide)) ?_
  refine z_k (S_isub cx (by decide +kernel)) ?_
  refine z_k (S_callS cx (r := r_Mo_within) rfl ⟨w_666, w_4, by decide, by decide +kernel⟩ w_664 w_665 (by decide +kernel)) ?_
  refine z_k (S_if_ne cx (off := 5) (by decide +kernel) (by decide)) ?_
  refine z_k (S_push cx (n := -1) (by decide +kernel) (by decide)) ?_
  refine z_k (S_iret (hf.2.1 rfl) (by decide +kernel)) ?_
  refine z_k (S_aload_n cx (k := 0) (by decide +kernel) rfl) ?_
  refine z_k (S_getf cx (T := F_Mo) (N := 43) (k := 24) rfl in_Mo (by decide) rfl w_552 (by decide +kernel)) ?_
  refine z_k (S_iload_n cx (k := 2) (by decide +kernel) rfl) ?_
  refine z_k (S_zald cx (by decide +kernel)) ?_
  refine z_k (S_if_eq cx (off := 6) (by decide +kernel) (by decide)) ?_
  refine z_k (S_bipush cx (n := -2) (by decide +kernel) (by decide)) ?_
  refine z_k (S_iret (hf.2.1 rfl) (by decide +kernel)) ?_
  refine z_k (S_aload_n cx (k := 0) (by decide +kernel) rfl) ?_
  refine z_k (S_iload_n cx (k := 1) (by decide +kernel) rfl) ?_
  refine z_k (S_callV cx (T := F_Mo) (N := 43) (r := r_Mo_fetch) rfl ⟨w_740, w_4, by decide, by decide +kernel⟩ w_737 w_739 wp_27 rfl (by decide +kernel)) ?_
  exact z_k0
set_option maxRecDepth 100000 in
set_option maxHeartbeats 4000000 in
theorem s_Mo_deliver_1 (cx : z_cx zTab g d p l e R s m args below meth c prog_8_method_29_code "SealedTalksModel" 4) (hn : meth.name = "deliver") (hf : z_fin g p l e R s m args below meth c Q prog_8_method_29_code P (some .int)) : ∀ x ∈ k_Mo_deliver_1, z_sn zTab g d p l e R s m args below meth c Q 4 P x := by
  unfold k_Mo_deliver_1
  refine z_k (S_aload_n cx (k := 0) (by decide +kernel) rfl) ?_
  refine z_k (S_iload_n cx (k := 2) (by decide +kernel) rfl) ?_
  refine z_k (S_callV cx (T := F_Mo) (N := 43) (r := r_Mo_isDone) rfl ⟨w_694, w_4, by decide, by decide +kernel⟩ w_691 w_693 wp_18 rfl (by decide +kernel)) ?_
  refine z_k (S_if_eq cx (off := 11) (by decide +kernel) (by decide)) ?_
  refine z_k (S_aload_n cx (k := 0) (by decide +kernel) rfl) ?_
  refine z_k (S_iload_n cx (k := 2) (by decide +kernel) rfl) ?_
  refine z_k (S_callV cx (T := F_Mo) (N := 43) (r := r_Mo_accepts) rfl ⟨w_744, w_4, by decide, by decide +kernel⟩ w_741 w_743 wp_28 rfl (by decide +kernel)) ?_
  refine z_k (S_goto cx (off := 8) (by decide +kernel) (by decide)) ?_
  refine z_k (S_aload_n cx (k := 0) (by decide +kernel) rfl) ?_
  refine z_k (S_iload_n cx (k := 2) (by decide +kernel) rfl) ?_
  refine z_k (S_callV cx (T := F_Mo) (N := 43) (r := r_Mo_reads) rfl ⟨w_752, w_4, by decide, by decide +kernel⟩ w_749 w_751 wp_30 rfl (by decide +kernel)) ?_
  refine z_k (S_istore_n cx (by decide) (k := 3) (by decide +kernel) rfl) ?_
  refine z_k (S_iload_n cx (k := 3) (by decide +kernel) rfl) ?_
  refine z_k (S_if_eq cx (off := 7) (by decide +kernel) (by decide)) ?_
  refine z_k (S_push cx (n := 1) (by decide +kernel) (by decide)) ?_
  refine z_k (S_goto cx (off := 4) (by decide +kernel) (by decide)) ?_
  refine z_k (S_push cx (n := 0) (by decide +kernel) (by decide)) ?_
  refine z_k (S_iret (hf.2.1 rfl) (by decide +kernel)) ?_
  exact z_k0
theorem s_Mo_deliver : z_snd zTab r_Mo_deliver := ⟨by decide +kernel, w_736, fun g d p l e R s m args below meth c Q P cx hn hf => z_k (s_Mo_deliver_0 cx hn hf) (z_k (s_Mo_deliver_1 cx hn hf) (z_k0))⟩
set_option maxRecDepth 100000 in
set_option maxHeartbeats 4000000 in
theorem s_Mo_send_0 (cx : z_cx zTab g d p l e R s m args below meth c prog_8_method_30_code "SealedTalksModel" 6) (hn : meth.name = "send") (hf : z_fin g p l e R s m args below meth c Q prog_8_method_30_code P (some .int)) : ∀ x ∈ k_Mo_send_0, z_sn zTab g d p l e R s m args below meth c Q 6 P x := by
  unfold k_Mo_send_0
  refine z_k (S_aload_n cx (k := 0) (by decide +kernel) rfl) ?_
  refine z_k (S_iload_n cx (k := 1) (by decide +kernel) rfl) ?_
  refine z_k (S_callV cx (T := F_Mo) (N := 43) (r := r_Mo_isSession) rfl ⟨w_690, w_4, by decide, by decide +kernel⟩ w_687 w_689 wp_17 rfl (by decide +kernel)) ?_
  refine z_k (S_if_ne cx (off := 5) (by decide +kernel) (by decide)) ?_
  refine z_k (S_push cx (n := -1) (by decide +kernel) (by decide)) ?_
  refine z_k (S_iret (hf.2.1 rfl) (by decide +kernel)) ?_
  refine z_k (S_aload_n cx (k := 0) (by decide +kernel) rfl) ?_
  refine z_k (S_getf cx (T := F_Mo) (N := 43) (k := 24) rfl in_Mo (by decide) rfl w_552 (by decide +kernel)) ?_
  refine z_k (S_iload_n cx (k := 1) (by decide +kernel) rfl) ?_
  refine z_k (S_zald cx (by decide +kernel)) ?_
  refine z_k (S_if_eq cx (off := 6) (by decide +kernel) (by decide)) ?_
  refine z_k (S_bipush cx (n := -2) (by decide +kernel) (by decide)) ?_
  refine z_k (S_iret (hf.2.1 rfl) (by decide +kernel)) ?_
  refine z_k (S_aload_n cx (k := 0) (by decide +kernel) rfl) ?_
  refine z_k (S_iload_n cx (k := 1) (by decide +kernel) rfl) ?_
  refine z_k (S_callV cx (T := F_Mo) (N := 43) (r := r_Mo_isDone) rfl ⟨w_694, w_4, by decide, by decide +kernel⟩ w_691 w_693 wp_18 rfl (by decide +kernel)) ?_
  refine z_k (S_if_ne cx (off := 6) (by decide +kernel) (by decide)) ?_
  refine z_k (S_bipush cx (n := -3) (by decide +kernel) (by decide)) ?_
  refine z_k (S_iret (hf.2.1 rfl) (by decide +kernel)) ?_
  refine z_k (S_aload_n cx (k := 0) (by decide +kernel) rfl) ?_
  refine z_k (S_getf cx (T := F_Mo) (N := 43) (k := 7) rfl in_Mo (by decide) rfl w_535 (by decide +kernel)) ?_
  refine z_k (S_bipush cx (n := 60) (by decide +kernel) (by decide)) ?_
  refine z_k (S_icmp_ne cx (off := 6) (by decide +kernel) (by decide)) ?_
  refine z_k (S_bipush cx (n := -4) (by decide +kernel) (by decide)) ?_
  exact z_k0
set_option maxRecDepth 100000 in
set_option maxHeartbeats 4000000 in
theorem s_Mo_send_1 (cx : z_cx zTab g d p l e R s m args below meth c prog_8_method_30_code "SealedTalksModel" 6) (hn : meth.name = "send") (hf : z_fin g p l e R s m args below meth c Q prog_8_method_30_code P (some .int)) : ∀ x ∈ k_Mo_send_1, z_sn zTab g d p l e R s m args below meth c Q 6 P x := by
  unfold k_Mo_send_1
  refine z_k (S_iret (hf.2.1 rfl) (by decide +kernel)) ?_
  refine z_k (S_aload_n cx (k := 0) (by decide +kernel) rfl) ?_
  refine z_k (S_bipush cx (n := 7) (by decide +kernel) (by decide)) ?_
  refine z_k (S_aload_n cx (k := 0) (by decide +kernel) rfl) ?_
  refine z_k (S_getf cx (T := F_Mo) (N := 43) (k := 14) rfl in_Mo (by decide) rfl w_542 (by decide +kernel)) ?_
  refine z_k (S_iload_n cx (k := 1) (by decide +kernel) rfl) ?_
  refine z_k (S_zald cx (by decide +kernel)) ?_
  refine z_k (S_if_eq cx (off := 7) (by decide +kernel) (by decide)) ?_
  refine z_k (S_push cx (n := 1) (by decide +kernel) (by decide)) ?_
  refine z_k (S_goto cx (off := 4) (by decide +kernel) (by decide)) ?_
  refine z_k (S_push cx (n := 2) (by decide +kernel) (by decide)) ?_
  refine z_k (S_aload_n cx (k := 0) (by decide +kernel) rfl) ?_
  refine z_k (S_getf cx (T := F_Mo) (N := 43) (k := 20) rfl in_Mo (by decide) rfl w_548 (by decide +kernel)) ?_
  refine z_k (S_iload_n cx (k := 1) (by decide +kernel) rfl) ?_
  refine z_k (S_iald cx (by decide +kernel)) ?_
  refine z_k (S_push cx (n := 0) (by decide +kernel) (by decide)) ?_
  refine z_k (S_push cx (n := 0) (by decide +kernel) (by decide)) ?_
  refine z_k (S_callV cx (T := F_Mo) (N := 43) (r := r_Mo_term) rfl ⟨w_674, w_4, by decide, by decide +kernel⟩ w_671 w_673 wp_14 rfl (by decide +kernel)) ?_
  refine z_k (S_istore_n cx (by decide) (k := 3) (by decide +kernel) rfl) ?_
  refine z_k (S_aload_n cx (k := 0) (by decide +kernel) rfl) ?_
  refine z_k (S_push cx (n := 0) (by decide +kernel) (by decide)) ?_
  refine z_k (S_callV cx (T := F_Mo) (N := 43) (r := r_Mo_num) rfl ⟨w_670, w_4, by decide, by decide +kernel⟩ w_667 w_669 wp_13 rfl (by decide +kernel)) ?_
  refine z_k (S_istore cx (by decide) (by decide +kernel)) ?_
  refine z_k (S_aload_n cx (k := 0) (by decide +kernel) rfl) ?_
  exact z_k0
set_option maxRecDepth 100000 in
set_option maxHeartbeats 4000000 in
theorem s_Mo_send_2 (cx : z_cx zTab g d p l e R s m args below meth c prog_8_method_30_code "SealedTalksModel" 6) (hn : meth.name = "send") (hf : z_fin g p l e R s m args below meth c Q prog_8_method_30_code P (some .int)) : ∀ x ∈ k_Mo_send_2, z_sn zTab g d p l e R s m args below meth c Q 6 P x := by
  unfold k_Mo_send_2
  refine z_k (S_iload_n cx (k := 2) (by decide +kernel) rfl) ?_
  refine z_k (S_callV cx (T := F_Mo) (N := 43) (r := r_Mo_num) rfl ⟨w_670, w_4, by decide, by decide +kernel⟩ w_667 w_669 wp_13 rfl (by decide +kernel)) ?_
  refine z_k (S_istore cx (by decide) (by decide +kernel)) ?_
  refine z_k (S_aload_n cx (k := 0) (by decide +kernel) rfl) ?_
  refine z_k (S_getf cx (T := F_Mo) (N := 43) (k := 40) rfl in_Mo (by decide) rfl w_568 (by decide +kernel)) ?_
  refine z_k (S_push cx (n := 0) (by decide +kernel) (by decide)) ?_
  refine z_k (S_aload_n cx (k := 0) (by decide +kernel) rfl) ?_
  refine z_k (S_aload_n cx (k := 0) (by decide +kernel) rfl) ?_
  refine z_k (S_getf cx (T := F_Mo) (N := 43) (k := 28) rfl in_Mo (by decide) rfl w_556 (by decide +kernel)) ?_
  refine z_k (S_iload_n cx (k := 1) (by decide +kernel) rfl) ?_
  refine z_k (S_iald cx (by decide +kernel)) ?_
  refine z_k (S_callV cx (T := F_Mo) (N := 43) (r := r_Mo_num) rfl ⟨w_670, w_4, by decide, by decide +kernel⟩ w_667 w_669 wp_13 rfl (by decide +kernel)) ?_
  refine z_k (S_iast cx (by decide +kernel)) ?_
  refine z_k (S_aload_n cx (k := 0) (by decide +kernel) rfl) ?_
  refine z_k (S_getf cx (T := F_Mo) (N := 43) (k := 40) rfl in_Mo (by decide) rfl w_568 (by decide +kernel)) ?_
  refine z_k (S_push cx (n := 1) (by decide +kernel) (by decide)) ?_
  refine z_k (S_aload_n cx (k := 0) (by decide +kernel) rfl) ?_
  refine z_k (S_bipush cx (n := 8) (by decide +kernel) (by decide)) ?_
  refine z_k (S_aload_n cx (k := 0) (by decide +kernel) rfl) ?_
  refine z_k (S_getf cx (T := F_Mo) (N := 43) (k := 28) rfl in_Mo (by decide) rfl w_556 (by decide +kernel)) ?_
  refine z_k (S_iload_n cx (k := 1) (by decide +kernel) rfl) ?_
  refine z_k (S_iald cx (by decide +kernel)) ?_
  refine z_k (S_iload_n cx (k := 3) (by decide +kernel) rfl) ?_
  refine z_k (S_iload cx (by decide +kernel)) ?_
  exact z_k0
set_option maxRecDepth 100000 in
set_option maxHeartbeats 4000000 in
theorem s_Mo_send_3 (cx : z_cx zTab g d p l e R s m args below meth c prog_8_method_30_code "SealedTalksModel" 6) (hn : meth.name = "send") (hf : z_fin g p l e R s m args below meth c Q prog_8_method_30_code P (some .int)) : ∀ x ∈ k_Mo_send_3, z_sn zTab g d p l e R s m args below meth c Q 6 P x := by
  unfold k_Mo_send_3
  refine z_k (S_iload cx (by decide +kernel)) ?_
  refine z_k (S_callV cx (T := F_Mo) (N := 43) (r := r_Mo_term) rfl ⟨w_674, w_4, by decide, by decide +kernel⟩ w_671 w_673 wp_14 rfl (by decide +kernel)) ?_
  refine z_k (S_iast cx (by decide +kernel)) ?_
  refine z_k (S_aload_n cx (k := 0) (by decide +kernel) rfl) ?_
  refine z_k (S_getf cx (T := F_Mo) (N := 43) (k := 28) rfl in_Mo (by decide) rfl w_556 (by decide +kernel)) ?_
  refine z_k (S_iload_n cx (k := 1) (by decide +kernel) rfl) ?_
  refine z_k (S_aload_n cx (k := 0) (by decide +kernel) rfl) ?_
  refine z_k (S_getf cx (T := F_Mo) (N := 43) (k := 28) rfl in_Mo (by decide) rfl w_556 (by decide +kernel)) ?_
  refine z_k (S_iload_n cx (k := 1) (by decide +kernel) rfl) ?_
  refine z_k (S_iald cx (by decide +kernel)) ?_
  refine z_k (S_push cx (n := 1) (by decide +kernel) (by decide)) ?_
  refine z_k (S_iadd cx (by decide +kernel)) ?_
  refine z_k (S_iast cx (by decide +kernel)) ?_
  refine z_k (S_aload_n cx (k := 0) (by decide +kernel) rfl) ?_
  refine z_k (S_push cx (n := 2) (by decide +kernel) (by decide)) ?_
  refine z_k (S_callV cx (T := F_Mo) (N := 43) (r := r_Mo_newMessage) rfl ⟨w_732, w_4, by decide, by decide +kernel⟩ w_729 w_731 wp_26 rfl (by decide +kernel)) ?_
  refine z_k (S_iret (hf.2.1 rfl) (by decide +kernel)) ?_
  exact z_k0
theorem s_Mo_send : z_snd zTab r_Mo_send := ⟨by decide +kernel, w_768, fun g d p l e R s m args below meth c Q P cx hn hf => z_k (s_Mo_send_0 cx hn hf) (z_k (s_Mo_send_1 cx hn hf) (z_k (s_Mo_send_2 cx hn hf) (z_k (s_Mo_send_3 cx hn hf) (z_k0))))⟩
set_option maxRecDepth 100000 in
set_option maxHeartbeats 4000000 in
theorem s_Mo_isPart_0 (cx : z_cx zTab g d p l e R s m args below meth c prog_8_method_31_code "SealedTalksModel" 3) (hn : meth.name = "isPart") (hf : z_fin g p l e R s m args below meth c Q prog_8_method_31_code P (some .boolean)) : ∀ x ∈ k_Mo_isPart_0, z_sn zTab g d p l e R s m args below meth c Q 3 P x := by
  unfold k_Mo_isPart_0
  refine z_k (S_iload_n cx (k := 1) (by decide +kernel) rfl) ?_
  refine z_k (S_push cx (n := 0) (by decide +kernel) (by decide)) ?_
  refine z_k (S_aload_n cx (k := 0) (by decide +kernel) rfl) ?_
  refine z_k (S_getf cx (T := F_Mo) (N := 43) (k := 7) rfl in_Mo (by decide) rfl w_535 (by decide +kernel)) ?_
  refine z_k (S_push cx (n := 1) (by decide +kernel) (by decide)) ?_
  refine z_k (S_isub cx (by decide +kernel)) ?_
  refine z_k (S_callS cx (r := r_Mo_within) rfl ⟨w_666, w_4, by decide, by decide +kernel⟩ w_664 w_665 (by decide +kernel)) ?_
  refine z_k (S_if_eq cx (off := 23) (by decide +kernel) (by decide)) ?_
  refine z_k (S_iload_n cx (k := 2) (by decide +kernel) rfl) ?_
  refine z_k (S_push cx (n := 0) (by decide +kernel) (by decide)) ?_
  refine z_k (S_aload_n cx (k := 0) (by decide +kernel) rfl) ?_
  refine z_k (S_getf cx (T := F_Mo) (N := 43) (k := 8) rfl in_Mo (by decide) rfl w_536 (by decide +kernel)) ?_
  refine z_k (S_iload_n cx (k := 1) (by decide +kernel) rfl) ?_
  refine z_k (S_iald cx (by decide +kernel)) ?_
  refine z_k (S_push cx (n := 1) (by decide +kernel) (by decide)) ?_
  refine z_k (S_isub cx (by decide +kernel)) ?_
  refine z_k (S_callS cx (r := r_Mo_within) rfl ⟨w_666, w_4, by decide, by decide +kernel⟩ w_664 w_665 (by decide +kernel)) ?_
  refine z_k (S_if_eq cx (off := 7) (by decide +kernel) (by decide)) ?_
  refine z_k (S_push cx (n := 1) (by decide +kernel) (by decide)) ?_
  refine z_k (S_goto cx (off := 4) (by decide +kernel) (by decide)) ?_
  refine z_k (S_push cx (n := 0) (by decide +kernel) (by decide)) ?_
  refine z_k (S_zret (hf.2.2.1 rfl) (by decide +kernel)) ?_
  exact z_k0
theorem s_Mo_isPart : z_snd zTab r_Mo_isPart := ⟨by decide +kernel, w_776, fun g d p l e R s m args below meth c Q P cx hn hf => z_k (s_Mo_isPart_0 cx hn hf) (z_k0)⟩
set_option maxRecDepth 100000 in
set_option maxHeartbeats 4000000 in
theorem s_Mo_splice_0 (cx : z_cx zTab g d p l e R s m args below meth c prog_8_method_32_code "SealedTalksModel" 5) (hn : meth.name = "splice") (hf : z_fin g p l e R s m args below meth c Q prog_8_method_32_code P (some .int)) : ∀ x ∈ k_Mo_splice_0, z_sn zTab g d p l e R s m args below meth c Q 5 P x := by
  unfold k_Mo_splice_0
  refine z_k (S_aload_n cx (k := 0) (by decide +kernel) rfl) ?_
  refine z_k (S_iload_n cx (k := 1) (by decide +kernel) rfl) ?_
  refine z_k (S_iload_n cx (k := 2) (by decide +kernel) rfl) ?_
  refine z_k (S_callV cx (T := F_Mo) (N := 43) (r := r_Mo_isPart) rfl ⟨w_776, w_4, by decide, by decide +kernel⟩ w_773 w_775 wp_34 rfl (by decide +kernel)) ?_
  refine z_k (S_if_eq cx (off := 13) (by decide +kernel) (by decide)) ?_
  refine z_k (S_aload_n cx (k := 0) (by decide +kernel) rfl) ?_
  refine z_k (S_iload_n cx (k := 3) (by decide +kernel) rfl) ?_
  refine z_k (S_iload cx (by decide +kernel)) ?_
  refine z_k (S_callV cx (T := F_Mo) (N := 43) (r := r_Mo_isPart) rfl ⟨w_776, w_4, by decide, by decide +kernel⟩ w_773 w_775 wp_34 rfl (by decide +kernel)) ?_
  refine z_k (S_if_ne cx (off := 5) (by decide +kernel) (by decide)) ?_
  refine z_k (S_push cx (n := -1) (by decide +kernel) (by decide)) ?_
  refine z_k (S_iret (hf.2.1 rfl) (by decide +kernel)) ?_
  refine z_k (S_aload_n cx (k := 0) (by decide +kernel) rfl) ?_
  refine z_k (S_getf cx (T := F_Mo) (N := 43) (k := 7) rfl in_Mo (by decide) rfl w_535 (by decide +kernel)) ?_
  refine z_k (S_bipush cx (n := 60) (by decide +kernel) (by decide)) ?_
  refine z_k (S_icmp_ne cx (off := 6) (by decide +kernel) (by decide)) ?_
  refine z_k (S_bipush cx (n := -4) (by decide +kernel) (by decide)) ?_
  refine z_k (S_iret (hf.2.1 rfl) (by decide +kernel)) ?_
  refine z_k (S_aload_n cx (k := 0) (by decide +kernel) rfl) ?_
  refine z_k (S_iload_n cx (k := 1) (by decide +kernel) rfl) ?_
  refine z_k (S_callV cx (T := F_Mo) (N := 43) (r := r_Mo_fetch) rfl ⟨w_740, w_4, by decide, by decide +kernel⟩ w_737 w_739 wp_27 rfl (by decide +kernel)) ?_
  refine z_k (S_aload_n cx (k := 0) (by decide +kernel) rfl) ?_
  refine z_k (S_getf cx (T := F_Mo) (N := 43) (k := 40) rfl in_Mo (by decide) rfl w_568 (by decide +kernel)) ?_
  refine z_k (S_iload_n cx (k := 2) (by decide +kernel) rfl) ?_
  exact z_k0
set_option maxRecDepth 100000 in
set_option maxHeartbeats 4000000 in
theorem s_Mo_splice_1 (cx : z_cx zTab g d p l e R s m args below meth c prog_8_method_32_code "SealedTalksModel" 5) (hn : meth.name = "splice") (hf : z_fin g p l e R s m args below meth c Q prog_8_method_32_code P (some .int)) : ∀ x ∈ k_Mo_splice_1, z_sn zTab g d p l e R s m args below meth c Q 5 P x := by
  unfold k_Mo_splice_1
  refine z_k (S_aload_n cx (k := 0) (by decide +kernel) rfl) ?_
  refine z_k (S_getf cx (T := F_Mo) (N := 43) (k := 9) rfl in_Mo (by decide) rfl w_537 (by decide +kernel)) ?_
  refine z_k (S_push cx (n := 3) (by decide +kernel) (by decide)) ?_
  refine z_k (S_iload_n cx (k := 3) (by decide +kernel) rfl) ?_
  refine z_k (S_imul cx (by decide +kernel)) ?_
  refine z_k (S_iload cx (by decide +kernel)) ?_
  refine z_k (S_iadd cx (by decide +kernel)) ?_
  refine z_k (S_iald cx (by decide +kernel)) ?_
  refine z_k (S_iast cx (by decide +kernel)) ?_
  refine z_k (S_aload_n cx (k := 0) (by decide +kernel) rfl) ?_
  refine z_k (S_aload_n cx (k := 0) (by decide +kernel) rfl) ?_
  refine z_k (S_getf cx (T := F_Mo) (N := 43) (k := 39) rfl in_Mo (by decide) rfl w_567 (by decide +kernel)) ?_
  refine z_k (S_callV cx (T := F_Mo) (N := 43) (r := r_Mo_newMessage) rfl ⟨w_732, w_4, by decide, by decide +kernel⟩ w_729 w_731 wp_26 rfl (by decide +kernel)) ?_
  refine z_k (S_iret (hf.2.1 rfl) (by decide +kernel)) ?_
  exact z_k0
theorem s_Mo_splice : z_snd zTab r_Mo_splice := ⟨by decide +kernel, w_772, fun g d p l e R s m args below meth c Q P cx hn hf => z_k (s_Mo_splice_0 cx hn hf) (z_k (s_Mo_splice_1 cx hn hf) (z_k0))⟩
set_option maxRecDepth 100000 in
set_option maxHeartbeats 4000000 in
theorem s_Mo_replace_0 (cx : z_cx zTab g d p l e R s m args below meth c prog_8_method_33_code "SealedTalksModel" 4) (hn : meth.name = "replace") (hf : z_fin g p l e R s m args below meth c Q prog_8_method_33_code P (some .int)) : ∀ x ∈ k_Mo_replace_0, z_sn zTab g d p l e R s m args below meth c Q 4 P x := by
  unfold k_Mo_replace_0
  refine z_k (S_aload_n cx (k := 0) (by decide +kernel) rfl) ?_
  refine z_k (S_iload_n cx (k := 1) (by decide +kernel) rfl) ?_
  refine z_k (S_iload_n cx (k := 2) (by decide +kernel) rfl) ?_
  refine z_k (S_callV cx (T := F_Mo) (N := 43) (r := r_Mo_isPart) rfl ⟨w_776, w_4, by decide, by decide +kernel⟩ w_773 w_775 wp_34 rfl (by decide +kernel)) ?_
  refine z_k (S_if_ne cx (off := 5) (by decide +kernel) (by decide)) ?_
  refine z_k (S_push cx (n := -1) (by decide +kernel) (by decide)) ?_
  refine z_k (S_iret (hf.2.1 rfl) (by decide +kernel)) ?_
  refine z_k (S_aload_n cx (k := 0) (by decide +kernel) rfl) ?_
  refine z_k (S_getf cx (T := F_Mo) (N := 43) (k := 7) rfl in_Mo (by decide) rfl w_535 (by decide +kernel)) ?_
  refine z_k (S_bipush cx (n := 60) (by decide +kernel) (by decide)) ?_
  refine z_k (S_icmp_ne cx (off := 6) (by decide +kernel) (by decide)) ?_
  refine z_k (S_bipush cx (n := -4) (by decide +kernel) (by decide)) ?_
  refine z_k (S_iret (hf.2.1 rfl) (by decide +kernel)) ?_
  refine z_k (S_aload_n cx (k := 0) (by decide +kernel) rfl) ?_
  refine z_k (S_iload_n cx (k := 1) (by decide +kernel) rfl) ?_
  refine z_k (S_callV cx (T := F_Mo) (N := 43) (r := r_Mo_fetch) rfl ⟨w_740, w_4, by decide, by decide +kernel⟩ w_737 w_739 wp_27 rfl (by decide +kernel)) ?_
  refine z_k (S_aload_n cx (k := 0) (by decide +kernel) rfl) ?_
  refine z_k (S_getf cx (T := F_Mo) (N := 43) (k := 40) rfl in_Mo (by decide) rfl w_568 (by decide +kernel)) ?_
  refine z_k (S_iload_n cx (k := 2) (by decide +kernel) rfl) ?_
  refine z_k (S_aload_n cx (k := 0) (by decide +kernel) rfl) ?_
  refine z_k (S_iload_n cx (k := 3) (by decide +kernel) rfl) ?_
  refine z_k (S_callV cx (T := F_Mo) (N := 43) (r := r_Mo_num) rfl ⟨w_670, w_4, by decide, by decide +kernel⟩ w_667 w_669 wp_13 rfl (by decide +kernel)) ?_
  refine z_k (S_iast cx (by decide +kernel)) ?_
  refine z_k (S_aload_n cx (k := 0) (by decide +kernel) rfl) ?_
  exact z_k0
set_option maxRecDepth 100000 in
set_option maxHeartbeats 4000000 in
theorem s_Mo_replace_1 (cx : z_cx zTab g d p l e R s m args below meth c prog_8_method_33_code "SealedTalksModel" 4) (hn : meth.name = "replace") (hf : z_fin g p l e R s m args below meth c Q prog_8_method_33_code P (some .int)) : ∀ x ∈ k_Mo_replace_1, z_sn zTab g d p l e R s m args below meth c Q 4 P x := by
  unfold k_Mo_replace_1
  refine z_k (S_aload_n cx (k := 0) (by decide +kernel) rfl) ?_
  refine z_k (S_getf cx (T := F_Mo) (N := 43) (k := 39) rfl in_Mo (by decide) rfl w_567 (by decide +kernel)) ?_
  refine z_k (S_callV cx (T := F_Mo) (N := 43) (r := r_Mo_newMessage) rfl ⟨w_732, w_4, by decide, by decide +kernel⟩ w_729 w_731 wp_26 rfl (by decide +kernel)) ?_
  refine z_k (S_iret (hf.2.1 rfl) (by decide +kernel)) ?_
  exact z_k0
theorem s_Mo_replace : z_snd zTab r_Mo_replace := ⟨by decide +kernel, w_780, fun g d p l e R s m args below meth c Q P cx hn hf => z_k (s_Mo_replace_0 cx hn hf) (z_k (s_Mo_replace_1 cx hn hf) (z_k0))⟩
set_option maxRecDepth 100000 in
set_option maxHeartbeats 4000000 in
theorem s_Mo_give_0 (cx : z_cx zTab g d p l e R s m args below meth c prog_8_method_34_code "SealedTalksModel" 2) (hn : meth.name = "give") (hf : z_fin g p l e R s m args below meth c Q prog_8_method_34_code P (some .boolean)) : ∀ x ∈ k_Mo_give_0, z_sn zTab g d p l e R s m args below meth c Q 2 P x := by
  unfold k_Mo_give_0
  refine z_k (S_iload_n cx (k := 1) (by decide +kernel) rfl) ?_
  refine z_k (S_push cx (n := 1) (by decide +kernel) (by decide)) ?_
  refine z_k (S_bipush cx (n := 8) (by decide +kernel) (by decide)) ?_
  refine z_k (S_aload_n cx (k := 0) (by decide +kernel) rfl) ?_
  refine z_k (S_getf cx (T := F_Mo) (N := 43) (k := 10) rfl in_Mo (by decide) rfl w_538 (by decide +kernel)) ?_
  refine z_k (S_iadd cx (by decide +kernel)) ?_
  refine z_k (S_callS cx (r := r_Mo_within) rfl ⟨w_666, w_4, by decide, by decide +kernel⟩ w_664 w_665 (by decide +kernel)) ?_
  refine z_k (S_if_eq cx (off := 12) (by decide +kernel) (by decide)) ?_
  refine z_k (S_aload_n cx (k := 0) (by decide +kernel) rfl) ?_
  refine z_k (S_getf cx (T := F_Mo) (N := 43) (k := 11) rfl in_Mo (by decide) rfl w_539 (by decide +kernel)) ?_
  refine z_k (S_iload_n cx (k := 1) (by decide +kernel) rfl) ?_
  refine z_k (S_zald cx (by decide +kernel)) ?_
  refine z_k (S_if_eq cx (off := 5) (by decide +kernel) (by decide)) ?_
  refine z_k (S_push cx (n := 0) (by decide +kernel) (by decide)) ?_
  refine z_k (S_zret (hf.2.2.1 rfl) (by decide +kernel)) ?_
  refine z_k (S_aload_n cx (k := 0) (by decide +kernel) rfl) ?_
  refine z_k (S_getf cx (T := F_Mo) (N := 43) (k := 11) rfl in_Mo (by decide) rfl w_539 (by decide +kernel)) ?_
  refine z_k (S_iload_n cx (k := 1) (by decide +kernel) rfl) ?_
  refine z_k (S_push cx (n := 1) (by decide +kernel) (by decide)) ?_
  refine z_k (S_zast cx (by decide +kernel)) ?_
  refine z_k (S_push cx (n := 1) (by decide +kernel) (by decide)) ?_
  refine z_k (S_zret (hf.2.2.1 rfl) (by decide +kernel)) ?_
  exact z_k0
theorem s_Mo_give : z_snd zTab r_Mo_give := ⟨by decide +kernel, w_784, fun g d p l e R s m args below meth c Q P cx hn hf => z_k (s_Mo_give_0 cx hn hf) (z_k0)⟩
set_option maxRecDepth 100000 in
set_option maxHeartbeats 4000000 in
theorem s_Mo_tick_0 (cx : z_cx zTab g d p l e R s m args below meth c prog_8_method_35_code "SealedTalksModel" 3) (hn : meth.name = "tick") (hf : z_fin g p l e R s m args below meth c Q prog_8_method_35_code P (some .int)) : ∀ x ∈ k_Mo_tick_0, z_sn zTab g d p l e R s m args below meth c Q 3 P x := by
  unfold k_Mo_tick_0
  refine z_k (S_push cx (n := 0) (by decide +kernel) (by decide)) ?_
  refine z_k (S_istore_n cx (by decide) (k := 1) (by decide +kernel) rfl) ?_
  refine z_k (S_push cx (n := 0) (by decide +kernel) (by decide)) ?_
  refine z_k (S_istore_n cx (by decide) (k := 2) (by decide +kernel) rfl) ?_
  refine z_k (S_iload_n cx (k := 2) (by decide +kernel) rfl) ?_
  refine z_k (S_aload_n cx (k := 0) (by decide +kernel) rfl) ?_
  refine z_k (S_getf cx (T := F_Mo) (N := 43) (k := 12) rfl in_Mo (by decide) rfl w_540 (by decide +kernel)) ?_
  refine z_k (S_icmp_ge cx (off := 84) (by decide +kernel) (by decide)) ?_
  refine z_k (S_aload_n cx (k := 0) (by decide +kernel) rfl) ?_
  refine z_k (S_getf cx (T := F_Mo) (N := 43) (k := 24) rfl in_Mo (by decide) rfl w_552 (by decide +kernel)) ?_
  refine z_k (S_iload_n cx (k := 2) (by decide +kernel) rfl) ?_
  refine z_k (S_zald cx (by decide +kernel)) ?_
  refine z_k (S_if_ne cx (off := 69) (by decide +kernel) (by decide)) ?_
  refine z_k (S_aload_n cx (k := 0) (by decide +kernel) rfl) ?_
  refine z_k (S_getf cx (T := F_Mo) (N := 43) (k := 25) rfl in_Mo (by decide) rfl w_553 (by decide +kernel)) ?_
  refine z_k (S_iload_n cx (k := 2) (by decide +kernel) rfl) ?_
  refine z_k (S_aload_n cx (k := 0) (by decide +kernel) rfl) ?_
  refine z_k (S_getf cx (T := F_Mo) (N := 43) (k := 25) rfl in_Mo (by decide) rfl w_553 (by decide +kernel)) ?_
  refine z_k (S_iload_n cx (k := 2) (by decide +kernel) rfl) ?_
  refine z_k (S_iald cx (by decide +kernel)) ?_
  refine z_k (S_push cx (n := 1) (by decide +kernel) (by decide)) ?_
  refine z_k (S_iadd cx (by decide +kernel)) ?_
  refine z_k (S_iast cx (by decide +kernel)) ?_
  refine z_k (S_aload_n cx (k := 0) (by decide +kernel) rfl) ?_
  exact z_k0
set_option maxRecDepth 100000 in
set_option maxHeartbeats 4000000 in
theorem s_Mo_tick_1 (cx : z_cx zTab g d p l e R s m args below meth c prog_8_method_35_code "SealedTalksModel" 3) (hn : meth.name = "tick") (hf : z_fin g p l e R s m args below meth c Q prog_8_method_35_code P (some .int)) : ∀ x ∈ k_Mo_tick_1, z_sn zTab g d p l e R s m args below meth c Q 3 P x := by
  unfold k_Mo_tick_1
  refine z_k (S_getf cx (T := F_Mo) (N := 43) (k := 24) rfl in_Mo (by decide) rfl w_552 (by decide +kernel)) ?_
  refine z_k (S_iload_n cx (k := 2) (by decide +kernel) rfl) ?_
  refine z_k (S_aload_n cx (k := 0) (by decide +kernel) rfl) ?_
  refine z_k (S_getf cx (T := F_Mo) (N := 43) (k := 25) rfl in_Mo (by decide) rfl w_553 (by decide +kernel)) ?_
  refine z_k (S_iload_n cx (k := 2) (by decide +kernel) rfl) ?_
  refine z_k (S_iald cx (by decide +kernel)) ?_
  refine z_k (S_aload_n cx (k := 0) (by decide +kernel) rfl) ?_
  refine z_k (S_iload_n cx (k := 2) (by decide +kernel) rfl) ?_
  refine z_k (S_callV cx (T := F_Mo) (N := 43) (r := r_Mo_isDone) rfl ⟨w_694, w_4, by decide, by decide +kernel⟩ w_691 w_693 wp_18 rfl (by decide +kernel)) ?_
  refine z_k (S_if_eq cx (off := 8) (by decide +kernel) (by decide)) ?_
  refine z_k (S_bipush cx (n := 30) (by decide +kernel) (by decide)) ?_
  refine z_k (S_goto cx (off := 5) (by decide +kernel) (by decide)) ?_
  refine z_k (S_bipush cx (n := 6) (by decide +kernel) (by decide)) ?_
  refine z_k (S_icmp_ne cx (off := 7) (by decide +kernel) (by decide)) ?_
  refine z_k (S_push cx (n := 1) (by decide +kernel) (by decide)) ?_
  refine z_k (S_goto cx (off := 4) (by decide +kernel) (by decide)) ?_
  refine z_k (S_push cx (n := 0) (by decide +kernel) (by decide)) ?_
  refine z_k (S_zast cx (by decide +kernel)) ?_
  refine z_k (S_aload_n cx (k := 0) (by decide +kernel) rfl) ?_
  refine z_k (S_getf cx (T := F_Mo) (N := 43) (k := 24) rfl in_Mo (by decide) rfl w_552 (by decide +kernel)) ?_
  refine z_k (S_iload_n cx (k := 2) (by decide +kernel) rfl) ?_
  refine z_k (S_zald cx (by decide +kernel)) ?_
  refine z_k (S_if_eq cx (off := 9) (by decide +kernel) (by decide)) ?_
  refine z_k (S_iload_n cx (k := 1) (by decide +kernel) rfl) ?_
  exact z_k0
set_option maxRecDepth 100000 in
set_option maxHeartbeats 4000000 in
theorem s_Mo_tick_2 (cx : z_cx zTab g d p l e R s m args below meth c prog_8_method_35_code "SealedTalksModel" 3) (hn : meth.name = "tick") (hf : z_fin g p l e R s m args below meth c Q prog_8_method_35_code P (some .int)) : ∀ x ∈ k_Mo_tick_2, z_sn zTab g d p l e R s m args below meth c Q 3 P x := by
  unfold k_Mo_tick_2
  refine z_k (S_push cx (n := 1) (by decide +kernel) (by decide)) ?_
  refine z_k (S_iadd cx (by decide +kernel)) ?_
  refine z_k (S_goto cx (off := 4) (by decide +kernel) (by decide)) ?_
  refine z_k (S_iload_n cx (k := 1) (by decide +kernel) rfl) ?_
  refine z_k (S_istore_n cx (by decide) (k := 1) (by decide +kernel) rfl) ?_
  refine z_k (S_iinc cx (n := 1) (by decide) (by decide +kernel) (by decide)) ?_
  refine z_k (S_goto cx (off := -86) (by decide +kernel) (by decide)) ?_
  refine z_k (S_iload_n cx (k := 1) (by decide +kernel) rfl) ?_
  refine z_k (S_iret (hf.2.1 rfl) (by decide +kernel)) ?_
  exact z_k0
theorem s_Mo_tick : z_snd zTab r_Mo_tick := ⟨by decide +kernel, w_788, fun g d p l e R s m args below meth c Q P cx hn hf => z_k (s_Mo_tick_0 cx hn hf) (z_k (s_Mo_tick_1 cx hn hf) (z_k (s_Mo_tick_2 cx hn hf) (z_k0)))⟩
set_option maxRecDepth 100000 in
set_option maxHeartbeats 4000000 in
theorem s_Mo_state_0 (cx : z_cx zTab g d p l e R s m args below meth c prog_8_method_36_code "SealedTalksModel" 2) (hn : meth.name = "state") (hf : z_fin g p l e R s m args below meth c Q prog_8_method_36_code P (some .int)) : ∀ x ∈ k_Mo_state_0, z_sn zTab g d p l e R s m args below meth c Q 2 P x := by
  unfold k_Mo_state_0
  refine z_k (S_aload_n cx (k := 0) (by decide +kernel) rfl) ?_
  refine z_k (S_iload_n cx (k := 1) (by decide +kernel) rfl) ?_
  refine z_k (S_callV cx (T := F_Mo) (N := 43) (r := r_Mo_isSession) rfl ⟨w_690, w_4, by decide, by decide +kernel⟩ w_687 w_689 wp_17 rfl (by decide +kernel)) ?_
  refine z_k (S_if_ne cx (off := 7) (by decide +kernel) (by decide)) ?_
  refine z_k (S_push cx (n := -1) (by decide +kernel) (by decide)) ?_
  refine z_k (S_goto cx (off := 29) (by decide +kernel) (by decide)) ?_
  refine z_k (S_aload_n cx (k := 0) (by decide +kernel) rfl) ?_
  refine z_k (S_getf cx (T := F_Mo) (N := 43) (k := 24) rfl in_Mo (by decide) rfl w_552 (by decide +kernel)) ?_
  refine z_k (S_iload_n cx (k := 1) (by decide +kernel) rfl) ?_
  refine z_k (S_zald cx (by decide +kernel)) ?_
  refine z_k (S_if_eq cx (off := 7) (by decide +kernel) (by decide)) ?_
  refine z_k (S_push cx (n := 2) (by decide +kernel) (by decide)) ?_
  refine z_k (S_goto cx (off := 16) (by decide +kernel) (by decide)) ?_
  refine z_k (S_aload_n cx (k := 0) (by decide +kernel) rfl) ?_
  refine z_k (S_iload_n cx (k := 1) (by decide +kernel) rfl) ?_
  refine z_k (S_callV cx (T := F_Mo) (N := 43) (r := r_Mo_isDone) rfl ⟨w_694, w_4, by decide, by decide +kernel⟩ w_691 w_693 wp_18 rfl (by decide +kernel)) ?_
  refine z_k (S_if_eq cx (off := 7) (by decide +kernel) (by decide)) ?_
  refine z_k (S_push cx (n := 1) (by decide +kernel) (by decide)) ?_
  refine z_k (S_goto cx (off := 4) (by decide +kernel) (by decide)) ?_
  refine z_k (S_push cx (n := 0) (by decide +kernel) (by decide)) ?_
  refine z_k (S_iret (hf.2.1 rfl) (by decide +kernel)) ?_
  exact z_k0
theorem s_Mo_state : z_snd zTab r_Mo_state := ⟨by decide +kernel, w_792, fun g d p l e R s m args below meth c Q P cx hn hf => z_k (s_Mo_state_0 cx hn hf) (z_k0)⟩
set_option maxRecDepth 100000 in
set_option maxHeartbeats 4000000 in
theorem s_Mo_steps_0 (cx : z_cx zTab g d p l e R s m args below meth c prog_8_method_37_code "SealedTalksModel" 2) (hn : meth.name = "steps") (hf : z_fin g p l e R s m args below meth c Q prog_8_method_37_code P (some .int)) : ∀ x ∈ k_Mo_steps_0, z_sn zTab g d p l e R s m args below meth c Q 2 P x := by
  unfold k_Mo_steps_0
  refine z_k (S_aload_n cx (k := 0) (by decide +kernel) rfl) ?_
  refine z_k (S_iload_n cx (k := 1) (by decide +kernel) rfl) ?_
  refine z_k (S_callV cx (T := F_Mo) (N := 43) (r := r_Mo_isSession) rfl ⟨w_690, w_4, by decide, by decide +kernel⟩ w_687 w_689 wp_17 rfl (by decide +kernel)) ?_
  refine z_k (S_if_eq cx (off := 12) (by decide +kernel) (by decide)) ?_
  refine z_k (S_aload_n cx (k := 0) (by decide +kernel) rfl) ?_
  refine z_k (S_getf cx (T := F_Mo) (N := 43) (k := 23) rfl in_Mo (by decide) rfl w_551 (by decide +kernel)) ?_
  refine z_k (S_iload_n cx (k := 1) (by decide +kernel) rfl) ?_
  refine z_k (S_iald cx (by decide +kernel)) ?_
  refine z_k (S_goto cx (off := 4) (by decide +kernel) (by decide)) ?_
  refine z_k (S_push cx (n := -1) (by decide +kernel) (by decide)) ?_
  refine z_k (S_iret (hf.2.1 rfl) (by decide +kernel)) ?_
  exact z_k0
theorem s_Mo_steps : z_snd zTab r_Mo_steps := ⟨by decide +kernel, w_796, fun g d p l e R s m args below meth c Q P cx hn hf => z_k (s_Mo_steps_0 cx hn hf) (z_k0)⟩
set_option maxRecDepth 100000 in
set_option maxHeartbeats 4000000 in
theorem s_Mo_peer_0 (cx : z_cx zTab g d p l e R s m args below meth c prog_8_method_38_code "SealedTalksModel" 2) (hn : meth.name = "peer") (hf : z_fin g p l e R s m args below meth c Q prog_8_method_38_code P (some .int)) : ∀ x ∈ k_Mo_peer_0, z_sn zTab g d p l e R s m args below meth c Q 2 P x := by
  unfold k_Mo_peer_0
  refine z_k (S_aload_n cx (k := 0) (by decide +kernel) rfl) ?_
  refine z_k (S_iload_n cx (k := 1) (by decide +kernel) rfl) ?_
  refine z_k (S_callV cx (T := F_Mo) (N := 43) (r := r_Mo_isSession) rfl ⟨w_690, w_4, by decide, by decide +kernel⟩ w_687 w_689 wp_17 rfl (by decide +kernel)) ?_
  refine z_k (S_if_eq cx (off := 12) (by decide +kernel) (by decide)) ?_
  refine z_k (S_aload_n cx (k := 0) (by decide +kernel) rfl) ?_
  refine z_k (S_getf cx (T := F_Mo) (N := 43) (k := 18) rfl in_Mo (by decide) rfl w_546 (by decide +kernel)) ?_
  refine z_k (S_iload_n cx (k := 1) (by decide +kernel) rfl) ?_
  refine z_k (S_iald cx (by decide +kernel)) ?_
  refine z_k (S_goto cx (off := 4) (by decide +kernel) (by decide)) ?_
  refine z_k (S_push cx (n := -1) (by decide +kernel) (by decide)) ?_
  refine z_k (S_iret (hf.2.1 rfl) (by decide +kernel)) ?_
  exact z_k0
theorem s_Mo_peer : z_snd zTab r_Mo_peer := ⟨by decide +kernel, w_800, fun g d p l e R s m args below meth c Q P cx hn hf => z_k (s_Mo_peer_0 cx hn hf) (z_k0)⟩
set_option maxRecDepth 100000 in
set_option maxHeartbeats 4000000 in
theorem s_Mo_payload_0 (cx : z_cx zTab g d p l e R s m args below meth c prog_8_method_39_code "SealedTalksModel" 2) (hn : meth.name = "payload") (hf : z_fin g p l e R s m args below meth c Q prog_8_method_39_code P (some .int)) : ∀ x ∈ k_Mo_payload_0, z_sn zTab g d p l e R s m args below meth c Q 2 P x := by
  unfold k_Mo_payload_0
  refine z_k (S_aload_n cx (k := 0) (by decide +kernel) rfl) ?_
  refine z_k (S_iload_n cx (k := 1) (by decide +kernel) rfl) ?_
  refine z_k (S_callV cx (T := F_Mo) (N := 43) (r := r_Mo_isSession) rfl ⟨w_690, w_4, by decide, by decide +kernel⟩ w_687 w_689 wp_17 rfl (by decide +kernel)) ?_
  refine z_k (S_if_eq cx (off := 12) (by decide +kernel) (by decide)) ?_
  refine z_k (S_aload_n cx (k := 0) (by decide +kernel) rfl) ?_
  refine z_k (S_getf cx (T := F_Mo) (N := 43) (k := 26) rfl in_Mo (by decide) rfl w_554 (by decide +kernel)) ?_
  refine z_k (S_iload_n cx (k := 1) (by decide +kernel) rfl) ?_
  refine z_k (S_iald cx (by decide +kernel)) ?_
  refine z_k (S_goto cx (off := 4) (by decide +kernel) (by decide)) ?_
  refine z_k (S_push cx (n := 0) (by decide +kernel) (by decide)) ?_
  refine z_k (S_iret (hf.2.1 rfl) (by decide +kernel)) ?_
  exact z_k0
theorem s_Mo_payload : z_snd zTab r_Mo_payload := ⟨by decide +kernel, w_804, fun g d p l e R s m args below meth c Q P cx hn hf => z_k (s_Mo_payload_0 cx hn hf) (z_k0)⟩
set_option maxRecDepth 100000 in
set_option maxHeartbeats 4000000 in
theorem s_Mo_accepted_0 (cx : z_cx zTab g d p l e R s m args below meth c prog_8_method_40_code "SealedTalksModel" 2) (hn : meth.name = "accepted") (hf : z_fin g p l e R s m args below meth c Q prog_8_method_40_code P (some .int)) : ∀ x ∈ k_Mo_accepted_0, z_sn zTab g d p l e R s m args below meth c Q 2 P x := by
  unfold k_Mo_accepted_0
  refine z_k (S_aload_n cx (k := 0) (by decide +kernel) rfl) ?_
  refine z_k (S_iload_n cx (k := 1) (by decide +kernel) rfl) ?_
  refine z_k (S_callV cx (T := F_Mo) (N := 43) (r := r_Mo_isSession) rfl ⟨w_690, w_4, by decide, by decide +kernel⟩ w_687 w_689 wp_17 rfl (by decide +kernel)) ?_
  refine z_k (S_if_eq cx (off := 12) (by decide +kernel) (by decide)) ?_
  refine z_k (S_aload_n cx (k := 0) (by decide +kernel) rfl) ?_
  refine z_k (S_getf cx (T := F_Mo) (N := 43) (k := 27) rfl in_Mo (by decide) rfl w_555 (by decide +kernel)) ?_
  refine z_k (S_iload_n cx (k := 1) (by decide +kernel) rfl) ?_
  refine z_k (S_iald cx (by decide +kernel)) ?_
  refine z_k (S_goto cx (off := 4) (by decide +kernel) (by decide)) ?_
  refine z_k (S_push cx (n := -1) (by decide +kernel) (by decide)) ?_
  refine z_k (S_iret (hf.2.1 rfl) (by decide +kernel)) ?_
  exact z_k0
theorem s_Mo_accepted : z_snd zTab r_Mo_accepted := ⟨by decide +kernel, w_808, fun g d p l e R s m args below meth c Q P cx hn hf => z_k (s_Mo_accepted_0 cx hn hf) (z_k0)⟩
set_option maxRecDepth 100000 in
set_option maxHeartbeats 4000000 in
theorem s_Mo_match_0 (cx : z_cx zTab g d p l e R s m args below meth c prog_8_method_41_code "SealedTalksModel" 3) (hn : meth.name = "match") (hf : z_fin g p l e R s m args below meth c Q prog_8_method_41_code P (some .boolean)) : ∀ x ∈ k_Mo_match_0, z_sn zTab g d p l e R s m args below meth c Q 3 P x := by
  unfold k_Mo_match_0
  refine z_k (S_aload_n cx (k := 0) (by decide +kernel) rfl) ?_
  refine z_k (S_iload_n cx (k := 1) (by decide +kernel) rfl) ?_
  refine z_k (S_callV cx (T := F_Mo) (N := 43) (r := r_Mo_isSession) rfl ⟨w_690, w_4, by decide, by decide +kernel⟩ w_687 w_689 wp_17 rfl (by decide +kernel)) ?_
  refine z_k (S_if_eq cx (off := 61) (by decide +kernel) (by decide)) ?_
  refine z_k (S_aload_n cx (k := 0) (by decide +kernel) rfl) ?_
  refine z_k (S_iload_n cx (k := 2) (by decide +kernel) rfl) ?_
  refine z_k (S_callV cx (T := F_Mo) (N := 43) (r := r_Mo_isSession) rfl ⟨w_690, w_4, by decide, by decide +kernel⟩ w_687 w_689 wp_17 rfl (by decide +kernel)) ?_
  refine z_k (S_if_eq cx (off := 53) (by decide +kernel) (by decide)) ?_
  refine z_k (S_aload_n cx (k := 0) (by decide +kernel) rfl) ?_
  refine z_k (S_iload_n cx (k := 1) (by decide +kernel) rfl) ?_
  refine z_k (S_callV cx (T := F_Mo) (N := 43) (r := r_Mo_isDone) rfl ⟨w_694, w_4, by decide, by decide +kernel⟩ w_691 w_693 wp_18 rfl (by decide +kernel)) ?_
  refine z_k (S_if_eq cx (off := 45) (by decide +kernel) (by decide)) ?_
  refine z_k (S_aload_n cx (k := 0) (by decide +kernel) rfl) ?_
  refine z_k (S_iload_n cx (k := 2) (by decide +kernel) rfl) ?_
  refine z_k (S_callV cx (T := F_Mo) (N := 43) (r := r_Mo_isDone) rfl ⟨w_694, w_4, by decide, by decide +kernel⟩ w_691 w_693 wp_18 rfl (by decide +kernel)) ?_
  refine z_k (S_if_eq cx (off := 37) (by decide +kernel) (by decide)) ?_
  refine z_k (S_aload_n cx (k := 0) (by decide +kernel) rfl) ?_
  refine z_k (S_getf cx (T := F_Mo) (N := 43) (k := 14) rfl in_Mo (by decide) rfl w_542 (by decide +kernel)) ?_
  refine z_k (S_iload_n cx (k := 1) (by decide +kernel) rfl) ?_
  refine z_k (S_zald cx (by decide +kernel)) ?_
  refine z_k (S_aload_n cx (k := 0) (by decide +kernel) rfl) ?_
  refine z_k (S_getf cx (T := F_Mo) (N := 43) (k := 14) rfl in_Mo (by decide) rfl w_542 (by decide +kernel)) ?_
  refine z_k (S_iload_n cx (k := 2) (by decide +kernel) rfl) ?_
  refine z_k (S_zald cx (by decide +kernel)) ?_
  exact z_k0
set_option maxRecDepth 100000 in
set_option maxHeartbeats 4000000 in
theorem s_Mo_match_1 (cx : z_cx zTab g d p l e R s m args below meth c prog_8_method_41_code "SealedTalksModel" 3) (hn : meth.name = "match") (hf : z_fin g p l e R s m args below meth c Q prog_8_method_41_code P (some .boolean)) : ∀ x ∈ k_Mo_match_1, z_sn zTab g d p l e R s m args below meth c Q 3 P x := by
  unfold k_Mo_match_1
  refine z_k (S_icmp_eq cx (off := 22) (by decide +kernel) (by decide)) ?_
  refine z_k (S_aload_n cx (k := 0) (by decide +kernel) rfl) ?_
  refine z_k (S_getf cx (T := F_Mo) (N := 43) (k := 20) rfl in_Mo (by decide) rfl w_548 (by decide +kernel)) ?_
  refine z_k (S_iload_n cx (k := 1) (by decide +kernel) rfl) ?_
  refine z_k (S_iald cx (by decide +kernel)) ?_
  refine z_k (S_aload_n cx (k := 0) (by decide +kernel) rfl) ?_
  refine z_k (S_getf cx (T := F_Mo) (N := 43) (k := 20) rfl in_Mo (by decide) rfl w_548 (by decide +kernel)) ?_
  refine z_k (S_iload_n cx (k := 2) (by decide +kernel) rfl) ?_
  refine z_k (S_iald cx (by decide +kernel)) ?_
  refine z_k (S_icmp_ne cx (off := 7) (by decide +kernel) (by decide)) ?_
  refine z_k (S_push cx (n := 1) (by decide +kernel) (by decide)) ?_
  refine z_k (S_goto cx (off := 4) (by decide +kernel) (by decide)) ?_
  refine z_k (S_push cx (n := 0) (by decide +kernel) (by decide)) ?_
  refine z_k (S_zret (hf.2.2.1 rfl) (by decide +kernel)) ?_
  exact z_k0
theorem s_Mo_match : z_snd zTab r_Mo_match := ⟨by decide +kernel, w_812, fun g d p l e R s m args below meth c Q P cx hn hf => z_k (s_Mo_match_0 cx hn hf) (z_k (s_Mo_match_1 cx hn hf) (z_k0))⟩
set_option maxRecDepth 100000 in
set_option maxHeartbeats 4000000 in
theorem s_Mo_open_0 (cx : z_cx zTab g d p l e R s m args below meth c prog_8_method_42_code "SealedTalksModel" 2) (hn : meth.name = "open") (hf : z_fin g p l e R s m args below meth c Q prog_8_method_42_code P (some .boolean)) : ∀ x ∈ k_Mo_open_0, z_sn zTab g d p l e R s m args below meth c Q 2 P x := by
  unfold k_Mo_open_0
  refine z_k (S_aload_n cx (k := 0) (by decide +kernel) rfl) ?_
  refine z_k (S_iload_n cx (k := 1) (by decide +kernel) rfl) ?_
  refine z_k (S_callV cx (T := F_Mo) (N := 43) (r := r_Mo_isSession) rfl ⟨w_690, w_4, by decide, by decide +kernel⟩ w_687 w_689 wp_17 rfl (by decide +kernel)) ?_
  refine z_k (S_if_eq cx (off := 11) (by decide +kernel) (by decide)) ?_
  refine z_k (S_aload_n cx (k := 0) (by decide +kernel) rfl) ?_
  refine z_k (S_iload_n cx (k := 1) (by decide +kernel) rfl) ?_
  refine z_k (S_callV cx (T := F_Mo) (N := 43) (r := r_Mo_isDone) rfl ⟨w_694, w_4, by decide, by decide +kernel⟩ w_691 w_693 wp_18 rfl (by decide +kernel)) ?_
  refine z_k (S_if_ne cx (off := 5) (by decide +kernel) (by decide)) ?_
  refine z_k (S_push cx (n := 0) (by decide +kernel) (by decide)) ?_
  refine z_k (S_zret (hf.2.2.1 rfl) (by decide +kernel)) ?_
  refine z_k (S_aload_n cx (k := 0) (by decide +kernel) rfl) ?_
  refine z_k (S_callV cx (T := F_Mo) (N := 43) (r := r_Mo_workOut) rfl ⟨w_820, w_4, by decide, by decide +kernel⟩ w_817 w_819 wp_35 rfl (by decide +kernel)) ?_
  refine z_k (S_aload_n cx (k := 0) (by decide +kernel) rfl) ?_
  refine z_k (S_getf cx (T := F_Mo) (N := 43) (k := 6) rfl in_Mo (by decide) rfl w_534 (by decide +kernel)) ?_
  refine z_k (S_aload_n cx (k := 0) (by decide +kernel) rfl) ?_
  refine z_k (S_getf cx (T := F_Mo) (N := 43) (k := 20) rfl in_Mo (by decide) rfl w_548 (by decide +kernel)) ?_
  refine z_k (S_iload_n cx (k := 1) (by decide +kernel) rfl) ?_
  refine z_k (S_iald cx (by decide +kernel)) ?_
  refine z_k (S_zald cx (by decide +kernel)) ?_
  refine z_k (S_zret (hf.2.2.1 rfl) (by decide +kernel)) ?_
  exact z_k0
theorem s_Mo_open : z_snd zTab r_Mo_open := ⟨by decide +kernel, w_816, fun g d p l e R s m args below meth c Q P cx hn hf => z_k (s_Mo_open_0 cx hn hf) (z_k0)⟩
set_option maxRecDepth 100000 in
set_option maxHeartbeats 4000000 in
theorem s_Mo_parts_0 (cx : z_cx zTab g d p l e R s m args below meth c prog_8_method_43_code "SealedTalksModel" 2) (hn : meth.name = "parts") (hf : z_fin g p l e R s m args below meth c Q prog_8_method_43_code P (some .int)) : ∀ x ∈ k_Mo_parts_0, z_sn zTab g d p l e R s m args below meth c Q 2 P x := by
  unfold k_Mo_parts_0
  refine z_k (S_iload_n cx (k := 1) (by decide +kernel) rfl) ?_
  refine z_k (S_push cx (n := 0) (by decide +kernel) (by decide)) ?_
  refine z_k (S_aload_n cx (k := 0) (by decide +kernel) rfl) ?_
  refine z_k (S_getf cx (T := F_Mo) (N := 43) (k := 7) rfl in_Mo (by decide) rfl w_535 (by decide +kernel)) ?_
  refine z_k (S_push cx (n := 1) (by decide +kernel) (by decide)) ?_
  refine z_k (S_isub cx (by decide +kernel)) ?_
  refine z_k (S_callS cx (r := r_Mo_within) rfl ⟨w_666, w_4, by decide, by decide +kernel⟩ w_664 w_665 (by decide +kernel)) ?_
  refine z_k (S_if_eq cx (off := 12) (by decide +kernel) (by decide)) ?_
  refine z_k (S_aload_n cx (k := 0) (by decide +kernel) rfl) ?_
  refine z_k (S_getf cx (T := F_Mo) (N := 43) (k := 8) rfl in_Mo (by decide) rfl w_536 (by decide +kernel)) ?_
  refine z_k (S_iload_n cx (k := 1) (by decide +kernel) rfl) ?_
  refine z_k (S_iald cx (by decide +kernel)) ?_
  refine z_k (S_goto cx (off := 4) (by decide +kernel) (by decide)) ?_
  refine z_k (S_push cx (n := -1) (by decide +kernel) (by decide)) ?_
  refine z_k (S_iret (hf.2.1 rfl) (by decide +kernel)) ?_
  exact z_k0
theorem s_Mo_parts : z_snd zTab r_Mo_parts := ⟨by decide +kernel, w_824, fun g d p l e R s m args below meth c Q P cx hn hf => z_k (s_Mo_parts_0 cx hn hf) (z_k0)⟩
set_option maxRecDepth 100000 in
set_option maxHeartbeats 4000000 in
theorem s_Mo_sees_0 (cx : z_cx zTab g d p l e R s m args below meth c prog_8_method_44_code "SealedTalksModel" 4) (hn : meth.name = "sees") (hf : z_fin g p l e R s m args below meth c Q prog_8_method_44_code P (some .int)) : ∀ x ∈ k_Mo_sees_0, z_sn zTab g d p l e R s m args below meth c Q 4 P x := by
  unfold k_Mo_sees_0
  refine z_k (S_aload_n cx (k := 0) (by decide +kernel) rfl) ?_
  refine z_k (S_iload_n cx (k := 1) (by decide +kernel) rfl) ?_
  refine z_k (S_iload_n cx (k := 2) (by decide +kernel) rfl) ?_
  refine z_k (S_callV cx (T := F_Mo) (N := 43) (r := r_Mo_isPart) rfl ⟨w_776, w_4, by decide, by decide +kernel⟩ w_773 w_775 wp_34 rfl (by decide +kernel)) ?_
  refine z_k (S_if_ne cx (off := 5) (by decide +kernel) (by decide)) ?_
  refine z_k (S_push cx (n := -1) (by decide +kernel) (by decide)) ?_
  refine z_k (S_iret (hf.2.1 rfl) (by decide +kernel)) ?_
  refine z_k (S_aload_n cx (k := 0) (by decide +kernel) rfl) ?_
  refine z_k (S_getf cx (T := F_Mo) (N := 43) (k := 9) rfl in_Mo (by decide) rfl w_537 (by decide +kernel)) ?_
  refine z_k (S_push cx (n := 3) (by decide +kernel) (by decide)) ?_
  refine z_k (S_iload_n cx (k := 1) (by decide +kernel) rfl) ?_
  refine z_k (S_imul cx (by decide +kernel)) ?_
  refine z_k (S_iload_n cx (k := 2) (by decide +kernel) rfl) ?_
  refine z_k (S_iadd cx (by decide +kernel)) ?_
  refine z_k (S_iald cx (by decide +kernel)) ?_
  refine z_k (S_istore_n cx (by decide) (k := 3) (by decide +kernel) rfl) ?_
  refine z_k (S_aload_n cx (k := 0) (by decide +kernel) rfl) ?_
  refine z_k (S_getf cx (T := F_Mo) (N := 43) (k := 1) rfl in_Mo (by decide) rfl w_529 (by decide +kernel)) ?_
  refine z_k (S_iload_n cx (k := 3) (by decide +kernel) rfl) ?_
  refine z_k (S_bald cx (by decide +kernel)) ?_
  refine z_k (S_push cx (n := 3) (by decide +kernel) (by decide)) ?_
  refine z_k (S_icmp_ge cx (off := 10) (by decide +kernel) (by decide)) ?_
  refine z_k (S_aload_n cx (k := 0) (by decide +kernel) rfl) ?_
  refine z_k (S_getf cx (T := F_Mo) (N := 43) (k := 1) rfl in_Mo (by decide) rfl w_529 (by decide +kernel)) ?_
  exact z_k0
set_option maxRecDepth 100000 in
set_option maxHeartbeats 4000000 in
theorem s_Mo_sees_1 (cx : z_cx zTab g d p l e R s m args below meth c prog_8_method_44_code "SealedTalksModel" 4) (hn : meth.name = "sees") (hf : z_fin g p l e R s m args below meth c Q prog_8_method_44_code P (some .int)) : ∀ x ∈ k_Mo_sees_1, z_sn zTab g d p l e R s m args below meth c Q 4 P x := by
  unfold k_Mo_sees_1
  refine z_k (S_iload_n cx (k := 3) (by decide +kernel) rfl) ?_
  refine z_k (S_bald cx (by decide +kernel)) ?_
  refine z_k (S_iret (hf.2.1 rfl) (by decide +kernel)) ?_
  refine z_k (S_aload_n cx (k := 0) (by decide +kernel) rfl) ?_
  refine z_k (S_callV cx (T := F_Mo) (N := 43) (r := r_Mo_workOut) rfl ⟨w_820, w_4, by decide, by decide +kernel⟩ w_817 w_819 wp_35 rfl (by decide +kernel)) ?_
  refine z_k (S_aload_n cx (k := 0) (by decide +kernel) rfl) ?_
  refine z_k (S_getf cx (T := F_Mo) (N := 43) (k := 6) rfl in_Mo (by decide) rfl w_534 (by decide +kernel)) ?_
  refine z_k (S_aload_n cx (k := 0) (by decide +kernel) rfl) ?_
  refine z_k (S_getf cx (T := F_Mo) (N := 43) (k := 3) rfl in_Mo (by decide) rfl w_531 (by decide +kernel)) ?_
  refine z_k (S_iload_n cx (k := 3) (by decide +kernel) rfl) ?_
  refine z_k (S_sald cx (by decide +kernel)) ?_
  refine z_k (S_zald cx (by decide +kernel)) ?_
  refine z_k (S_if_eq cx (off := 7) (by decide +kernel) (by decide)) ?_
  refine z_k (S_push cx (n := 3) (by decide +kernel) (by decide)) ?_
  refine z_k (S_goto cx (off := 4) (by decide +kernel) (by decide)) ?_
  refine z_k (S_push cx (n := 4) (by decide +kernel) (by decide)) ?_
  refine z_k (S_iret (hf.2.1 rfl) (by decide +kernel)) ?_
  exact z_k0
theorem s_Mo_sees : z_snd zTab r_Mo_sees := ⟨by decide +kernel, w_828, fun g d p l e R s m args below meth c Q P cx hn hf => z_k (s_Mo_sees_0 cx hn hf) (z_k (s_Mo_sees_1 cx hn hf) (z_k0))⟩
end ZR43
end
section
/-! Each method of SealedTalksModel is sound (4). By program. -/
section ZR44
variable {g : zG} {d : Nat} {p : Program} {l : Launch} {e : Env} {R : Room} {s : State} {m : MethodId} {args : Array Value} {below : List Frame} {meth : Method} {c : Code} {Q : State → Prop} {P : zP}
set_option maxRecDepth 100000 in
set_option maxHeartbeats 4000000 in
theorem s_Mo_shown_0 (cx : z_cx zTab g d p l e R s m args below meth c prog_8_method_45_code "SealedTalksModel" 6) (hn : meth.name = "shown") (hf : z_fin g p l e R s m args below meth c Q prog_8_method_45_code P (some .int)) : ∀ x ∈ k_Mo_shown_0, z_sn zTab g d p l e R s m args below meth c Q 6 P x := by
  unfold k_Mo_shown_0
  refine z_k (S_aload_n cx (k := 0) (by decide +kernel) rfl) ?_
  refine z_k (S_iload_n cx (k := 1) (by decide +kernel) rfl) ?_
  refine z_k (S_iload_n cx (k := 2) (by decide +kernel) rfl) ?_
  refine z_k (S_callV cx (T := F_Mo) (N := 43) (r := r_Mo_sees) rfl ⟨w_828, w_4, by decide, by decide +kernel⟩ w_833 w_826 w_827 rfl (by decide +kernel)) ?_
  refine z_k (S_istore_n cx (by decide) (k := 3) (by decide +kernel) rfl) ?_
  refine z_k (S_iload_n cx (k := 3) (by decide +kernel) rfl) ?_
  refine z_k (S_if_lt cx (off := 8) (by decide +kernel) (by decide)) ?_
  refine z_k (S_iload_n cx (k := 3) (by decide +kernel) rfl) ?_
  refine z_k (S_push cx (n := 4) (by decide +kernel) (by decide)) ?_
  refine z_k (S_icmp_ne cx (off := 5) (by decide +kernel) (by decide)) ?_
  refine z_k (S_push cx (n := 0) (by decide +kernel) (by decide)) ?_
  refine z_k (S_iret (hf.2.1 rfl) (by decide +kernel)) ?_
  refine z_k (S_aload_n cx (k := 0) (by decide +kernel) rfl) ?_
  refine z_k (S_getf cx (T := F_Mo) (N := 43) (k := 9) rfl in_Mo (by decide) rfl w_537 (by decide +kernel)) ?_
  refine z_k (S_push cx (n := 3) (by decide +kernel) (by decide)) ?_
  refine z_k (S_iload_n cx (k := 1) (by decide +kernel) rfl) ?_
  refine z_k (S_imul cx (by decide +kernel)) ?_
  refine z_k (S_iload_n cx (k := 2) (by decide +kernel) rfl) ?_
  refine z_k (S_iadd cx (by decide +kernel)) ?_
  refine z_k (S_iald cx (by decide +kernel)) ?_
  refine z_k (S_istore cx (by decide) (by decide +kernel)) ?_
  refine z_k (S_aload_n cx (k := 0) (by decide +kernel) rfl) ?_
  refine z_k (S_getf cx (T := F_Mo) (N := 43) (k := 5) rfl in_Mo (by decide) rfl w_533 (by decide +kernel)) ?_
  refine z_k (S_iload cx (by decide +kernel)) ?_
  exact z_k0
set_option maxRecDepth 100000 in
set_option maxHeartbeats 4000000 in
theorem s_Mo_shown_1 (cx : z_cx zTab g d p l e R s m args below meth c prog_8_method_45_code "SealedTalksModel" 6) (hn : meth.name = "shown") (hf : z_fin g p l e R s m args below meth c Q prog_8_method_45_code P (some .int)) : ∀ x ∈ k_Mo_shown_1, z_sn zTab g d p l e R s m args below meth c Q 6 P x := by
  unfold k_Mo_shown_1
  refine z_k (S_sald cx (by decide +kernel)) ?_
  refine z_k (S_istore cx (by decide) (by decide +kernel)) ?_
  refine z_k (S_iload_n cx (k := 3) (by decide +kernel) rfl) ?_
  refine z_k (S_push cx (n := 3) (by decide +kernel) (by decide)) ?_
  refine z_k (S_icmp_ne cx (off := 13) (by decide +kernel) (by decide)) ?_
  refine z_k (S_aload_n cx (k := 0) (by decide +kernel) rfl) ?_
  refine z_k (S_getf cx (T := F_Mo) (N := 43) (k := 2) rfl in_Mo (by decide) rfl w_530 (by decide +kernel)) ?_
  refine z_k (S_iload cx (by decide +kernel)) ?_
  refine z_k (S_iald cx (by decide +kernel)) ?_
  refine z_k (S_goto cx (off := 10) (by decide +kernel) (by decide)) ?_
  refine z_k (S_aload_n cx (k := 0) (by decide +kernel) rfl) ?_
  refine z_k (S_getf cx (T := F_Mo) (N := 43) (k := 2) rfl in_Mo (by decide) rfl w_530 (by decide +kernel)) ?_
  refine z_k (S_iload cx (by decide +kernel)) ?_
  refine z_k (S_iald cx (by decide +kernel)) ?_
  refine z_k (S_iret (hf.2.1 rfl) (by decide +kernel)) ?_
  exact z_k0
theorem s_Mo_shown : z_snd zTab r_Mo_shown := ⟨by decide +kernel, w_832, fun g d p l e R s m args below meth c Q P cx hn hf => z_k (s_Mo_shown_0 cx hn hf) (z_k (s_Mo_shown_1 cx hn hf) (z_k0))⟩
set_option maxRecDepth 100000 in
set_option maxHeartbeats 4000000 in
theorem s_Mo_same_0 (cx : z_cx zTab g d p l e R s m args below meth c prog_8_method_46_code "SealedTalksModel" 5) (hn : meth.name = "same") (hf : z_fin g p l e R s m args below meth c Q prog_8_method_46_code P (some .boolean)) : ∀ x ∈ k_Mo_same_0, z_sn zTab g d p l e R s m args below meth c Q 5 P x := by
  unfold k_Mo_same_0
  refine z_k (S_aload_n cx (k := 0) (by decide +kernel) rfl) ?_
  refine z_k (S_iload_n cx (k := 1) (by decide +kernel) rfl) ?_
  refine z_k (S_iload_n cx (k := 2) (by decide +kernel) rfl) ?_
  refine z_k (S_callV cx (T := F_Mo) (N := 43) (r := r_Mo_isPart) rfl ⟨w_776, w_4, by decide, by decide +kernel⟩ w_773 w_775 wp_34 rfl (by decide +kernel)) ?_
  refine z_k (S_if_eq cx (off := 41) (by decide +kernel) (by decide)) ?_
  refine z_k (S_aload_n cx (k := 0) (by decide +kernel) rfl) ?_
  refine z_k (S_iload_n cx (k := 3) (by decide +kernel) rfl) ?_
  refine z_k (S_iload cx (by decide +kernel)) ?_
  refine z_k (S_callV cx (T := F_Mo) (N := 43) (r := r_Mo_isPart) rfl ⟨w_776, w_4, by decide, by decide +kernel⟩ w_773 w_775 wp_34 rfl (by decide +kernel)) ?_
  refine z_k (S_if_eq cx (off := 31) (by decide +kernel) (by decide)) ?_
  refine z_k (S_aload_n cx (k := 0) (by decide +kernel) rfl) ?_
  refine z_k (S_getf cx (T := F_Mo) (N := 43) (k := 9) rfl in_Mo (by decide) rfl w_537 (by decide +kernel)) ?_
  refine z_k (S_push cx (n := 3) (by decide +kernel) (by decide)) ?_
  refine z_k (S_iload_n cx (k := 1) (by decide +kernel) rfl) ?_
  refine z_k (S_imul cx (by decide +kernel)) ?_
  refine z_k (S_iload_n cx (k := 2) (by decide +kernel) rfl) ?_
  refine z_k (S_iadd cx (by decide +kernel)) ?_
  refine z_k (S_iald cx (by decide +kernel)) ?_
  refine z_k (S_aload_n cx (k := 0) (by decide +kernel) rfl) ?_
  refine z_k (S_getf cx (T := F_Mo) (N := 43) (k := 9) rfl in_Mo (by decide) rfl w_537 (by decide +kernel)) ?_
  refine z_k (S_push cx (n := 3) (by decide +kernel) (by decide)) ?_
  refine z_k (S_iload_n cx (k := 3) (by decide +kernel) rfl) ?_
  refine z_k (S_imul cx (by decide +kernel)) ?_
  refine z_k (S_iload cx (by decide +kernel)) ?_
  exact z_k0
set_option maxRecDepth 100000 in
set_option maxHeartbeats 4000000 in
theorem s_Mo_same_1 (cx : z_cx zTab g d p l e R s m args below meth c prog_8_method_46_code "SealedTalksModel" 5) (hn : meth.name = "same") (hf : z_fin g p l e R s m args below meth c Q prog_8_method_46_code P (some .boolean)) : ∀ x ∈ k_Mo_same_1, z_sn zTab g d p l e R s m args below meth c Q 5 P x := by
  unfold k_Mo_same_1
  refine z_k (S_iadd cx (by decide +kernel)) ?_
  refine z_k (S_iald cx (by decide +kernel)) ?_
  refine z_k (S_icmp_ne cx (off := 7) (by decide +kernel) (by decide)) ?_
  refine z_k (S_push cx (n := 1) (by decide +kernel) (by decide)) ?_
  refine z_k (S_goto cx (off := 4) (by decide +kernel) (by decide)) ?_
  refine z_k (S_push cx (n := 0) (by decide +kernel) (by decide)) ?_
  refine z_k (S_zret (hf.2.2.1 rfl) (by decide +kernel)) ?_
  exact z_k0
theorem s_Mo_same : z_snd zTab r_Mo_same := ⟨by decide +kernel, w_837, fun g d p l e R s m args below meth c Q P cx hn hf => z_k (s_Mo_same_0 cx hn hf) (z_k (s_Mo_same_1 cx hn hf) (z_k0))⟩
end ZR44
end
section
/-! The law is sound. By program. -/
section ZRL
variable {g : zG} {d : Nat} {p : Program} {l : Launch} {e : Env} {R : Room} {s : State} {m : MethodId} {args : Array Value} {below : List Frame} {meth : Method} {c : Code} {Q : State → Prop} {P : zP}
set_option maxRecDepth 100000 in
set_option maxHeartbeats 4000000 in
theorem s_La_law_0 (cx : z_cx zTab g d p l e R s m args below meth c code "SealedTalksLaw" 4) (hf : z_fin g p l e R s m args below meth c Q code P (some .boolean)) : ∀ x ∈ k_La_law_0, z_sn zTab g d p l e R s m args below meth c Q 4 P x := by
  unfold k_La_law_0
  refine z_k (S_new cx (T := F_St) (ty := t_St) rfl in_St t_St_ok w_9 w_10 w_1 fs_St (by decide +kernel)) ?_
  refine z_k (S_dup cx (by decide +kernel)) ?_
  refine z_k (S_callI cx (r := r_St_init) rfl ⟨w_13, w_1, by decide, by decide +kernel⟩ w_11 w_12 rfl rfl (by decide +kernel)) ?_
  refine z_k (S_astore_n cx (by decide) (k := 1) (by decide +kernel) rfl) ?_
  refine z_k (S_new cx (T := F_Mo) (ty := t_Mo) rfl in_Mo t_Mo_ok w_522 w_523 w_4 fs_Mo (by decide +kernel)) ?_
  refine z_k (S_dup cx (by decide +kernel)) ?_
  refine z_k (S_callI cx (r := r_Mo_init) rfl ⟨w_526, w_4, by decide, by decide +kernel⟩ w_524 w_525 rfl rfl (by decide +kernel)) ?_
  refine z_k (S_astore_n cx (by decide) (k := 2) (by decide +kernel) rfl) ?_
  refine z_k (S_push cx (n := 0) (by decide +kernel) (by decide)) ?_
  refine z_k (S_istore_n cx (by decide) (k := 3) (by decide +kernel) rfl) ?_
  refine z_k (S_iload_n cx (k := 3) (by decide +kernel) rfl) ?_
  refine z_k (S_aload_n cx (k := 0) (by decide +kernel) rfl) ?_
  refine z_k (S_alen cx (by decide +kernel)) ?_
  refine z_k (S_bipush cx (n := 6) (by decide +kernel) (by decide)) ?_
  refine z_k (S_isub cx (by decide +kernel)) ?_
  refine z_k (S_icmp_gt cx (off := 729) (by decide +kernel) (by decide)) ?_
  refine z_k (S_aload_n cx (k := 0) (by decide +kernel) rfl) ?_
  refine z_k (S_iload_n cx (k := 3) (by decide +kernel) rfl) ?_
  refine z_k (S_iald cx (by decide +kernel)) ?_
  refine z_k (S_bipush cx (n := 31) (by decide +kernel) (by decide)) ?_
  refine z_k (S_iand cx (by decide +kernel)) ?_
  refine z_k (S_tsw cx (df := 714) (lo := 0) (hi0 := 18) (offs := #[91, 170, 203, 236, 269, 322, 365, 388, 401, 424, 447, 470, 493, 516, 549, 572, 595, 628, 661]) (len := 91) (by decide +kernel) (by decide) (by decide) (by decide)) ?_
  refine z_k (S_aload_n cx (k := 1) (by decide +kernel) rfl) ?_
  refine z_k (S_aload_n cx (k := 0) (by decide +kernel) rfl) ?_
  exact z_k0
set_option maxRecDepth 100000 in
set_option maxHeartbeats 4000000 in
theorem s_La_law_1 (cx : z_cx zTab g d p l e R s m args below meth c code "SealedTalksLaw" 4) (hf : z_fin g p l e R s m args below meth c Q code P (some .boolean)) : ∀ x ∈ k_La_law_1, z_sn zTab g d p l e R s m args below meth c Q 4 P x := by
  unfold k_La_law_1
  refine z_k (S_iload_n cx (k := 3) (by decide +kernel) rfl) ?_
  refine z_k (S_push cx (n := 1) (by decide +kernel) (by decide)) ?_
  refine z_k (S_iadd cx (by decide +kernel)) ?_
  refine z_k (S_iald cx (by decide +kernel)) ?_
  refine z_k (S_aload_n cx (k := 0) (by decide +kernel) rfl) ?_
  refine z_k (S_iload_n cx (k := 3) (by decide +kernel) rfl) ?_
  refine z_k (S_push cx (n := 2) (by decide +kernel) (by decide)) ?_
  refine z_k (S_iadd cx (by decide +kernel)) ?_
  refine z_k (S_iald cx (by decide +kernel)) ?_
  refine z_k (S_if_eq cx (off := 7) (by decide +kernel) (by decide)) ?_
  refine z_k (S_push cx (n := 1) (by decide +kernel) (by decide)) ?_
  refine z_k (S_goto cx (off := 4) (by decide +kernel) (by decide)) ?_
  refine z_k (S_push cx (n := 0) (by decide +kernel) (by decide)) ?_
  refine z_k (S_aload_n cx (k := 0) (by decide +kernel) rfl) ?_
  refine z_k (S_iload_n cx (k := 3) (by decide +kernel) rfl) ?_
  refine z_k (S_push cx (n := 3) (by decide +kernel) (by decide)) ?_
  refine z_k (S_iadd cx (by decide +kernel)) ?_
  refine z_k (S_iald cx (by decide +kernel)) ?_
  refine z_k (S_aload_n cx (k := 0) (by decide +kernel) rfl) ?_
  refine z_k (S_iload_n cx (k := 3) (by decide +kernel) rfl) ?_
  refine z_k (S_push cx (n := 4) (by decide +kernel) (by decide)) ?_
  refine z_k (S_iadd cx (by decide +kernel)) ?_
  refine z_k (S_iald cx (by decide +kernel)) ?_
  refine z_k (S_aload_n cx (k := 0) (by decide +kernel) rfl) ?_
  exact z_k0
set_option maxRecDepth 100000 in
set_option maxHeartbeats 4000000 in
theorem s_La_law_2 (cx : z_cx zTab g d p l e R s m args below meth c code "SealedTalksLaw" 4) (hf : z_fin g p l e R s m args below meth c Q code P (some .boolean)) : ∀ x ∈ k_La_law_2, z_sn zTab g d p l e R s m args below meth c Q 4 P x := by
  unfold k_La_law_2
  refine z_k (S_iload_n cx (k := 3) (by decide +kernel) rfl) ?_
  refine z_k (S_push cx (n := 5) (by decide +kernel) (by decide)) ?_
  refine z_k (S_iadd cx (by decide +kernel)) ?_
  refine z_k (S_iald cx (by decide +kernel)) ?_
  refine z_k (S_callV cx (T := F_St) (N := 4) (r := r_St_start) rfl ⟨w_93, w_1, by decide, by decide +kernel⟩ w_90 w_91 w_92 rfl (by decide +kernel)) ?_
  refine z_k (S_aload_n cx (k := 2) (by decide +kernel) rfl) ?_
  refine z_k (S_aload_n cx (k := 0) (by decide +kernel) rfl) ?_
  refine z_k (S_iload_n cx (k := 3) (by decide +kernel) rfl) ?_
  refine z_k (S_push cx (n := 1) (by decide +kernel) (by decide)) ?_
  refine z_k (S_iadd cx (by decide +kernel)) ?_
  refine z_k (S_iald cx (by decide +kernel)) ?_
  refine z_k (S_aload_n cx (k := 0) (by decide +kernel) rfl) ?_
  refine z_k (S_iload_n cx (k := 3) (by decide +kernel) rfl) ?_
  refine z_k (S_push cx (n := 2) (by decide +kernel) (by decide)) ?_
  refine z_k (S_iadd cx (by decide +kernel)) ?_
  refine z_k (S_iald cx (by decide +kernel)) ?_
  refine z_k (S_if_eq cx (off := 7) (by decide +kernel) (by decide)) ?_
  refine z_k (S_push cx (n := 1) (by decide +kernel) (by decide)) ?_
  refine z_k (S_goto cx (off := 4) (by decide +kernel) (by decide)) ?_
  refine z_k (S_push cx (n := 0) (by decide +kernel) (by decide)) ?_
  refine z_k (S_aload_n cx (k := 0) (by decide +kernel) rfl) ?_
  refine z_k (S_iload_n cx (k := 3) (by decide +kernel) rfl) ?_
  refine z_k (S_push cx (n := 3) (by decide +kernel) (by decide)) ?_
  refine z_k (S_iadd cx (by decide +kernel)) ?_
  exact z_k0
set_option maxRecDepth 100000 in
set_option maxHeartbeats 4000000 in
theorem s_La_law_3 (cx : z_cx zTab g d p l e R s m args below meth c code "SealedTalksLaw" 4) (hf : z_fin g p l e R s m args below meth c Q code P (some .boolean)) : ∀ x ∈ k_La_law_3, z_sn zTab g d p l e R s m args below meth c Q 4 P x := by
  unfold k_La_law_3
  refine z_k (S_iald cx (by decide +kernel)) ?_
  refine z_k (S_aload_n cx (k := 0) (by decide +kernel) rfl) ?_
  refine z_k (S_iload_n cx (k := 3) (by decide +kernel) rfl) ?_
  refine z_k (S_push cx (n := 4) (by decide +kernel) (by decide)) ?_
  refine z_k (S_iadd cx (by decide +kernel)) ?_
  refine z_k (S_iald cx (by decide +kernel)) ?_
  refine z_k (S_aload_n cx (k := 0) (by decide +kernel) rfl) ?_
  refine z_k (S_iload_n cx (k := 3) (by decide +kernel) rfl) ?_
  refine z_k (S_push cx (n := 5) (by decide +kernel) (by decide)) ?_
  refine z_k (S_iadd cx (by decide +kernel)) ?_
  refine z_k (S_iald cx (by decide +kernel)) ?_
  refine z_k (S_callV cx (T := F_Mo) (N := 43) (r := r_Mo_start) rfl ⟨w_663, w_4, by decide, by decide +kernel⟩ w_660 w_661 w_662 rfl (by decide +kernel)) ?_
  refine z_k (S_icmp_eq cx (off := 549) (by decide +kernel) (by decide)) ?_
  refine z_k (S_push cx (n := 0) (by decide +kernel) (by decide)) ?_
  refine z_k (S_zret (hf.2.2.1 rfl) (by decide +kernel)) ?_
  refine z_k (S_aload_n cx (k := 1) (by decide +kernel) rfl) ?_
  refine z_k (S_aload_n cx (k := 0) (by decide +kernel) rfl) ?_
  refine z_k (S_iload_n cx (k := 3) (by decide +kernel) rfl) ?_
  refine z_k (S_push cx (n := 1) (by decide +kernel) (by decide)) ?_
  refine z_k (S_iadd cx (by decide +kernel)) ?_
  refine z_k (S_iald cx (by decide +kernel)) ?_
  refine z_k (S_aload_n cx (k := 0) (by decide +kernel) rfl) ?_
  refine z_k (S_iload_n cx (k := 3) (by decide +kernel) rfl) ?_
  refine z_k (S_push cx (n := 2) (by decide +kernel) (by decide)) ?_
  exact z_k0
set_option maxRecDepth 100000 in
set_option maxHeartbeats 4000000 in
theorem s_La_law_4 (cx : z_cx zTab g d p l e R s m args below meth c code "SealedTalksLaw" 4) (hf : z_fin g p l e R s m args below meth c Q code P (some .boolean)) : ∀ x ∈ k_La_law_4, z_sn zTab g d p l e R s m args below meth c Q 4 P x := by
  unfold k_La_law_4
  refine z_k (S_iadd cx (by decide +kernel)) ?_
  refine z_k (S_iald cx (by decide +kernel)) ?_
  refine z_k (S_callV cx (T := F_St) (N := 4) (r := r_St_write) rfl ⟨w_236, w_1, by decide, by decide +kernel⟩ w_233 w_234 w_235 rfl (by decide +kernel)) ?_
  refine z_k (S_aload_n cx (k := 2) (by decide +kernel) rfl) ?_
  refine z_k (S_aload_n cx (k := 0) (by decide +kernel) rfl) ?_
  refine z_k (S_iload_n cx (k := 3) (by decide +kernel) rfl) ?_
  refine z_k (S_push cx (n := 1) (by decide +kernel) (by decide)) ?_
  refine z_k (S_iadd cx (by decide +kernel)) ?_
  refine z_k (S_iald cx (by decide +kernel)) ?_
  refine z_k (S_aload_n cx (k := 0) (by decide +kernel) rfl) ?_
  refine z_k (S_iload_n cx (k := 3) (by decide +kernel) rfl) ?_
  refine z_k (S_push cx (n := 2) (by decide +kernel) (by decide)) ?_
  refine z_k (S_iadd cx (by decide +kernel)) ?_
  refine z_k (S_iald cx (by decide +kernel)) ?_
  refine z_k (S_callV cx (T := F_Mo) (N := 43) (r := r_Mo_write) rfl ⟨w_686, w_4, by decide, by decide +kernel⟩ w_683 w_684 w_685 rfl (by decide +kernel)) ?_
  refine z_k (S_icmp_eq cx (off := 516) (by decide +kernel) (by decide)) ?_
  refine z_k (S_push cx (n := 0) (by decide +kernel) (by decide)) ?_
  refine z_k (S_zret (hf.2.2.1 rfl) (by decide +kernel)) ?_
  refine z_k (S_aload_n cx (k := 1) (by decide +kernel) rfl) ?_
  refine z_k (S_aload_n cx (k := 0) (by decide +kernel) rfl) ?_
  refine z_k (S_iload_n cx (k := 3) (by decide +kernel) rfl) ?_
  refine z_k (S_push cx (n := 1) (by decide +kernel) (by decide)) ?_
  refine z_k (S_iadd cx (by decide +kernel)) ?_
  refine z_k (S_iald cx (by decide +kernel)) ?_
  exact z_k0
set_option maxRecDepth 100000 in
set_option maxHeartbeats 4000000 in
theorem s_La_law_5 (cx : z_cx zTab g d p l e R s m args below meth c code "SealedTalksLaw" 4) (hf : z_fin g p l e R s m args below meth c Q code P (some .boolean)) : ∀ x ∈ k_La_law_5, z_sn zTab g d p l e R s m args below meth c Q 4 P x := by
  unfold k_La_law_5
  refine z_k (S_aload_n cx (k := 0) (by decide +kernel) rfl) ?_
  refine z_k (S_iload_n cx (k := 3) (by decide +kernel) rfl) ?_
  refine z_k (S_push cx (n := 2) (by decide +kernel) (by decide)) ?_
  refine z_k (S_iadd cx (by decide +kernel)) ?_
  refine z_k (S_iald cx (by decide +kernel)) ?_
  refine z_k (S_callV cx (T := F_St) (N := 4) (r := r_St_send) rfl ⟨w_330, w_1, by decide, by decide +kernel⟩ w_327 w_328 w_329 rfl (by decide +kernel)) ?_
  refine z_k (S_aload_n cx (k := 2) (by decide +kernel) rfl) ?_
  refine z_k (S_aload_n cx (k := 0) (by decide +kernel) rfl) ?_
  refine z_k (S_iload_n cx (k := 3) (by decide +kernel) rfl) ?_
  refine z_k (S_push cx (n := 1) (by decide +kernel) (by decide)) ?_
  refine z_k (S_iadd cx (by decide +kernel)) ?_
  refine z_k (S_iald cx (by decide +kernel)) ?_
  refine z_k (S_aload_n cx (k := 0) (by decide +kernel) rfl) ?_
  refine z_k (S_iload_n cx (k := 3) (by decide +kernel) rfl) ?_
  refine z_k (S_push cx (n := 2) (by decide +kernel) (by decide)) ?_
  refine z_k (S_iadd cx (by decide +kernel)) ?_
  refine z_k (S_iald cx (by decide +kernel)) ?_
  refine z_k (S_callV cx (T := F_Mo) (N := 43) (r := r_Mo_send) rfl ⟨w_768, w_4, by decide, by decide +kernel⟩ w_765 w_766 w_767 rfl (by decide +kernel)) ?_
  refine z_k (S_icmp_eq cx (off := 483) (by decide +kernel) (by decide)) ?_
  refine z_k (S_push cx (n := 0) (by decide +kernel) (by decide)) ?_
  refine z_k (S_zret (hf.2.2.1 rfl) (by decide +kernel)) ?_
  refine z_k (S_aload_n cx (k := 1) (by decide +kernel) rfl) ?_
  refine z_k (S_aload_n cx (k := 0) (by decide +kernel) rfl) ?_
  refine z_k (S_iload_n cx (k := 3) (by decide +kernel) rfl) ?_
  exact z_k0
set_option maxRecDepth 100000 in
set_option maxHeartbeats 4000000 in
theorem s_La_law_6 (cx : z_cx zTab g d p l e R s m args below meth c code "SealedTalksLaw" 4) (hf : z_fin g p l e R s m args below meth c Q code P (some .boolean)) : ∀ x ∈ k_La_law_6, z_sn zTab g d p l e R s m args below meth c Q 4 P x := by
  unfold k_La_law_6
  refine z_k (S_push cx (n := 1) (by decide +kernel) (by decide)) ?_
  refine z_k (S_iadd cx (by decide +kernel)) ?_
  refine z_k (S_iald cx (by decide +kernel)) ?_
  refine z_k (S_aload_n cx (k := 0) (by decide +kernel) rfl) ?_
  refine z_k (S_iload_n cx (k := 3) (by decide +kernel) rfl) ?_
  refine z_k (S_push cx (n := 2) (by decide +kernel) (by decide)) ?_
  refine z_k (S_iadd cx (by decide +kernel)) ?_
  refine z_k (S_iald cx (by decide +kernel)) ?_
  refine z_k (S_callV cx (T := F_St) (N := 4) (r := r_St_deliver) rfl ⟨w_342, w_1, by decide, by decide +kernel⟩ w_339 w_340 w_341 rfl (by decide +kernel)) ?_
  refine z_k (S_aload_n cx (k := 2) (by decide +kernel) rfl) ?_
  refine z_k (S_aload_n cx (k := 0) (by decide +kernel) rfl) ?_
  refine z_k (S_iload_n cx (k := 3) (by decide +kernel) rfl) ?_
  refine z_k (S_push cx (n := 1) (by decide +kernel) (by decide)) ?_
  refine z_k (S_iadd cx (by decide +kernel)) ?_
  refine z_k (S_iald cx (by decide +kernel)) ?_
  refine z_k (S_aload_n cx (k := 0) (by decide +kernel) rfl) ?_
  refine z_k (S_iload_n cx (k := 3) (by decide +kernel) rfl) ?_
  refine z_k (S_push cx (n := 2) (by decide +kernel) (by decide)) ?_
  refine z_k (S_iadd cx (by decide +kernel)) ?_
  refine z_k (S_iald cx (by decide +kernel)) ?_
  refine z_k (S_callV cx (T := F_Mo) (N := 43) (r := r_Mo_deliver) rfl ⟨w_736, w_4, by decide, by decide +kernel⟩ w_733 w_734 w_735 rfl (by decide +kernel)) ?_
  refine z_k (S_icmp_eq cx (off := 450) (by decide +kernel) (by decide)) ?_
  refine z_k (S_push cx (n := 0) (by decide +kernel) (by decide)) ?_
  refine z_k (S_zret (hf.2.2.1 rfl) (by decide +kernel)) ?_
  exact z_k0
set_option maxRecDepth 100000 in
set_option maxHeartbeats 4000000 in
theorem s_La_law_7 (cx : z_cx zTab g d p l e R s m args below meth c code "SealedTalksLaw" 4) (hf : z_fin g p l e R s m args below meth c Q code P (some .boolean)) : ∀ x ∈ k_La_law_7, z_sn zTab g d p l e R s m args below meth c Q 4 P x := by
  unfold k_La_law_7
  refine z_k (S_aload_n cx (k := 1) (by decide +kernel) rfl) ?_
  refine z_k (S_aload_n cx (k := 0) (by decide +kernel) rfl) ?_
  refine z_k (S_iload_n cx (k := 3) (by decide +kernel) rfl) ?_
  refine z_k (S_push cx (n := 1) (by decide +kernel) (by decide)) ?_
  refine z_k (S_iadd cx (by decide +kernel)) ?_
  refine z_k (S_iald cx (by decide +kernel)) ?_
  refine z_k (S_aload_n cx (k := 0) (by decide +kernel) rfl) ?_
  refine z_k (S_iload_n cx (k := 3) (by decide +kernel) rfl) ?_
  refine z_k (S_push cx (n := 2) (by decide +kernel) (by decide)) ?_
  refine z_k (S_iadd cx (by decide +kernel)) ?_
  refine z_k (S_iald cx (by decide +kernel)) ?_
  refine z_k (S_aload_n cx (k := 0) (by decide +kernel) rfl) ?_
  refine z_k (S_iload_n cx (k := 3) (by decide +kernel) rfl) ?_
  refine z_k (S_push cx (n := 3) (by decide +kernel) (by decide)) ?_
  refine z_k (S_iadd cx (by decide +kernel)) ?_
  refine z_k (S_iald cx (by decide +kernel)) ?_
  refine z_k (S_aload_n cx (k := 0) (by decide +kernel) rfl) ?_
  refine z_k (S_iload_n cx (k := 3) (by decide +kernel) rfl) ?_
  refine z_k (S_push cx (n := 4) (by decide +kernel) (by decide)) ?_
  refine z_k (S_iadd cx (by decide +kernel)) ?_
  refine z_k (S_iald cx (by decide +kernel)) ?_
  refine z_k (S_callV cx (T := F_St) (N := 4) (r := r_St_splice) rfl ⟨w_437, w_1, by decide, by decide +kernel⟩ w_434 w_435 w_436 rfl (by decide +kernel)) ?_
  refine z_k (S_aload_n cx (k := 2) (by decide +kernel) rfl) ?_
  refine z_k (S_aload_n cx (k := 0) (by decide +kernel) rfl) ?_
  exact z_k0
set_option maxRecDepth 100000 in
set_option maxHeartbeats 4000000 in
theorem s_La_law_8 (cx : z_cx zTab g d p l e R s m args below meth c code "SealedTalksLaw" 4) (hf : z_fin g p l e R s m args below meth c Q code P (some .boolean)) : ∀ x ∈ k_La_law_8, z_sn zTab g d p l e R s m args below meth c Q 4 P x := by
  unfold k_La_law_8
  refine z_k (S_iload_n cx (k := 3) (by decide +kernel) rfl) ?_
  refine z_k (S_push cx (n := 1) (by decide +kernel) (by decide)) ?_
  refine z_k (S_iadd cx (by decide +kernel)) ?_
  refine z_k (S_iald cx (by decide +kernel)) ?_
  refine z_k (S_aload_n cx (k := 0) (by decide +kernel) rfl) ?_
  refine z_k (S_iload_n cx (k := 3) (by decide +kernel) rfl) ?_
  refine z_k (S_push cx (n := 2) (by decide +kernel) (by decide)) ?_
  refine z_k (S_iadd cx (by decide +kernel)) ?_
  refine z_k (S_iald cx (by decide +kernel)) ?_
  refine z_k (S_aload_n cx (k := 0) (by decide +kernel) rfl) ?_
  refine z_k (S_iload_n cx (k := 3) (by decide +kernel) rfl) ?_
  refine z_k (S_push cx (n := 3) (by decide +kernel) (by decide)) ?_
  refine z_k (S_iadd cx (by decide +kernel)) ?_
  refine z_k (S_iald cx (by decide +kernel)) ?_
  refine z_k (S_aload_n cx (k := 0) (by decide +kernel) rfl) ?_
  refine z_k (S_iload_n cx (k := 3) (by decide +kernel) rfl) ?_
  refine z_k (S_push cx (n := 4) (by decide +kernel) (by decide)) ?_
  refine z_k (S_iadd cx (by decide +kernel)) ?_
  refine z_k (S_iald cx (by decide +kernel)) ?_
  refine z_k (S_callV cx (T := F_Mo) (N := 43) (r := r_Mo_splice) rfl ⟨w_772, w_4, by decide, by decide +kernel⟩ w_769 w_770 w_771 rfl (by decide +kernel)) ?_
  refine z_k (S_icmp_eq cx (off := 397) (by decide +kernel) (by decide)) ?_
  refine z_k (S_push cx (n := 0) (by decide +kernel) (by decide)) ?_
  refine z_k (S_zret (hf.2.2.1 rfl) (by decide +kernel)) ?_
  refine z_k (S_aload_n cx (k := 1) (by decide +kernel) rfl) ?_
  exact z_k0
set_option maxRecDepth 100000 in
set_option maxHeartbeats 4000000 in
theorem s_La_law_9 (cx : z_cx zTab g d p l e R s m args below meth c code "SealedTalksLaw" 4) (hf : z_fin g p l e R s m args below meth c Q code P (some .boolean)) : ∀ x ∈ k_La_law_9, z_sn zTab g d p l e R s m args below meth c Q 4 P x := by
  unfold k_La_law_9
  refine z_k (S_aload_n cx (k := 0) (by decide +kernel) rfl) ?_
  refine z_k (S_iload_n cx (k := 3) (by decide +kernel) rfl) ?_
  refine z_k (S_push cx (n := 1) (by decide +kernel) (by decide)) ?_
  refine z_k (S_iadd cx (by decide +kernel)) ?_
  refine z_k (S_iald cx (by decide +kernel)) ?_
  refine z_k (S_aload_n cx (k := 0) (by decide +kernel) rfl) ?_
  refine z_k (S_iload_n cx (k := 3) (by decide +kernel) rfl) ?_
  refine z_k (S_push cx (n := 2) (by decide +kernel) (by decide)) ?_
  refine z_k (S_iadd cx (by decide +kernel)) ?_
  refine z_k (S_iald cx (by decide +kernel)) ?_
  refine z_k (S_aload_n cx (k := 0) (by decide +kernel) rfl) ?_
  refine z_k (S_iload_n cx (k := 3) (by decide +kernel) rfl) ?_
  refine z_k (S_push cx (n := 3) (by decide +kernel) (by decide)) ?_
  refine z_k (S_iadd cx (by decide +kernel)) ?_
  refine z_k (S_iald cx (by decide +kernel)) ?_
  refine z_k (S_callV cx (T := F_St) (N := 4) (r := r_St_replace) rfl ⟨w_448, w_1, by decide, by decide +kernel⟩ w_445 w_446 w_447 rfl (by decide +kernel)) ?_
  refine z_k (S_aload_n cx (k := 2) (by decide +kernel) rfl) ?_
  refine z_k (S_aload_n cx (k := 0) (by decide +kernel) rfl) ?_
  refine z_k (S_iload_n cx (k := 3) (by decide +kernel) rfl) ?_
  refine z_k (S_push cx (n := 1) (by decide +kernel) (by decide)) ?_
  refine z_k (S_iadd cx (by decide +kernel)) ?_
  refine z_k (S_iald cx (by decide +kernel)) ?_
  refine z_k (S_aload_n cx (k := 0) (by decide +kernel) rfl) ?_
  refine z_k (S_iload_n cx (k := 3) (by decide +kernel) rfl) ?_
  exact z_k0
set_option maxRecDepth 100000 in
set_option maxHeartbeats 4000000 in
theorem s_La_law_10 (cx : z_cx zTab g d p l e R s m args below meth c code "SealedTalksLaw" 4) (hf : z_fin g p l e R s m args below meth c Q code P (some .boolean)) : ∀ x ∈ k_La_law_10, z_sn zTab g d p l e R s m args below meth c Q 4 P x := by
  unfold k_La_law_10
  refine z_k (S_push cx (n := 2) (by decide +kernel) (by decide)) ?_
  refine z_k (S_iadd cx (by decide +kernel)) ?_
  refine z_k (S_iald cx (by decide +kernel)) ?_
  refine z_k (S_aload_n cx (k := 0) (by decide +kernel) rfl) ?_
  refine z_k (S_iload_n cx (k := 3) (by decide +kernel) rfl) ?_
  refine z_k (S_push cx (n := 3) (by decide +kernel) (by decide)) ?_
  refine z_k (S_iadd cx (by decide +kernel)) ?_
  refine z_k (S_iald cx (by decide +kernel)) ?_
  refine z_k (S_callV cx (T := F_Mo) (N := 43) (r := r_Mo_replace) rfl ⟨w_780, w_4, by decide, by decide +kernel⟩ w_777 w_778 w_779 rfl (by decide +kernel)) ?_
  refine z_k (S_icmp_eq cx (off := 354) (by decide +kernel) (by decide)) ?_
  refine z_k (S_push cx (n := 0) (by decide +kernel) (by decide)) ?_
  refine z_k (S_zret (hf.2.2.1 rfl) (by decide +kernel)) ?_
  refine z_k (S_aload_n cx (k := 1) (by decide +kernel) rfl) ?_
  refine z_k (S_aload_n cx (k := 0) (by decide +kernel) rfl) ?_
  refine z_k (S_iload_n cx (k := 3) (by decide +kernel) rfl) ?_
  refine z_k (S_push cx (n := 1) (by decide +kernel) (by decide)) ?_
  refine z_k (S_iadd cx (by decide +kernel)) ?_
  refine z_k (S_iald cx (by decide +kernel)) ?_
  refine z_k (S_callV cx (T := F_St) (N := 4) (r := r_St_give) rfl ⟨w_453, w_1, by decide, by decide +kernel⟩ w_450 w_451 w_452 rfl (by decide +kernel)) ?_
  refine z_k (S_aload_n cx (k := 2) (by decide +kernel) rfl) ?_
  refine z_k (S_aload_n cx (k := 0) (by decide +kernel) rfl) ?_
  refine z_k (S_iload_n cx (k := 3) (by decide +kernel) rfl) ?_
  refine z_k (S_push cx (n := 1) (by decide +kernel) (by decide)) ?_
  refine z_k (S_iadd cx (by decide +kernel)) ?_
  exact z_k0
set_option maxRecDepth 100000 in
set_option maxHeartbeats 4000000 in
theorem s_La_law_11 (cx : z_cx zTab g d p l e R s m args below meth c code "SealedTalksLaw" 4) (hf : z_fin g p l e R s m args below meth c Q code P (some .boolean)) : ∀ x ∈ k_La_law_11, z_sn zTab g d p l e R s m args below meth c Q 4 P x := by
  unfold k_La_law_11
  refine z_k (S_iald cx (by decide +kernel)) ?_
  refine z_k (S_callV cx (T := F_Mo) (N := 43) (r := r_Mo_give) rfl ⟨w_784, w_4, by decide, by decide +kernel⟩ w_781 w_782 w_783 rfl (by decide +kernel)) ?_
  refine z_k (S_icmp_eq cx (off := 331) (by decide +kernel) (by decide)) ?_
  refine z_k (S_push cx (n := 0) (by decide +kernel) (by decide)) ?_
  refine z_k (S_zret (hf.2.2.1 rfl) (by decide +kernel)) ?_
  refine z_k (S_aload_n cx (k := 1) (by decide +kernel) rfl) ?_
  refine z_k (S_callV cx (T := F_St) (N := 4) (r := r_St_tick) rfl ⟨w_461, w_1, by decide, by decide +kernel⟩ w_458 w_459 w_460 rfl (by decide +kernel)) ?_
  refine z_k (S_aload_n cx (k := 2) (by decide +kernel) rfl) ?_
  refine z_k (S_callV cx (T := F_Mo) (N := 43) (r := r_Mo_tick) rfl ⟨w_788, w_4, by decide, by decide +kernel⟩ w_785 w_786 w_787 rfl (by decide +kernel)) ?_
  refine z_k (S_icmp_eq cx (off := 318) (by decide +kernel) (by decide)) ?_
  refine z_k (S_push cx (n := 0) (by decide +kernel) (by decide)) ?_
  refine z_k (S_zret (hf.2.2.1 rfl) (by decide +kernel)) ?_
  refine z_k (S_aload_n cx (k := 1) (by decide +kernel) rfl) ?_
  refine z_k (S_aload_n cx (k := 0) (by decide +kernel) rfl) ?_
  refine z_k (S_iload_n cx (k := 3) (by decide +kernel) rfl) ?_
  refine z_k (S_push cx (n := 1) (by decide +kernel) (by decide)) ?_
  refine z_k (S_iadd cx (by decide +kernel)) ?_
  refine z_k (S_iald cx (by decide +kernel)) ?_
  refine z_k (S_callV cx (T := F_St) (N := 4) (r := r_St_state) rfl ⟨w_469, w_1, by decide, by decide +kernel⟩ w_466 w_467 w_468 rfl (by decide +kernel)) ?_
  refine z_k (S_aload_n cx (k := 2) (by decide +kernel) rfl) ?_
  refine z_k (S_aload_n cx (k := 0) (by decide +kernel) rfl) ?_
  refine z_k (S_iload_n cx (k := 3) (by decide +kernel) rfl) ?_
  refine z_k (S_push cx (n := 1) (by decide +kernel) (by decide)) ?_
  refine z_k (S_iadd cx (by decide +kernel)) ?_
  exact z_k0
set_option maxRecDepth 100000 in
set_option maxHeartbeats 4000000 in
theorem s_La_law_12 (cx : z_cx zTab g d p l e R s m args below meth c code "SealedTalksLaw" 4) (hf : z_fin g p l e R s m args below meth c Q code P (some .boolean)) : ∀ x ∈ k_La_law_12, z_sn zTab g d p l e R s m args below meth c Q 4 P x := by
  unfold k_La_law_12
  refine z_k (S_iald cx (by decide +kernel)) ?_
  refine z_k (S_callV cx (T := F_Mo) (N := 43) (r := r_Mo_state) rfl ⟨w_792, w_4, by decide, by decide +kernel⟩ w_789 w_790 w_791 rfl (by decide +kernel)) ?_
  refine z_k (S_icmp_eq cx (off := 295) (by decide +kernel) (by decide)) ?_
  refine z_k (S_push cx (n := 0) (by decide +kernel) (by decide)) ?_
  refine z_k (S_zret (hf.2.2.1 rfl) (by decide +kernel)) ?_
  refine z_k (S_aload_n cx (k := 1) (by decide +kernel) rfl) ?_
  refine z_k (S_aload_n cx (k := 0) (by decide +kernel) rfl) ?_
  refine z_k (S_iload_n cx (k := 3) (by decide +kernel) rfl) ?_
  refine z_k (S_push cx (n := 1) (by decide +kernel) (by decide)) ?_
  refine z_k (S_iadd cx (by decide +kernel)) ?_
  refine z_k (S_iald cx (by decide +kernel)) ?_
  refine z_k (S_callV cx (T := F_St) (N := 4) (r := r_St_steps) rfl ⟨w_473, w_1, by decide, by decide +kernel⟩ w_470 w_471 w_472 rfl (by decide +kernel)) ?_
  refine z_k (S_aload_n cx (k := 2) (by decide +kernel) rfl) ?_
  refine z_k (S_aload_n cx (k := 0) (by decide +kernel) rfl) ?_
  refine z_k (S_iload_n cx (k := 3) (by decide +kernel) rfl) ?_
  refine z_k (S_push cx (n := 1) (by decide +kernel) (by decide)) ?_
  refine z_k (S_iadd cx (by decide +kernel)) ?_
  refine z_k (S_iald cx (by decide +kernel)) ?_
  refine z_k (S_callV cx (T := F_Mo) (N := 43) (r := r_Mo_steps) rfl ⟨w_796, w_4, by decide, by decide +kernel⟩ w_793 w_794 w_795 rfl (by decide +kernel)) ?_
  refine z_k (S_icmp_eq cx (off := 272) (by decide +kernel) (by decide)) ?_
  refine z_k (S_push cx (n := 0) (by decide +kernel) (by decide)) ?_
  refine z_k (S_zret (hf.2.2.1 rfl) (by decide +kernel)) ?_
  refine z_k (S_aload_n cx (k := 1) (by decide +kernel) rfl) ?_
  refine z_k (S_aload_n cx (k := 0) (by decide +kernel) rfl) ?_
  exact z_k0
set_option maxRecDepth 100000 in
set_option maxHeartbeats 4000000 in
theorem s_La_law_13 (cx : z_cx zTab g d p l e R s m args below meth c code "SealedTalksLaw" 4) (hf : z_fin g p l e R s m args below meth c Q code P (some .boolean)) : ∀ x ∈ k_La_law_13, z_sn zTab g d p l e R s m args below meth c Q 4 P x := by
  unfold k_La_law_13
  refine z_k (S_iload_n cx (k := 3) (by decide +kernel) rfl) ?_
  refine z_k (S_push cx (n := 1) (by decide +kernel) (by decide)) ?_
  refine z_k (S_iadd cx (by decide +kernel)) ?_
  refine z_k (S_iald cx (by decide +kernel)) ?_
  refine z_k (S_callV cx (T := F_St) (N := 4) (r := r_St_peer) rfl ⟨w_477, w_1, by decide, by decide +kernel⟩ w_474 w_475 w_476 rfl (by decide +kernel)) ?_
  refine z_k (S_aload_n cx (k := 2) (by decide +kernel) rfl) ?_
  refine z_k (S_aload_n cx (k := 0) (by decide +kernel) rfl) ?_
  refine z_k (S_iload_n cx (k := 3) (by decide +kernel) rfl) ?_
  refine z_k (S_push cx (n := 1) (by decide +kernel) (by decide)) ?_
  refine z_k (S_iadd cx (by decide +kernel)) ?_
  refine z_k (S_iald cx (by decide +kernel)) ?_
  refine z_k (S_callV cx (T := F_Mo) (N := 43) (r := r_Mo_peer) rfl ⟨w_800, w_4, by decide, by decide +kernel⟩ w_797 w_798 w_799 rfl (by decide +kernel)) ?_
  refine z_k (S_icmp_eq cx (off := 249) (by decide +kernel) (by decide)) ?_
  refine z_k (S_push cx (n := 0) (by decide +kernel) (by decide)) ?_
  refine z_k (S_zret (hf.2.2.1 rfl) (by decide +kernel)) ?_
  refine z_k (S_aload_n cx (k := 1) (by decide +kernel) rfl) ?_
  refine z_k (S_aload_n cx (k := 0) (by decide +kernel) rfl) ?_
  refine z_k (S_iload_n cx (k := 3) (by decide +kernel) rfl) ?_
  refine z_k (S_push cx (n := 1) (by decide +kernel) (by decide)) ?_
  refine z_k (S_iadd cx (by decide +kernel)) ?_
  refine z_k (S_iald cx (by decide +kernel)) ?_
  refine z_k (S_callV cx (T := F_St) (N := 4) (r := r_St_payload) rfl ⟨w_481, w_1, by decide, by decide +kernel⟩ w_478 w_479 w_480 rfl (by decide +kernel)) ?_
  refine z_k (S_aload_n cx (k := 2) (by decide +kernel) rfl) ?_
  refine z_k (S_aload_n cx (k := 0) (by decide +kernel) rfl) ?_
  exact z_k0
set_option maxRecDepth 100000 in
set_option maxHeartbeats 4000000 in
theorem s_La_law_14 (cx : z_cx zTab g d p l e R s m args below meth c code "SealedTalksLaw" 4) (hf : z_fin g p l e R s m args below meth c Q code P (some .boolean)) : ∀ x ∈ k_La_law_14, z_sn zTab g d p l e R s m args below meth c Q 4 P x := by
  unfold k_La_law_14
  refine z_k (S_iload_n cx (k := 3) (by decide +kernel) rfl) ?_
  refine z_k (S_push cx (n := 1) (by decide +kernel) (by decide)) ?_
  refine z_k (S_iadd cx (by decide +kernel)) ?_
  refine z_k (S_iald cx (by decide +kernel)) ?_
  refine z_k (S_callV cx (T := F_Mo) (N := 43) (r := r_Mo_payload) rfl ⟨w_804, w_4, by decide, by decide +kernel⟩ w_801 w_802 w_803 rfl (by decide +kernel)) ?_
  refine z_k (S_icmp_eq cx (off := 226) (by decide +kernel) (by decide)) ?_
  refine z_k (S_push cx (n := 0) (by decide +kernel) (by decide)) ?_
  refine z_k (S_zret (hf.2.2.1 rfl) (by decide +kernel)) ?_
  refine z_k (S_aload_n cx (k := 1) (by decide +kernel) rfl) ?_
  refine z_k (S_aload_n cx (k := 0) (by decide +kernel) rfl) ?_
  refine z_k (S_iload_n cx (k := 3) (by decide +kernel) rfl) ?_
  refine z_k (S_push cx (n := 1) (by decide +kernel) (by decide)) ?_
  refine z_k (S_iadd cx (by decide +kernel)) ?_
  refine z_k (S_iald cx (by decide +kernel)) ?_
  refine z_k (S_callV cx (T := F_St) (N := 4) (r := r_St_accepted) rfl ⟨w_485, w_1, by decide, by decide +kernel⟩ w_482 w_483 w_484 rfl (by decide +kernel)) ?_
  refine z_k (S_aload_n cx (k := 2) (by decide +kernel) rfl) ?_
  refine z_k (S_aload_n cx (k := 0) (by decide +kernel) rfl) ?_
  refine z_k (S_iload_n cx (k := 3) (by decide +kernel) rfl) ?_
  refine z_k (S_push cx (n := 1) (by decide +kernel) (by decide)) ?_
  refine z_k (S_iadd cx (by decide +kernel)) ?_
  refine z_k (S_iald cx (by decide +kernel)) ?_
  refine z_k (S_callV cx (T := F_Mo) (N := 43) (r := r_Mo_accepted) rfl ⟨w_808, w_4, by decide, by decide +kernel⟩ w_805 w_806 w_807 rfl (by decide +kernel)) ?_
  refine z_k (S_icmp_eq cx (off := 203) (by decide +kernel) (by decide)) ?_
  refine z_k (S_push cx (n := 0) (by decide +kernel) (by decide)) ?_
  exact z_k0
set_option maxRecDepth 100000 in
set_option maxHeartbeats 4000000 in
theorem s_La_law_15 (cx : z_cx zTab g d p l e R s m args below meth c code "SealedTalksLaw" 4) (hf : z_fin g p l e R s m args below meth c Q code P (some .boolean)) : ∀ x ∈ k_La_law_15, z_sn zTab g d p l e R s m args below meth c Q 4 P x := by
  unfold k_La_law_15
  refine z_k (S_zret (hf.2.2.1 rfl) (by decide +kernel)) ?_
  refine z_k (S_aload_n cx (k := 1) (by decide +kernel) rfl) ?_
  refine z_k (S_aload_n cx (k := 0) (by decide +kernel) rfl) ?_
  refine z_k (S_iload_n cx (k := 3) (by decide +kernel) rfl) ?_
  refine z_k (S_push cx (n := 1) (by decide +kernel) (by decide)) ?_
  refine z_k (S_iadd cx (by decide +kernel)) ?_
  refine z_k (S_iald cx (by decide +kernel)) ?_
  refine z_k (S_aload_n cx (k := 0) (by decide +kernel) rfl) ?_
  refine z_k (S_iload_n cx (k := 3) (by decide +kernel) rfl) ?_
  refine z_k (S_push cx (n := 2) (by decide +kernel) (by decide)) ?_
  refine z_k (S_iadd cx (by decide +kernel)) ?_
  refine z_k (S_iald cx (by decide +kernel)) ?_
  refine z_k (S_callV cx (T := F_St) (N := 4) (r := r_St_match) rfl ⟨w_489, w_1, by decide, by decide +kernel⟩ w_486 w_487 w_488 rfl (by decide +kernel)) ?_
  refine z_k (S_aload_n cx (k := 2) (by decide +kernel) rfl) ?_
  refine z_k (S_aload_n cx (k := 0) (by decide +kernel) rfl) ?_
  refine z_k (S_iload_n cx (k := 3) (by decide +kernel) rfl) ?_
  refine z_k (S_push cx (n := 1) (by decide +kernel) (by decide)) ?_
  refine z_k (S_iadd cx (by decide +kernel)) ?_
  refine z_k (S_iald cx (by decide +kernel)) ?_
  refine z_k (S_aload_n cx (k := 0) (by decide +kernel) rfl) ?_
  refine z_k (S_iload_n cx (k := 3) (by decide +kernel) rfl) ?_
  refine z_k (S_push cx (n := 2) (by decide +kernel) (by decide)) ?_
  refine z_k (S_iadd cx (by decide +kernel)) ?_
  refine z_k (S_iald cx (by decide +kernel)) ?_
  exact z_k0
set_option maxRecDepth 100000 in
set_option maxHeartbeats 4000000 in
theorem s_La_law_16 (cx : z_cx zTab g d p l e R s m args below meth c code "SealedTalksLaw" 4) (hf : z_fin g p l e R s m args below meth c Q code P (some .boolean)) : ∀ x ∈ k_La_law_16, z_sn zTab g d p l e R s m args below meth c Q 4 P x := by
  unfold k_La_law_16
  refine z_k (S_callV cx (T := F_Mo) (N := 43) (r := r_Mo_match) rfl ⟨w_812, w_4, by decide, by decide +kernel⟩ w_809 w_810 w_811 rfl (by decide +kernel)) ?_
  refine z_k (S_icmp_eq cx (off := 170) (by decide +kernel) (by decide)) ?_
  refine z_k (S_push cx (n := 0) (by decide +kernel) (by decide)) ?_
  refine z_k (S_zret (hf.2.2.1 rfl) (by decide +kernel)) ?_
  refine z_k (S_aload_n cx (k := 1) (by decide +kernel) rfl) ?_
  refine z_k (S_aload_n cx (k := 0) (by decide +kernel) rfl) ?_
  refine z_k (S_iload_n cx (k := 3) (by decide +kernel) rfl) ?_
  refine z_k (S_push cx (n := 1) (by decide +kernel) (by decide)) ?_
  refine z_k (S_iadd cx (by decide +kernel)) ?_
  refine z_k (S_iald cx (by decide +kernel)) ?_
  refine z_k (S_callV cx (T := F_St) (N := 4) (r := r_St_open) rfl ⟨w_493, w_1, by decide, by decide +kernel⟩ w_490 w_491 w_492 rfl (by decide +kernel)) ?_
  refine z_k (S_aload_n cx (k := 2) (by decide +kernel) rfl) ?_
  refine z_k (S_aload_n cx (k := 0) (by decide +kernel) rfl) ?_
  refine z_k (S_iload_n cx (k := 3) (by decide +kernel) rfl) ?_
  refine z_k (S_push cx (n := 1) (by decide +kernel) (by decide)) ?_
  refine z_k (S_iadd cx (by decide +kernel)) ?_
  refine z_k (S_iald cx (by decide +kernel)) ?_
  refine z_k (S_callV cx (T := F_Mo) (N := 43) (r := r_Mo_open) rfl ⟨w_816, w_4, by decide, by decide +kernel⟩ w_813 w_814 w_815 rfl (by decide +kernel)) ?_
  refine z_k (S_icmp_eq cx (off := 147) (by decide +kernel) (by decide)) ?_
  refine z_k (S_push cx (n := 0) (by decide +kernel) (by decide)) ?_
  refine z_k (S_zret (hf.2.2.1 rfl) (by decide +kernel)) ?_
  refine z_k (S_aload_n cx (k := 1) (by decide +kernel) rfl) ?_
  refine z_k (S_aload_n cx (k := 0) (by decide +kernel) rfl) ?_
  refine z_k (S_iload_n cx (k := 3) (by decide +kernel) rfl) ?_
  exact z_k0
set_option maxRecDepth 100000 in
set_option maxHeartbeats 4000000 in
theorem s_La_law_17 (cx : z_cx zTab g d p l e R s m args below meth c code "SealedTalksLaw" 4) (hf : z_fin g p l e R s m args below meth c Q code P (some .boolean)) : ∀ x ∈ k_La_law_17, z_sn zTab g d p l e R s m args below meth c Q 4 P x := by
  unfold k_La_law_17
  refine z_k (S_push cx (n := 1) (by decide +kernel) (by decide)) ?_
  refine z_k (S_iadd cx (by decide +kernel)) ?_
  refine z_k (S_iald cx (by decide +kernel)) ?_
  refine z_k (S_callV cx (T := F_St) (N := 4) (r := r_St_parts) rfl ⟨w_501, w_1, by decide, by decide +kernel⟩ w_498 w_499 w_500 rfl (by decide +kernel)) ?_
  refine z_k (S_aload_n cx (k := 2) (by decide +kernel) rfl) ?_
  refine z_k (S_aload_n cx (k := 0) (by decide +kernel) rfl) ?_
  refine z_k (S_iload_n cx (k := 3) (by decide +kernel) rfl) ?_
  refine z_k (S_push cx (n := 1) (by decide +kernel) (by decide)) ?_
  refine z_k (S_iadd cx (by decide +kernel)) ?_
  refine z_k (S_iald cx (by decide +kernel)) ?_
  refine z_k (S_callV cx (T := F_Mo) (N := 43) (r := r_Mo_parts) rfl ⟨w_824, w_4, by decide, by decide +kernel⟩ w_821 w_822 w_823 rfl (by decide +kernel)) ?_
  refine z_k (S_icmp_eq cx (off := 124) (by decide +kernel) (by decide)) ?_
  refine z_k (S_push cx (n := 0) (by decide +kernel) (by decide)) ?_
  refine z_k (S_zret (hf.2.2.1 rfl) (by decide +kernel)) ?_
  refine z_k (S_aload_n cx (k := 1) (by decide +kernel) rfl) ?_
  refine z_k (S_aload_n cx (k := 0) (by decide +kernel) rfl) ?_
  refine z_k (S_iload_n cx (k := 3) (by decide +kernel) rfl) ?_
  refine z_k (S_push cx (n := 1) (by decide +kernel) (by decide)) ?_
  refine z_k (S_iadd cx (by decide +kernel)) ?_
  refine z_k (S_iald cx (by decide +kernel)) ?_
  refine z_k (S_aload_n cx (k := 0) (by decide +kernel) rfl) ?_
  refine z_k (S_iload_n cx (k := 3) (by decide +kernel) rfl) ?_
  refine z_k (S_push cx (n := 2) (by decide +kernel) (by decide)) ?_
  refine z_k (S_iadd cx (by decide +kernel)) ?_
  exact z_k0
set_option maxRecDepth 100000 in
set_option maxHeartbeats 4000000 in
theorem s_La_law_18 (cx : z_cx zTab g d p l e R s m args below meth c code "SealedTalksLaw" 4) (hf : z_fin g p l e R s m args below meth c Q code P (some .boolean)) : ∀ x ∈ k_La_law_18, z_sn zTab g d p l e R s m args below meth c Q 4 P x := by
  unfold k_La_law_18
  refine z_k (S_iald cx (by decide +kernel)) ?_
  refine z_k (S_callV cx (T := F_St) (N := 4) (r := r_St_sees) rfl ⟨w_505, w_1, by decide, by decide +kernel⟩ w_502 w_503 w_504 rfl (by decide +kernel)) ?_
  refine z_k (S_aload_n cx (k := 2) (by decide +kernel) rfl) ?_
  refine z_k (S_aload_n cx (k := 0) (by decide +kernel) rfl) ?_
  refine z_k (S_iload_n cx (k := 3) (by decide +kernel) rfl) ?_
  refine z_k (S_push cx (n := 1) (by decide +kernel) (by decide)) ?_
  refine z_k (S_iadd cx (by decide +kernel)) ?_
  refine z_k (S_iald cx (by decide +kernel)) ?_
  refine z_k (S_aload_n cx (k := 0) (by decide +kernel) rfl) ?_
  refine z_k (S_iload_n cx (k := 3) (by decide +kernel) rfl) ?_
  refine z_k (S_push cx (n := 2) (by decide +kernel) (by decide)) ?_
  refine z_k (S_iadd cx (by decide +kernel)) ?_
  refine z_k (S_iald cx (by decide +kernel)) ?_
  refine z_k (S_callV cx (T := F_Mo) (N := 43) (r := r_Mo_sees) rfl ⟨w_828, w_4, by decide, by decide +kernel⟩ w_825 w_826 w_827 rfl (by decide +kernel)) ?_
  refine z_k (S_icmp_eq cx (off := 91) (by decide +kernel) (by decide)) ?_
  refine z_k (S_push cx (n := 0) (by decide +kernel) (by decide)) ?_
  refine z_k (S_zret (hf.2.2.1 rfl) (by decide +kernel)) ?_
  refine z_k (S_aload_n cx (k := 1) (by decide +kernel) rfl) ?_
  refine z_k (S_aload_n cx (k := 0) (by decide +kernel) rfl) ?_
  refine z_k (S_iload_n cx (k := 3) (by decide +kernel) rfl) ?_
  refine z_k (S_push cx (n := 1) (by decide +kernel) (by decide)) ?_
  refine z_k (S_iadd cx (by decide +kernel)) ?_
  refine z_k (S_iald cx (by decide +kernel)) ?_
  refine z_k (S_aload_n cx (k := 0) (by decide +kernel) rfl) ?_
  exact z_k0
set_option maxRecDepth 100000 in
set_option maxHeartbeats 4000000 in
theorem s_La_law_19 (cx : z_cx zTab g d p l e R s m args below meth c code "SealedTalksLaw" 4) (hf : z_fin g p l e R s m args below meth c Q code P (some .boolean)) : ∀ x ∈ k_La_law_19, z_sn zTab g d p l e R s m args below meth c Q 4 P x := by
  unfold k_La_law_19
  refine z_k (S_iload_n cx (k := 3) (by decide +kernel) rfl) ?_
  refine z_k (S_push cx (n := 2) (by decide +kernel) (by decide)) ?_
  refine z_k (S_iadd cx (by decide +kernel)) ?_
  refine z_k (S_iald cx (by decide +kernel)) ?_
  refine z_k (S_callV cx (T := F_St) (N := 4) (r := r_St_shown) rfl ⟨w_516, w_1, by decide, by decide +kernel⟩ w_513 w_514 w_515 rfl (by decide +kernel)) ?_
  refine z_k (S_aload_n cx (k := 2) (by decide +kernel) rfl) ?_
  refine z_k (S_aload_n cx (k := 0) (by decide +kernel) rfl) ?_
  refine z_k (S_iload_n cx (k := 3) (by decide +kernel) rfl) ?_
  refine z_k (S_push cx (n := 1) (by decide +kernel) (by decide)) ?_
  refine z_k (S_iadd cx (by decide +kernel)) ?_
  refine z_k (S_iald cx (by decide +kernel)) ?_
  refine z_k (S_aload_n cx (k := 0) (by decide +kernel) rfl) ?_
  refine z_k (S_iload_n cx (k := 3) (by decide +kernel) rfl) ?_
  refine z_k (S_push cx (n := 2) (by decide +kernel) (by decide)) ?_
  refine z_k (S_iadd cx (by decide +kernel)) ?_
  refine z_k (S_iald cx (by decide +kernel)) ?_
  refine z_k (S_callV cx (T := F_Mo) (N := 43) (r := r_Mo_shown) rfl ⟨w_832, w_4, by decide, by decide +kernel⟩ w_829 w_830 w_831 rfl (by decide +kernel)) ?_
  refine z_k (S_icmp_eq cx (off := 58) (by decide +kernel) (by decide)) ?_
  refine z_k (S_push cx (n := 0) (by decide +kernel) (by decide)) ?_
  refine z_k (S_zret (hf.2.2.1 rfl) (by decide +kernel)) ?_
  refine z_k (S_aload_n cx (k := 1) (by decide +kernel) rfl) ?_
  refine z_k (S_aload_n cx (k := 0) (by decide +kernel) rfl) ?_
  refine z_k (S_iload_n cx (k := 3) (by decide +kernel) rfl) ?_
  refine z_k (S_push cx (n := 1) (by decide +kernel) (by decide)) ?_
  exact z_k0
set_option maxRecDepth 100000 in
set_option maxHeartbeats 4000000 in
theorem s_La_law_20 (cx : z_cx zTab g d p l e R s m args below meth c code "SealedTalksLaw" 4) (hf : z_fin g p l e R s m args below meth c Q code P (some .boolean)) : ∀ x ∈ k_La_law_20, z_sn zTab g d p l e R s m args below meth c Q 4 P x := by
  unfold k_La_law_20
  refine z_k (S_iadd cx (by decide +kernel)) ?_
  refine z_k (S_iald cx (by decide +kernel)) ?_
  refine z_k (S_aload_n cx (k := 0) (by decide +kernel) rfl) ?_
  refine z_k (S_iload_n cx (k := 3) (by decide +kernel) rfl) ?_
  refine z_k (S_push cx (n := 2) (by decide +kernel) (by decide)) ?_
  refine z_k (S_iadd cx (by decide +kernel)) ?_
  refine z_k (S_iald cx (by decide +kernel)) ?_
  refine z_k (S_aload_n cx (k := 0) (by decide +kernel) rfl) ?_
  refine z_k (S_iload_n cx (k := 3) (by decide +kernel) rfl) ?_
  refine z_k (S_push cx (n := 3) (by decide +kernel) (by decide)) ?_
  refine z_k (S_iadd cx (by decide +kernel)) ?_
  refine z_k (S_iald cx (by decide +kernel)) ?_
  refine z_k (S_aload_n cx (k := 0) (by decide +kernel) rfl) ?_
  refine z_k (S_iload_n cx (k := 3) (by decide +kernel) rfl) ?_
  refine z_k (S_push cx (n := 4) (by decide +kernel) (by decide)) ?_
  refine z_k (S_iadd cx (by decide +kernel)) ?_
  refine z_k (S_iald cx (by decide +kernel)) ?_
  refine z_k (S_callV cx (T := F_St) (N := 4) (r := r_St_same) rfl ⟨w_521, w_1, by decide, by decide +kernel⟩ w_518 w_519 w_520 rfl (by decide +kernel)) ?_
  refine z_k (S_aload_n cx (k := 2) (by decide +kernel) rfl) ?_
  refine z_k (S_aload_n cx (k := 0) (by decide +kernel) rfl) ?_
  refine z_k (S_iload_n cx (k := 3) (by decide +kernel) rfl) ?_
  refine z_k (S_push cx (n := 1) (by decide +kernel) (by decide)) ?_
  refine z_k (S_iadd cx (by decide +kernel)) ?_
  refine z_k (S_iald cx (by decide +kernel)) ?_
  exact z_k0
set_option maxRecDepth 100000 in
set_option maxHeartbeats 4000000 in
theorem s_La_law_21 (cx : z_cx zTab g d p l e R s m args below meth c code "SealedTalksLaw" 4) (hf : z_fin g p l e R s m args below meth c Q code P (some .boolean)) : ∀ x ∈ k_La_law_21, z_sn zTab g d p l e R s m args below meth c Q 4 P x := by
  unfold k_La_law_21
  refine z_k (S_aload_n cx (k := 0) (by decide +kernel) rfl) ?_
  refine z_k (S_iload_n cx (k := 3) (by decide +kernel) rfl) ?_
  refine z_k (S_push cx (n := 2) (by decide +kernel) (by decide)) ?_
  refine z_k (S_iadd cx (by decide +kernel)) ?_
  refine z_k (S_iald cx (by decide +kernel)) ?_
  refine z_k (S_aload_n cx (k := 0) (by decide +kernel) rfl) ?_
  refine z_k (S_iload_n cx (k := 3) (by decide +kernel) rfl) ?_
  refine z_k (S_push cx (n := 3) (by decide +kernel) (by decide)) ?_
  refine z_k (S_iadd cx (by decide +kernel)) ?_
  refine z_k (S_iald cx (by decide +kernel)) ?_
  refine z_k (S_aload_n cx (k := 0) (by decide +kernel) rfl) ?_
  refine z_k (S_iload_n cx (k := 3) (by decide +kernel) rfl) ?_
  refine z_k (S_push cx (n := 4) (by decide +kernel) (by decide)) ?_
  refine z_k (S_iadd cx (by decide +kernel)) ?_
  refine z_k (S_iald cx (by decide +kernel)) ?_
  refine z_k (S_callV cx (T := F_Mo) (N := 43) (r := r_Mo_same) rfl ⟨w_837, w_4, by decide, by decide +kernel⟩ w_834 w_835 w_836 rfl (by decide +kernel)) ?_
  refine z_k (S_icmp_eq cx (off := 5) (by decide +kernel) (by decide)) ?_
  refine z_k (S_push cx (n := 0) (by decide +kernel) (by decide)) ?_
  refine z_k (S_zret (hf.2.2.1 rfl) (by decide +kernel)) ?_
  refine z_k (S_iinc cx (n := 6) (by decide) (by decide +kernel) (by decide)) ?_
  refine z_k (S_goto cx (off := -732) (by decide +kernel) (by decide)) ?_
  refine z_k (S_push cx (n := 1) (by decide +kernel) (by decide)) ?_
  refine z_k (S_zret (hf.2.2.1 rfl) (by decide +kernel)) ?_
  exact z_k0
end ZRL
end
section
/-! The whole table is sound. -/
theorem zTab_ok : ∀ r ∈ zTab, z_snd zTab r := by
  unfold zTab
  refine List.forall_mem_cons.mpr ⟨s_Ag_init, ?_⟩
  refine List.forall_mem_cons.mpr ⟨s_Ag_begin, ?_⟩
  refine List.forall_mem_cons.mpr ⟨s_Ag_copyFrom, ?_⟩
  refine List.forall_mem_cons.mpr ⟨s_Ag_isDone, ?_⟩
  refine List.forall_mem_cons.mpr ⟨s_Ag_isOwnTurn, ?_⟩
  refine List.forall_mem_cons.mpr ⟨s_Ag_writeNext, ?_⟩
  refine List.forall_mem_cons.mpr ⟨s_Ag_readNext, ?_⟩
  refine List.forall_mem_cons.mpr ⟨s_Ag_tokenAt, ?_⟩
  refine List.forall_mem_cons.mpr ⟨s_Ag_partsOfNext, ?_⟩
  refine List.forall_mem_cons.mpr ⟨s_Ag_addPart, ?_⟩
  refine List.forall_mem_cons.mpr ⟨s_Ag_readKey, ?_⟩
  refine List.forall_mem_cons.mpr ⟨s_Ag_closedUp, ?_⟩
  refine List.forall_mem_cons.mpr ⟨s_Ag_openedUp, ?_⟩
  refine List.forall_mem_cons.mpr ⟨s_Ag_mixKeys, ?_⟩
  refine List.forall_mem_cons.mpr ⟨s_Ch_init, ?_⟩
  refine List.forall_mem_cons.mpr ⟨s_Ch_setKeys, ?_⟩
  refine List.forall_mem_cons.mpr ⟨s_Ch_sendNext, ?_⟩
  refine List.forall_mem_cons.mpr ⟨s_Ch_acceptNext, ?_⟩
  refine List.forall_mem_cons.mpr ⟨s_Ch_isFresh, ?_⟩
  refine List.forall_mem_cons.mpr ⟨s_Me_init, ?_⟩
  refine List.forall_mem_cons.mpr ⟨s_Me_isFull, ?_⟩
  refine List.forall_mem_cons.mpr ⟨s_Me_has, ?_⟩
  refine List.forall_mem_cons.mpr ⟨s_Me_sizeOf, ?_⟩
  refine List.forall_mem_cons.mpr ⟨s_Me_partAt, ?_⟩
  refine List.forall_mem_cons.mpr ⟨s_Me_addPart, ?_⟩
  refine List.forall_mem_cons.mpr ⟨s_Me_finish, ?_⟩
  refine List.forall_mem_cons.mpr ⟨s_Se_init, ?_⟩
  refine List.forall_mem_cons.mpr ⟨s_Se_writeNext, ?_⟩
  refine List.forall_mem_cons.mpr ⟨s_Se_readNext, ?_⟩
  refine List.forall_mem_cons.mpr ⟨s_Se_notePayload, ?_⟩
  refine List.forall_mem_cons.mpr ⟨s_Se_passTick, ?_⟩
  refine List.forall_mem_cons.mpr ⟨s_Se_endAgreement, ?_⟩
  refine List.forall_mem_cons.mpr ⟨s_Te_init, ?_⟩
  refine List.forall_mem_cons.mpr ⟨s_Te_num, ?_⟩
  refine List.forall_mem_cons.mpr ⟨s_Te_pub, ?_⟩
  refine List.forall_mem_cons.mpr ⟨s_Te_dh, ?_⟩
  refine List.forall_mem_cons.mpr ⟨s_Te_hash, ?_⟩
  refine List.forall_mem_cons.mpr ⟨s_Te_chain, ?_⟩
  refine List.forall_mem_cons.mpr ⟨s_Te_key, ?_⟩
  refine List.forall_mem_cons.mpr ⟨s_Te_half, ?_⟩
  refine List.forall_mem_cons.mpr ⟨s_Te_seal, ?_⟩
  refine List.forall_mem_cons.mpr ⟨s_Te_isNum, ?_⟩
  refine List.forall_mem_cons.mpr ⟨s_Te_isPub, ?_⟩
  refine List.forall_mem_cons.mpr ⟨s_Te_isSeal, ?_⟩
  refine List.forall_mem_cons.mpr ⟨s_Te_isSealOf, ?_⟩
  refine List.forall_mem_cons.mpr ⟨s_Te_valueOf, ?_⟩
  refine List.forall_mem_cons.mpr ⟨s_Te_insideOf, ?_⟩
  refine List.forall_mem_cons.mpr ⟨s_Te_canWorkOut, ?_⟩
  refine List.forall_mem_cons.mpr ⟨s_Te_canOpen, ?_⟩
  refine List.forall_mem_cons.mpr ⟨s_Te_makeKey, ?_⟩
  refine List.forall_mem_cons.mpr ⟨s_Te_giveAway, ?_⟩
  refine List.forall_mem_cons.mpr ⟨s_Te_newest, ?_⟩
  refine List.forall_mem_cons.mpr ⟨s_Te_dropBehind, ?_⟩
  refine List.forall_mem_cons.mpr ⟨s_Te_make, ?_⟩
  refine List.forall_mem_cons.mpr ⟨s_Te_judged, ?_⟩
  refine List.forall_mem_cons.mpr ⟨s_Te_bucketOf, ?_⟩
  refine List.forall_mem_cons.mpr ⟨s_St_init, ?_⟩
  refine List.forall_mem_cons.mpr ⟨s_St_start, ?_⟩
  refine List.forall_mem_cons.mpr ⟨s_St_write, ?_⟩
  refine List.forall_mem_cons.mpr ⟨s_St_send, ?_⟩
  refine List.forall_mem_cons.mpr ⟨s_St_deliver, ?_⟩
  refine List.forall_mem_cons.mpr ⟨s_St_splice, ?_⟩
  refine List.forall_mem_cons.mpr ⟨s_St_replace, ?_⟩
  refine List.forall_mem_cons.mpr ⟨s_St_give, ?_⟩
  refine List.forall_mem_cons.mpr ⟨s_St_tick, ?_⟩
  refine List.forall_mem_cons.mpr ⟨s_St_state, ?_⟩
  refine List.forall_mem_cons.mpr ⟨s_St_steps, ?_⟩
  refine List.forall_mem_cons.mpr ⟨s_St_peer, ?_⟩
  refine List.forall_mem_cons.mpr ⟨s_St_payload, ?_⟩
  refine List.forall_mem_cons.mpr ⟨s_St_accepted, ?_⟩
  refine List.forall_mem_cons.mpr ⟨s_St_match, ?_⟩
  refine List.forall_mem_cons.mpr ⟨s_St_open, ?_⟩
  refine List.forall_mem_cons.mpr ⟨s_St_parts, ?_⟩
  refine List.forall_mem_cons.mpr ⟨s_St_sees, ?_⟩
  refine List.forall_mem_cons.mpr ⟨s_St_shown, ?_⟩
  refine List.forall_mem_cons.mpr ⟨s_St_same, ?_⟩
  refine List.forall_mem_cons.mpr ⟨s_St_isStaticKey, ?_⟩
  refine List.forall_mem_cons.mpr ⟨s_St_sessionAt, ?_⟩
  refine List.forall_mem_cons.mpr ⟨s_St_makeChanged, ?_⟩
  refine List.forall_mem_cons.mpr ⟨s_Mo_init, ?_⟩
  refine List.forall_mem_cons.mpr ⟨s_Mo_within, ?_⟩
  refine List.forall_mem_cons.mpr ⟨s_Mo_term, ?_⟩
  refine List.forall_mem_cons.mpr ⟨s_Mo_num, ?_⟩
  refine List.forall_mem_cons.mpr ⟨s_Mo_pub, ?_⟩
  refine List.forall_mem_cons.mpr ⟨s_Mo_two, ?_⟩
  refine List.forall_mem_cons.mpr ⟨s_Mo_workOut, ?_⟩
  refine List.forall_mem_cons.mpr ⟨s_Mo_token, ?_⟩
  refine List.forall_mem_cons.mpr ⟨s_Mo_last, ?_⟩
  refine List.forall_mem_cons.mpr ⟨s_Mo_load, ?_⟩
  refine List.forall_mem_cons.mpr ⟨s_Mo_keep, ?_⟩
  refine List.forall_mem_cons.mpr ⟨s_Mo_mixHash, ?_⟩
  refine List.forall_mem_cons.mpr ⟨s_Mo_agree, ?_⟩
  refine List.forall_mem_cons.mpr ⟨s_Mo_addPart, ?_⟩
  refine List.forall_mem_cons.mpr ⟨s_Mo_put, ?_⟩
  refine List.forall_mem_cons.mpr ⟨s_Mo_nextPart, ?_⟩
  refine List.forall_mem_cons.mpr ⟨s_Mo_take, ?_⟩
  refine List.forall_mem_cons.mpr ⟨s_Mo_start, ?_⟩
  refine List.forall_mem_cons.mpr ⟨s_Mo_isSession, ?_⟩
  refine List.forall_mem_cons.mpr ⟨s_Mo_isDone, ?_⟩
  refine List.forall_mem_cons.mpr ⟨s_Mo_writes, ?_⟩
  refine List.forall_mem_cons.mpr ⟨s_Mo_newMessage, ?_⟩
  refine List.forall_mem_cons.mpr ⟨s_Mo_write, ?_⟩
  refine List.forall_mem_cons.mpr ⟨s_Mo_fetch, ?_⟩
  refine List.forall_mem_cons.mpr ⟨s_Mo_run, ?_⟩
  refine List.forall_mem_cons.mpr ⟨s_Mo_took, ?_⟩
  refine List.forall_mem_cons.mpr ⟨s_Mo_reads, ?_⟩
  refine List.forall_mem_cons.mpr ⟨s_Mo_accepts, ?_⟩
  refine List.forall_mem_cons.mpr ⟨s_Mo_deliver, ?_⟩
  refine List.forall_mem_cons.mpr ⟨s_Mo_send, ?_⟩
  refine List.forall_mem_cons.mpr ⟨s_Mo_isPart, ?_⟩
  refine List.forall_mem_cons.mpr ⟨s_Mo_splice, ?_⟩
  refine List.forall_mem_cons.mpr ⟨s_Mo_replace, ?_⟩
  refine List.forall_mem_cons.mpr ⟨s_Mo_give, ?_⟩
  refine List.forall_mem_cons.mpr ⟨s_Mo_tick, ?_⟩
  refine List.forall_mem_cons.mpr ⟨s_Mo_state, ?_⟩
  refine List.forall_mem_cons.mpr ⟨s_Mo_steps, ?_⟩
  refine List.forall_mem_cons.mpr ⟨s_Mo_peer, ?_⟩
  refine List.forall_mem_cons.mpr ⟨s_Mo_payload, ?_⟩
  refine List.forall_mem_cons.mpr ⟨s_Mo_accepted, ?_⟩
  refine List.forall_mem_cons.mpr ⟨s_Mo_match, ?_⟩
  refine List.forall_mem_cons.mpr ⟨s_Mo_open, ?_⟩
  refine List.forall_mem_cons.mpr ⟨s_Mo_parts, ?_⟩
  refine List.forall_mem_cons.mpr ⟨s_Mo_sees, ?_⟩
  refine List.forall_mem_cons.mpr ⟨s_Mo_shown, ?_⟩
  refine List.forall_mem_cons.mpr ⟨s_Mo_same, ?_⟩
  exact fun _ h => absurd h List.not_mem_nil
end
section
/-! THE CLAIM OUT OF ONE WALK OF THE LAW'S BODY. Your part is whole_start (and what it stands on); all else here is the same for every law, but numbers. -/
def R_law : String := "SealedTalksLaw"
def lw_P (b : Addr) (xs : List Int32) (args : Array Value) (s : State) : Prop := args = #[.ref b] ∧ s.IntsAt b xs ∧ xs.length ≤ 3072 ∧ (Jvm.Cond.and given_1 narrow_1).before args s = true
def lw_Q (_ : Array Value) (s : State) (o : Outcome) (t : State) : Prop := o = .returned (some (.int 1)) ∧ Framed s o t [] 600000 7302250
def lw_Z (below : List Frame) (a : Array Value) (s : State) : State → Prop := fun t => ∃ o, t.status = .running ∧ Ended t below o ∧ lw_Q a s o t
/-- the law's own end, with 1 on the stack, nothing written that was there before, its room as the claim has it -/
theorem lw_ret {p : Program} {l : Launch} {e : Env} {s : State} {m : MethodId} {below : List Frame} {meth : Method} {c : Code} {b : Nat} (hx : p.tables.exec = Jvm.exec) (hb : c.code = code) (hr : meth.sig.returnType = ret) (hlocks : meth.locks = false) {pc : Nat} {H : Heap} {ls : Array Slot} (hdg : decode code pc = .ok (.ireturn, 1)) : W p l e room_1 s m #[Value.ref b] below meth c H [] 600000 7302250 (lw_Z below #[Value.ref b] s) (F0 m pc ls [.int 1]) := by
  intro T hT X
  obtain ⟨fs, hret, hrun, hended, hW, hframe⟩ := X.leave (v := some (.int 1)) (hlocks := hlocks) (fun h => by rw [hr] at h; cases h)
  have hmeth' : T.vm.method? m = some meth := X.method'
  refine ⟨T.setFrames fs, ?_, .returned (some (.int 1)), hrun, hended, rfl, ⟨_, rfl⟩, hW, hframe⟩
  jvm_step X.here [X.here.top, hx, hb, hdg, hmeth', hr, ret, narrow_b1]
  (try refine ⟨rfl, ?_⟩); (try refine ⟨rfl, ?_⟩)
  first | (intro acts; rw [hret _ acts rfl rfl rfl]) | rw [hret _ _ rfl rfl rfl]
  exact Steps.refl _
/-- what holds at the law's entry: the machine, the code, the tables' words (any of lw_tbl by 'hts w (by decide +kernel)'), the script of L ints xs at the cell b, what the Statement gives of the start (any of its parts by flat_of_before) -/
def lw_At (p : Program) (s : State) (m : MethodId) (meth : Method) (c : Code) (b L : Nat) (xs : Nat → Int32) : Prop :=
  p.tables.exec = Jvm.exec ∧ c.code = code ∧ meth.sig.returnType = ret ∧ c.maxLocals = 4 ∧ s.vm.findClass R_law = some m.cls ∧ (∀ w ∈ lw_tbl, w.before #[Value.ref b] s = true) ∧ va_X b L xs s s.heap ∧ b < s.heap.size ∧ meth.locks = false ∧ (Jvm.Cond.and given_1 narrow_1).before #[Value.ref b] s = true
/-- what is left of the claim: the law's code in the small machine comes to its end with 1 -/
def z_goal (L : Nat) (xs : Nat → Int32) : Prop := zS (zMt zTab (L, xs) 7, (600000, 7302250), (L, xs)) k_La_law (fun r _ => r = some (.int 1)) (0, [some (.retAddr 0), none, none, none], [], (fun _ => z_def, 0), 0, 0)
theorem z_arrc {args : Array Value} {s : State} {ty : FieldType} (h : (Cond.arrayClass ty).before args s = true) (hp : ∀ U cA, U.vm.findClass ("[" ++ ty.toString) = some cA → va_RA U cA ty) : ∃ cA : ClassId, ArrOfT s cA ty ∧ va_RA s cA ty := by
  obtain ⟨cA, kA, comp, h1, h2, h3⟩ := Cond.arrayClass_spec h
  exact ⟨cA, fun n z => ⟨fun k h => (by cases h), kA, h2, comp, h3⟩, hp _ _ h1⟩
theorem z_arro {args : Array Value} {s : State} {C : String} (h : (Cond.arrayOver (.object C)).before args s = true) : ∃ cA : ClassId, ArrOfT s cA (.object C) ∧ va_RA s cA (.object C) := by
  obtain ⟨comp, cA, kA, h1, -, h3, h4, h5⟩ := Cond.arrayOver_spec h
  exact ⟨cA, fun n z => ⟨fun k h => (by cases h), kA, h3, comp, h4⟩, kA, comp, h3, h4, h1, h5⟩
set_option maxRecDepth 100000 in
theorem z_tokens {b : Nat} {s : State} (hts : ∀ w ∈ lw_tbl, w.before #[Value.ref b] s = true) (hg : (Jvm.Cond.and given_1 narrow_1).before #[Value.ref b] s = true) {A : Nat → Prop} (hA : ∀ a : Nat, a < s.heap.size → ¬ A a) : ∃ t : Nat, va_Z z_RA "TOKENS" "[I" (.ref t) A s s.heap ∧ va_T .int t 20 (fun j => .int (z_tok j)) A s s.heap := by
  have hs := flat_of_before _ hg
  have harr : (Cond.arrayOf (.static "SealedTalks$Agreement" "TOKENS" "[I") .int).before #[Value.ref b] s = true := hs _ (by decide +kernel)
  have hlen : (Cond.eq (.length (.static "SealedTalks$Agreement" "TOKENS" "[I")) (.int 20)).before #[Value.ref b] s = true := hs _ (by decide +kernel)
  have hel : ∀ j, j < 20 → Cond.eq (.elem (.static "SealedTalks$Agreement" "TOKENS" "[I") (.int (Int32.ofNat j))) (.int (z_tok j)) ∈ flatC (Jvm.Cond.and given_1 narrow_1) := by decide +kernel
  obtain ⟨t, h1, h2⟩ := va_Tof (f := fun j => .int (z_tok j)) (A := A) (by decide) harr (va_eqt hlen) (fun j hj => va_eqt (hs _ (hel j hj))) hA
  exact ⟨t, va_Zref (hts (.laysStatic "SealedTalks$Agreement" "TOKENS" "[I") (by decide +kernel)) (hts (.initialized "SealedTalks$Agreement") (by decide +kernel)) h1 hA, h2⟩
def z_nth (l : List ClassId) (k : Nat) : ClassId := l.getD k 0
def z_nthf (l : List (Nat → Nat)) (k : Nat) : Nat → Nat := l.getD k (fun _ => 0)
set_option maxRecDepth 100000 in
set_option maxHeartbeats 4000000 in
theorem whole_open {p : Program} {e : Env} {s : State} {m : MethodId} {below : List Frame} {meth : Method} {c : Code} (l : Launch) {b L : Nat} {xs : Nat → Int32} (C0 : lw_At p s m meth c b L xs) (hz : z_goal L xs) : W p l e room_1 s m #[Value.ref b] below meth c s.heap [] 0 0 (lw_Z below #[Value.ref b] s) (entryFrame m ([Value.ref b] : List Value).toArray 4) := by
  obtain ⟨hx, hb, hr, hml, hown, hts, hX, hbl, hlk, hgv⟩ := C0
  have hin : ∀ w ∈ z_WS, w.before #[Value.ref b] s = true := fun w hw => hts w (z_WS_tbl w hw)
  obtain ⟨c0, s0, n0⟩ := u_known (C := R_Ag) (T := F_Ag) (N := 12) (n := 12) hin in_Ag (hts (.instantiable "SealedTalks$Agreement" 12) (by decide +kernel))
  obtain ⟨c1, s1, n1⟩ := u_known (C := R_Ch) (T := F_Ch) (N := 6) (n := 6) hin in_Ch (hts (.instantiable "SealedTalks$Channel" 6) (by decide +kernel))
  obtain ⟨c2, s2, n2⟩ := u_known (C := R_Me) (T := F_Me) (N := 3) (n := 3) hin in_Me (hts (.instantiable "SealedTalks$Messages" 3) (by decide +kernel))
  obtain ⟨c3, s3, n3⟩ := u_known (C := R_Se) (T := F_Se) (N := 8) (n := 8) hin in_Se (hts (.instantiable "SealedTalks$Session" 8) (by decide +kernel))
  obtain ⟨c4, s4, n4⟩ := u_known (C := R_Te) (T := F_Te) (N := 11) (n := 11) hin in_Te (hts (.instantiable "SealedTalks$Terms" 11) (by decide +kernel))
  obtain ⟨c5, s5, n5⟩ := u_known (C := R_St) (T := F_St) (N := 4) (n := 4) hin in_St (hts (.instantiable "SealedTalks" 4) (by decide +kernel))
  obtain ⟨c6, s6, n6⟩ := u_known (C := R_Mo) (T := F_Mo) (N := 43) (n := 43) hin in_Mo (hts (.instantiable "SealedTalksModel" 43) (by decide +kernel))
  obtain ⟨a0, a0x⟩ := z_arrc (hts (.arrayClass .int) (by decide +kernel)) (fun _ _ h => h)
  obtain ⟨a1, a1x⟩ := z_arrc (hts (.arrayClass .boolean) (by decide +kernel)) (fun _ _ h => h)
  obtain ⟨a2, a2x⟩ := z_arrc (hts (.arrayClass .byte) (by decide +kernel)) (fun _ _ h => h)
  obtain ⟨a3, a3x⟩ := z_arrc (hts (.arrayClass .short) (by decide +kernel)) (fun _ _ h => h)
  have hao : (Cond.arrayOver (.object z_RS)).before #[Value.ref b] s = true := hts _ (by decide +kernel)
  obtain ⟨a4, a4x⟩ := z_arro hao
  obtain ⟨tk, hZ, hT⟩ := z_tokens (A := fun q => s.heap.size ≤ q) hts hgv (fun a h => Nat.not_le.mpr h)
  generalize hgd : ((((z_nth [c0, c1, c2, c3, c4, c5, c6]), (z_nthf [s0, s1, s2, s3, s4, s5, s6])), z_nth [a0, a1, a2, a3, a4], (s.heap.size, b, tk), (L, xs)) : zG) = g
  have g1 : g_D g = (z_nth [c0, c1, c2, c3, c4, c5, c6], z_nthf [s0, s1, s2, s3, s4, s5, s6]) := by rw [← hgd]
  have g2 : g_A g = z_nth [a0, a1, a2, a3, a4] := by rw [← hgd]
  have g3 : g_b g = s.heap.size := by rw [← hgd]
  have g4 : g_s g = b := by rw [← hgd]
  have g5 : g_t g = tk := by rw [← hgd]
  have g6 : g_n g = L := by rw [← hgd]
  have g7 : g_x g = xs := by rw [← hgd]
  have hA : z_A g = fun q => s.heap.size ≤ q := by
    funext q
    show (g_b g ≤ q) = _
    rw [g3]
  have hK : va_K (g_D g) vwCl (z_tys g) s := by
    refine ⟨fun k q hq => ?_, fun k q hq => ?_⟩
    · rw [g1]
      have hk : k < 7 := (List.getElem?_eq_some_iff.mp hq).1
      rcases (show k = 0 ∨ k = 1 ∨ k = 2 ∨ k = 3 ∨ k = 4 ∨ k = 5 ∨ k = 6 by omega) with rfl | rfl | rfl | rfl | rfl | rfl | rfl <;> cases hq
      · exact n0
      · exact n1
      · exact n2
      · exact n3
      · exact n4
      · exact n5
      · exact n6
    · have hk : k < 5 := (List.getElem?_eq_some_iff.mp hq).1
      rcases (show k = 0 ∨ k = 1 ∨ k = 2 ∨ k = 3 ∨ k = 4 by omega) with rfl | rfl | rfl | rfl | rfl <;> cases hq <;> rw [g2]
      · exact a0x
      · exact a1x
      · exact a2x
      · exact a3x
      · exact a4x
  have hWs : z_Ws g s := ⟨hK, fun w hw => va_Nw.of (z_isN_on (z_NW_is w hw)) (hts w (z_NW_tbl w hw)), va_AO.of hao⟩
  have hWx : z_Wx g s s.heap := ⟨by rw [hA, g5]; exact hZ, by rw [hA, g5]; exact hT, by rw [g4, g6, g7]; exact hX, by rw [g3, g4]; exact hbl⟩
  have hWh : z_Wh g (fun _ => z_def, 0) s.heap := ⟨by rw [g3]; rfl, fun k q hq => by simp [z_ws] at hq, fun _ _ => rfl⟩
  have cx : z_cx zTab g 7 p l e room_1 s m #[Value.ref b] below meth c code "SealedTalksLaw" 4 := ⟨hx, hb, hml, hown, hin, hWs, hWx, by rw [g3]; exact Nat.le_refl _, by decide, by decide, z_ok_all zTab_ok g l 7⟩
  have hfin : z_fin g p l e room_1 s m #[Value.ref b] below meth c (lw_Z below #[Value.ref b] s) code (fun r _ => r = some (.int 1)) (some .boolean) := by
    refine ⟨fun h => (by cases h), fun h => (by cases h), fun _ => ?_, fun n h => (by cases h)⟩
    intro r h uc us H locs ls pc hok hp hw hS hu1 hu2 hd
    cases hp
    refine va_forget (fun q hq => ?_) ?_
    · have := hS.2.2 q hq
      rw [hA] at this
      exact this
    · refine W.widen (k := 600000) (n := 7302250) hu1 hu2 ?_
      exact lw_ret hx hb hr hlk hd
  have hall : ∀ q ∈ k_La_law, ∀ x ∈ q.2, z_sn zTab g 7 p l e room_1 s m #[Value.ref b] below meth c (lw_Z below #[Value.ref b] s) 4 (fun r _ => r = some (.int 1)) x := z_k (s_La_law_0 cx hfin) (z_k (s_La_law_1 cx hfin) (z_k (s_La_law_2 cx hfin) (z_k (s_La_law_3 cx hfin) (z_k (s_La_law_4 cx hfin) (z_k (s_La_law_5 cx hfin) (z_k (s_La_law_6 cx hfin) (z_k (s_La_law_7 cx hfin) (z_k (s_La_law_8 cx hfin) (z_k (s_La_law_9 cx hfin) (z_k (s_La_law_10 cx hfin) (z_k (s_La_law_11 cx hfin) (z_k (s_La_law_12 cx hfin) (z_k (s_La_law_13 cx hfin) (z_k (s_La_law_14 cx hfin) (z_k (s_La_law_15 cx hfin) (z_k (s_La_law_16 cx hfin) (z_k (s_La_law_17 cx hfin) (z_k (s_La_law_18 cx hfin) (z_k (s_La_law_19 cx hfin) (z_k (s_La_law_20 cx hfin) (z_k (s_La_law_21 cx hfin) (z_k0))))))))))))))))))))))
  unfold z_goal at hz
  rw [← g6, ← g7] at hz
  have hrun := z_run (g := g) (R := room_1) hall hz
  rw [lg_entry_eq]
  have htr : z_tr g (.retAddr 0) = .ref b := by
    show Value.ref (if 0 = 0 then g_s g else g_t g) = _
    rw [g4]
    rfl
  have hl := lv_entry ([Value.retAddr 0].map (z_tr g)) (n := 4) (by rw [z_sl_len (by decide)]; decide)
  have hlr := z_lr_entry (g := g) (as := [Value.retAddr 0]) (n := 4) (by decide) (by decide) hl
  have h9 := hrun s.heap [] _ ⟨hWh, va_S.rf, hlr, Nat.zero_le _, Nat.zero_le _⟩
  have hm1 : [Value.retAddr 0].map (z_tr g) = [Value.ref b] := by
    show [z_tr g (.retAddr 0)] = _
    rw [htr]
  rw [hm1] at h9
  exact h9
end
section
/-! How a method is walked in the small machine. -/
theorem va_up_eq {α : Type} (f : Nat → α) (k : Nat) (v : α) : va_up f k v k = v := if_pos rfl
theorem va_up_lit {α : Type} (f : Nat → α) (k j : Nat) (v : α) (h : ¬ j = k) : va_up f k v j = f j := if_neg h
theorem zM_start {sc : Nat × (Nat → Int32)} {d mi mc ms : Nat} {as : List Value} {h : zH} {P : zP} {r : zR} {cd : zCd} {L0 : zLc} (hr : zTab[mi]? = some r) (hk : r.2.2.2.2 = cd) (hl : Nat.ble as.length r.2.2.1 = true) (hc : as.all (fun v => v.category == 1) = true) (hL : as.map some ++ List.replicate (r.2.2.1 - as.length) none = L0) (k : zS (zMt zTab sc d, (mc, ms), sc) cd P (0, L0, [], h, 0, 0)) : zMt zTab sc (d + 1) mi as h mc ms P := by
  subst hk
  subst hL
  refine ⟨r, hr, Nat.le_of_ble_eq_true hl, fun v hv => ?_, k⟩
  have := List.all_eq_true.mp hc v hv
  simpa using this
theorem zM_gen {sc : Nat × (Nat → Int32)} {d mi mc ms : Nat} {as : List Value} {h : zH} {P : zP} (k : ∀ P' : zP, (∀ (r : Option Value) (h' : zH), P r h' → P' r h') → zMt zTab sc d mi as h mc ms P') : zMt zTab sc d mi as h mc ms P := k P (fun _ _ h => h)
section ZW
variable {M : zM} {C S : Nat} {sc : Nat × (Nat → Int32)} {X : zC → Prop} {Q : zP} {pc : Nat} {L : zLc} {st : List Value} {h : zH} {uc us : Nat}
theorem z_callx {mi n mc ms : Nat} {As rest : List Value} {P : zP} (hsp : (st.take n).reverse = As) (hdr : st.drop n = rest) (hn : Nat.ble n st.length = true) (hcat : Nat.ble (List.sum (List.map (fun v : Value => v.category) rest)) 8 = true) (hM : M mi As h mc ms P) (hc : uc + mc ≤ C) (hs : us + ms ≤ S)
    (k : ∀ (r : Option Value) (h' : zH), P r h' → X (pc + 3, L, r.toList ++ rest, h', uc + mc, us + ms)) : z_call mi n (M, (C, S), sc) (pc, L, st, h, uc, us) X := by
  refine ⟨Nat.le_of_ble_eq_true hn, ?_, mc, ms, P, ?_, hc, hs, fun r h' hp => ?_⟩
  · show ((st.drop n).map fun v => v.category).sum ≤ 8
    rw [hdr]
    exact Nat.le_of_ble_eq_true hcat
  · show M mi (st.take n).reverse h mc ms P
    rw [hsp]
    exact hM
  · show X (pc + 3, L, r.toList ++ st.drop n, h', uc + mc, us + ms)
    rw [hdr]
    exact k r h' hp
theorem r_callV {ci mi n mc ms a : Nat} {As rest fs : List Value} {P : zP} (hM : M mi (.ref a :: As) h mc ms P) (hsp : (st.take (n + 1)).reverse = .ref a :: As) (hdr : st.drop (n + 1) = rest) (hn : Nat.ble (n + 1) st.length = true) (hcat : Nat.ble (List.sum (List.map (fun v : Value => v.category) rest)) 8 = true) (ho : h.1 a = .inr (ci, fs)) (hc : uc + mc ≤ C) (hs : us + ms ≤ S)
    (k : ∀ (r : Option Value) (h' : zH), P r h' → X (pc + 3, L, r.toList ++ rest, h', uc + mc, us + ms)) : i_callV ci mi n (M, (C, S), sc) (pc, L, st, h, uc, us) X Q := by
  refine ⟨⟨.ref a, ?_, ?_⟩, z_callx hsp hdr hn hcat hM hc hs k⟩
  · show (st.take (n + 1)).reverse[0]? = _
    rw [hsp]
    rfl
  · unfold z_recv
    show match h.1 a with | .inr o => o.1 = ci | _ => False
    rw [ho]
theorem r_callS {mi n mc ms : Nat} {As rest : List Value} {P : zP} (hM : M mi As h mc ms P) (hsp : (st.take n).reverse = As) (hdr : st.drop n = rest) (hn : Nat.ble n st.length = true) (hcat : Nat.ble (List.sum (List.map (fun v : Value => v.category) rest)) 8 = true) (hc : uc + mc ≤ C) (hs : us + ms ≤ S)
    (k : ∀ (r : Option Value) (h' : zH), P r h' → X (pc + 3, L, r.toList ++ rest, h', uc + mc, us + ms)) : i_callS mi n (M, (C, S), sc) (pc, L, st, h, uc, us) X Q :=
  z_callx hsp hdr hn hcat hM hc hs k
theorem r_callI {mi n mc ms a : Nat} {As rest : List Value} {P : zP} (hM : M mi (.ref a :: As) h mc ms P) (hsp : (st.take (n + 1)).reverse = .ref a :: As) (hdr : st.drop (n + 1) = rest) (hn : Nat.ble (n + 1) st.length = true) (hcat : Nat.ble (List.sum (List.map (fun v : Value => v.category) rest)) 8 = true) (hc : uc + mc ≤ C) (hs : us + ms ≤ S)
    (k : ∀ (r : Option Value) (h' : zH), P r h' → X (pc + 3, L, r.toList ++ rest, h', uc + mc, us + ms)) : i_callI mi n (M, (C, S), sc) (pc, L, st, h, uc, us) X Q := by
  refine ⟨⟨a, ?_⟩, z_callx hsp hdr hn hcat hM hc hs k⟩
  show (st.take (n + 1)).reverse[0]? = _
  rw [hsp]
  rfl
theorem r_tswIn {E : zE} {lo : Int} {ts : List Nat} {df : Nat} {x : Int32} {r : List Value} {q : zH × Nat × Nat} (k0 : Nat) {t0 : Nat} (hx : x.toInt = lo + k0) (ht : ts[k0]? = some t0) (k : X (t0, L, r, q)) : i_tsw lo ts df E (pc, L, .int x :: r, q) X Q := by
  have hk0 : k0 < ts.length := (List.getElem?_eq_some_iff.mp ht).1
  refine ⟨fun k' t' hk' hx' => ?_, fun hx' => ?_⟩
  · have e : k' = k0 := by omega
    subst e
    cases ht.symm.trans hk'
    exact k
  · rcases hx' with hx' | hx' <;> omega
theorem r_tswOut {E : zE} {lo : Int} {ts : List Nat} {df : Nat} {x : Int32} {r : List Value} {q : zH × Nat × Nat} (hx : x.toInt < lo ∨ lo + ts.length ≤ x.toInt) (k : X (df, L, r, q)) : i_tsw lo ts df E (pc, L, .int x :: r, q) X Q := by
  refine ⟨fun k' t' hk' hx' => ?_, fun _ => k⟩
  have hk0 : k' < ts.length := (List.getElem?_eq_some_iff.mp hk').1
  rcases hx with hx | hx <;> omega
end ZW
end
section
/-! Terms as lists of ints: nd is one to one. -/
abbrev zT : Type := List Int
def nd (k a b : Int) (t u w : zT) : zT := k :: a :: b :: (t.length : Int) :: (u.length : Int) :: (t ++ (u ++ w))
theorem nd_inj {k a b k' a' b' : Int} {t u w t' u' w' : zT} (h : nd k a b t u w = nd k' a' b' t' u' w') : k = k' ∧ a = a' ∧ b = b' ∧ t = t' ∧ u = u' ∧ w = w' := by
  unfold nd at h
  injection h with h1 h
  injection h with h2 h
  injection h with h3 h
  injection h with h4 h
  injection h with h5 h
  have e4 : t.length = t'.length := by exact_mod_cast h4
  have e5 : u.length = u'.length := by exact_mod_cast h5
  obtain ⟨e6, h⟩ := List.append_inj h e4
  obtain ⟨e7, e8⟩ := List.append_inj h e5
  exact ⟨h1, h2, h3, e6, e7, e8⟩
theorem nd_ne {k a b : Int} {t u w : zT} : nd k a b t u w ≠ [] := List.cons_ne_nil _ _
theorem i32_inj {x y : Int32} (h : x.toInt = y.toInt) : x = y := Int32.toInt_inj.mp h
theorem nI_inj {a b : Nat} (ha : a < 2 ^ 31) (hb : b < 2 ^ 31) (h : nI a = nI b) : a = b := (nI_eq ha hb).mp h
/-- a row of the class's table: what it stands for; its children lie below m -/
def rw_C (k a b c d : Int32) (den : Nat → zT) (m : Nat) (τ : zT) : Prop :=
  (k = 1 ∧ b = 0 ∧ c = 0 ∧ d = 0 ∧ τ = nd 1 a.toInt 0 [] [] []) ∨
  (k = 2 ∧ (∃ p, p ≤ 20 ∧ a = nI p) ∧ b = 0 ∧ c = 0 ∧ d = 0 ∧ τ = nd 2 a.toInt 0 [] [] []) ∨
  (k = 3 ∧ (∃ p, p ≤ 20 ∧ a = nI p) ∧ (∃ p, p ≤ 20 ∧ b = nI p) ∧ c = 0 ∧ d = 0 ∧ τ = nd 3 a.toInt b.toInt [] [] []) ∨
  ((k = 4 ∨ k = 5 ∨ k = 6) ∧ ∃ x y, 0 < x ∧ x < m ∧ 0 < y ∧ y < m ∧ a = nI x ∧ b = nI y ∧ c = 0 ∧ d = 0 ∧ τ = nd k.toInt 0 0 (den x) (den y) []) ∨
  (k = 7 ∧ ∃ x, 0 < x ∧ x < m ∧ a = nI x ∧ c = 0 ∧ d = 0 ∧ τ = nd 7 b.toInt 0 (den x) [] []) ∨
  (k = 8 ∧ ∃ x y z, 0 < x ∧ x < m ∧ 0 < y ∧ y < m ∧ 0 < z ∧ z < m ∧ a = nI x ∧ c = nI y ∧ d = nI z ∧ τ = nd 8 b.toInt 0 (den x) (den y) (den z))
theorem rw_C_mono {k a b c d : Int32} {den den' : Nat → zT} {m m' : Nat} {τ : zT} (h : rw_C k a b c d den m τ) (hm : m ≤ m') (hd : ∀ x, 0 < x → x < m → den' x = den x) : rw_C k a b c d den' m' τ := by
  rcases h with h | h | h | ⟨hk, x, y, hx, hxm, hy, hym, h⟩ | ⟨hk, x, hx, hxm, h⟩ | ⟨hk, x, y, z, hx, hxm, hy, hym, hz, hzm, h⟩
  · exact Or.inl h
  · exact Or.inr (Or.inl h)
  · exact Or.inr (Or.inr (Or.inl h))
  · refine Or.inr (Or.inr (Or.inr (Or.inl ⟨hk, x, y, hx, by omega, hy, by omega, ?_⟩)))
    rw [hd x hx hxm, hd y hy hym]
    exact h
  · refine Or.inr (Or.inr (Or.inr (Or.inr (Or.inl ⟨hk, x, hx, by omega, ?_⟩))))
    rw [hd x hx hxm]
    exact h
  · refine Or.inr (Or.inr (Or.inr (Or.inr (Or.inr ⟨hk, x, y, z, hx, by omega, hy, by omega, hz, by omega, ?_⟩))))
    rw [hd x hx hxm, hd y hy hym, hd z hz hzm]
    exact h
/-- the same fields: the same term -/
theorem rw_C_fun {k a b c d : Int32} {den : Nat → zT} {m m' : Nat} {τ τ' : zT} (hm : m ≤ 720) (hm' : m' ≤ 720) (h : rw_C k a b c d den m τ) (h' : rw_C k a b c d den m' τ') : τ = τ' := by
  rcases h with ⟨hk, h⟩ | ⟨hk, h⟩ | ⟨hk, h⟩ | ⟨hk, x, y, hx, hxm, hy, hym, h⟩ | ⟨hk, x, hx, hxm, h⟩ | ⟨hk, x, y, z, hx, hxm, hy, hym, hz, hzm, h⟩ <;>
  rcases h' with ⟨hk', h'⟩ | ⟨hk', h'⟩ | ⟨hk', h'⟩ | ⟨hk', x', y', hx', hxm', hy', hym', h'⟩ | ⟨hk', x', hx', hxm', h'⟩ | ⟨hk', x', y', z', hx', hxm', hy', hym', hz', hzm', h'⟩
  all_goals first
    | (exfalso; subst hk; revert hk'; decide)
    | (exfalso; subst hk'; revert hk; decide)
    | skip
  · rw [h.2.2.2, h'.2.2.2]
  · rw [h.2.2.2.2, h'.2.2.2.2]
  · rw [h.2.2.2.2, h'.2.2.2.2]
  · obtain ⟨h1, h2, -, -, h3⟩ := h
    obtain ⟨g1, g2, -, -, g3⟩ := h'
    rw [h3, g3, nI_inj (by omega) (by omega) (h1.symm.trans g1), nI_inj (by omega) (by omega) (h2.symm.trans g2)]
  · obtain ⟨h1, -, -, h3⟩ := h
    obtain ⟨g1, -, -, g3⟩ := h'
    rw [h3, g3, nI_inj (by omega) (by omega) (h1.symm.trans g1)]
  · obtain ⟨h1, h2, h4, h3⟩ := h
    obtain ⟨g1, g2, g4, g3⟩ := h'
    rw [h3, g3, nI_inj (by omega) (by omega) (h1.symm.trans g1), nI_inj (by omega) (by omega) (h2.symm.trans g2), nI_inj (by omega) (by omega) (h4.symm.trans g4)]
/-- the same term: the same fields -/
theorem rw_C_inj {k a b c d k' a' b' c' d' : Int32} {den : Nat → zT} {m m' n : Nat} {τ : zT} (hi : ∀ x y, 0 < x → x ≤ n → 0 < y → y ≤ n → den x = den y → x = y) (hm : m ≤ n + 1) (hm' : m' ≤ n + 1) (h : rw_C k a b c d den m τ) (h' : rw_C k' a' b' c' d' den m' τ) : k = k' ∧ a = a' ∧ b = b' ∧ c = c' ∧ d = d' := by
  rcases h with ⟨hk, h⟩ | ⟨hk, h⟩ | ⟨hk, h⟩ | ⟨hk, x, y, hx, hxm, hy, hym, h⟩ | ⟨hk, x, hx, hxm, h⟩ | ⟨hk, x, y, z, hx, hxm, hy, hym, hz, hzm, h⟩ <;>
  rcases h' with ⟨hk', h'⟩ | ⟨hk', h'⟩ | ⟨hk', h'⟩ | ⟨hk', x', y', hx', hxm', hy', hym', h'⟩ | ⟨hk', x', hx', hxm', h'⟩ | ⟨hk', x', y', z', hx', hxm', hy', hym', hz', hzm', h'⟩
  all_goals first
    | (exfalso; first | exact absurd (nd_inj (Eq.trans (Eq.symm h.2.2.2) h'.2.2.2)).1 (by decide) | exact absurd (nd_inj (Eq.trans (Eq.symm h.2.2.2) h'.2.2.2.2)).1 (by decide) | exact absurd (nd_inj (Eq.trans (Eq.symm h.2.2.2.2) h'.2.2.2)).1 (by decide) | exact absurd (nd_inj (Eq.trans (Eq.symm h.2.2.2.2) h'.2.2.2.2)).1 (by decide))
    | (exfalso; rcases hk with rfl | rfl | rfl <;> first | exact absurd (nd_inj (Eq.trans (Eq.symm h.2.2.2) h'.2.2.2)).1 (by decide) | exact absurd (nd_inj (Eq.trans (Eq.symm h.2.2.2) h'.2.2.2.2)).1 (by decide) | exact absurd (nd_inj (Eq.trans (Eq.symm h.2.2.2.2) h'.2.2.2)).1 (by decide) | exact absurd (nd_inj (Eq.trans (Eq.symm h.2.2.2.2) h'.2.2.2.2)).1 (by decide))
    | (exfalso; rcases hk' with rfl | rfl | rfl <;> first | exact absurd (nd_inj (Eq.trans (Eq.symm h.2.2.2) h'.2.2.2)).1 (by decide) | exact absurd (nd_inj (Eq.trans (Eq.symm h.2.2.2) h'.2.2.2.2)).1 (by decide) | exact absurd (nd_inj (Eq.trans (Eq.symm h.2.2.2.2) h'.2.2.2)).1 (by decide) | exact absurd (nd_inj (Eq.trans (Eq.symm h.2.2.2.2) h'.2.2.2.2)).1 (by decide))
    | skip
  · have e := nd_inj (h.2.2.2.symm.trans h'.2.2.2)
    exact ⟨by rw [hk, hk'], i32_inj e.2.1, by rw [h.1, h'.1], by rw [h.2.1, h'.2.1], by rw [h.2.2.1, h'.2.2.1]⟩
  · have e := nd_inj (h.2.2.2.2.symm.trans h'.2.2.2.2)
    exact ⟨by rw [hk, hk'], i32_inj e.2.1, by rw [h.2.1, h'.2.1], by rw [h.2.2.1, h'.2.2.1], by rw [h.2.2.2.1, h'.2.2.2.1]⟩
  · have e := nd_inj (h.2.2.2.2.symm.trans h'.2.2.2.2)
    exact ⟨by rw [hk, hk'], i32_inj e.2.1, i32_inj e.2.2.1, by rw [h.2.2.1, h'.2.2.1], by rw [h.2.2.2.1, h'.2.2.2.1]⟩
  · have e := nd_inj (h.2.2.2.2.symm.trans h'.2.2.2.2)
    have ex := hi x x' hx (by omega) hx' (by omega) e.2.2.2.1
    have ey := hi y y' hy (by omega) hy' (by omega) e.2.2.2.2.1
    exact ⟨i32_inj e.1, by rw [h.1, h'.1, ex], by rw [h.2.1, h'.2.1, ey], by rw [h.2.2.1, h'.2.2.1], by rw [h.2.2.2.1, h'.2.2.2.1]⟩
  · have e := nd_inj (h.2.2.2.symm.trans h'.2.2.2)
    have ex := hi x x' hx (by omega) hx' (by omega) e.2.2.2.1
    exact ⟨by rw [hk, hk'], by rw [h.1, h'.1, ex], i32_inj e.2.1, by rw [h.2.1, h'.2.1], by rw [h.2.2.1, h'.2.2.1]⟩
  · have e := nd_inj (h.2.2.2.symm.trans h'.2.2.2)
    have ex := hi x x' hx (by omega) hx' (by omega) e.2.2.2.1
    have ey := hi y y' hy (by omega) hy' (by omega) e.2.2.2.2.1
    have ez := hi z z' hz (by omega) hz' (by omega) e.2.2.2.2.2
    exact ⟨by rw [hk, hk'], by rw [h.1, h'.1, ex], i32_inj e.2.1, by rw [h.2.1, h'.2.1, ey], by rw [h.2.2.1, h'.2.2.1, ez]⟩
/-- the class's Terms: the object at place 1, its arrays at 2 .. 10; T 0 .. T 8 are kind, first, second, third, fourth, known, nextInBucket, newestInBucket, given -/
def tS (h : zH) (T : Nat → Nat → Int32) (n k : Nat) : Prop :=
  h.1 1 = .inr (4, [.ref 2, .ref 3, .ref 4, .ref 5, .ref 6, .ref 7, .ref 8, .ref 9, .ref 10, .int (nI n), .int (nI k)]) ∧
  h.1 2 = .inl (0, 720, .inl (T 0)) ∧ h.1 3 = .inl (0, 720, .inl (T 1)) ∧ h.1 4 = .inl (0, 720, .inl (T 2)) ∧ h.1 5 = .inl (0, 720, .inl (T 3)) ∧ h.1 6 = .inl (0, 720, .inl (T 4)) ∧
  h.1 7 = .inl (1, 720, .inl (T 5)) ∧ h.1 8 = .inl (0, 720, .inl (T 6)) ∧ h.1 9 = .inl (0, 128, .inl (T 7)) ∧ h.1 10 = .inl (1, 21, .inl (T 8))
/-- what judged asks -/
def jg (T : Nat → Nat → Int32) (t : Nat) : Prop :=
  (T 0 t = 3 → ¬ T 8 (T 1 t).toNatClampNeg = 0 ∨ ¬ T 8 (T 2 t).toNatClampNeg = 0) ∧
  ((T 0 t = 4 ∨ T 0 t = 5 ∨ T 0 t = 6) → ¬ T 5 (T 1 t).toNatClampNeg = 0 ∧ ¬ T 5 (T 2 t).toNatClampNeg = 0) ∧
  (T 0 t = 7 → ¬ T 5 (T 1 t).toNatClampNeg = 0)
theorem jg_oth {T : Nat → Nat → Int32} {t : Nat} (h3 : ¬ T 0 t = 3) (h4 : ¬ (T 0 t = 4 ∨ T 0 t = 5 ∨ T 0 t = 6)) (h7 : ¬ T 0 t = 7) : jg T t := ⟨fun z => absurd z h3, fun z => absurd z h4, fun z => absurd z h7⟩
theorem in720 {t : Nat} (h : t < 720) : vp_in (nI t) 720 := vp_in_nI h (by decide)
theorem cl720 {t : Nat} (h : t < 720) : (nI t).toNatClampNeg = t := nI_clamp (by omega)
def kv (T : Nat → Nat → Int32) (t : Nat) (v : Int32) : Prop := (v = 1 ∧ jg T t) ∨ (v = 0 ∧ ¬ jg T t)
def bkt (k a b c d : Int32) : Int32 := (((((k * 31 + a) * 31 + b) * 31 + c) * 31 + d) ^^^ ((((((k * 31 + a) * 31 + b) * 31 + c) * 31 + d).toUInt32 >>> ((7 : Int32).toUInt32 &&& Int32.toUInt32 31)).toInt32) ^^^ ((((((k * 31 + a) * 31 + b) * 31 + c) * 31 + d).toUInt32 >>> ((14 : Int32).toUInt32 &&& Int32.toUInt32 31)).toInt32)) &&& 127
theorem c_bucketOf (sc : Nat × (Nat → Int32)) (d : Nat) (h : zH) (k a b c e : Int32) : zMt zTab sc (d + 1) 55 [.int k, .int a, .int b, .int c, .int e] h 0 0 (fun r h' => r = some (.int (bkt k a b c e)) ∧ h' = h) := by
  refine zM_gen fun P hP => ?_
  refine zM_start (r := r_Te_bucketOf) (cd := k_Te_bucketOf) (L0 := [some (.int k), some (.int a), some (.int b), some (.int c), some (.int e), none]) rfl rfl rfl rfl rfl ?_
  (repeat (refine zS_one rfl ?_; simp (disch := (first | decide | assumption | omega)) only [i_push, i_null, i_ild, i_ald, i_ist, i_ast, i_inc, i_bin, i_div, i_un, i_dup, i_pop, i_dup2, i_if, i_icmp, i_nul, i_nnl, i_goto, i_getf, i_putf, i_gets, i_nald, i_nast, i_aald, i_aast, i_alen, i_new, i_newa, i_newq, i_math, i_oini, i_iret, i_zret, i_aret, i_vret, z_fit, List.getElem?_cons_zero, List.getElem?_cons_succ, List.set_cons_zero, List.set_cons_succ, Nat.reduceAdd, Nat.reduceLT, Nat.reduceLeDiff, Nat.reduceEqDiff, Nat.zero_lt_succ, Value.category, true_and, or_true, true_or, and_true, false_implies, true_implies, not_false_eq_true, not_true_eq_false, List.map_cons, List.map_nil, List.sum_cons, List.sum_nil, va_up_eq, va_up_lit, List.length_cons, List.length_nil, List.drop_succ_cons, List.drop_zero, Option.toList_some, Option.toList_none, List.cons_append, List.nil_append]))
  exact hP _ _ ⟨rfl, rfl⟩
theorem bkt_in (k a b c d : Int32) : ∃ j, j < 128 ∧ bkt k a b c d = nI j := pk_andE _ 7 (by decide)
theorem c_judged (sc : Nat × (Nat → Int32)) (d : Nat) {h0 : zH} {T : Nat → Nat → Int32} {n k t : Nat} {den : Nat → zT} {τ : zT} (hS : tS h0 T n k) (ht : t < 720) (hr : rw_C (T 0 t) (T 1 t) (T 2 t) (T 3 t) (T 4 t) den t τ) (h5 : ∀ j, T 5 j = 0 ∨ T 5 j = 1) : zMt zTab sc (d + 1) 54 [.ref 1, .int (nI t)] h0 0 0 (fun r h' => h' = h0 ∧ ∃ v, r = some (.int v) ∧ kv T t v) := by
  obtain ⟨e1, e2, e3, e4, e5, e6, e7, e8, e9, e10⟩ := hS
  have v1 := in720 ht
  have v2 := cl720 ht
  refine zM_gen fun P hP => ?_
  refine zM_start (r := r_Te_judged) (cd := k_Te_judged) (L0 := [some (.ref 1), some (.int (nI t))]) rfl rfl rfl rfl rfl ?_
  (repeat (refine zS_one rfl ?_; simp (disch := (first | decide | assumption | omega)) only [i_push, i_null, i_ild, i_ald, i_ist, i_ast, i_inc, i_bin, i_div, i_un, i_dup, i_pop, i_dup2, i_if, i_icmp, i_nul, i_nnl, i_goto, i_getf, i_putf, i_gets, i_nald, i_nast, i_aald, i_aast, i_alen, i_new, i_newa, i_newq, i_math, i_oini, i_iret, i_zret, i_aret, i_vret, z_fit, List.getElem?_cons_zero, List.getElem?_cons_succ, List.set_cons_zero, List.set_cons_succ, Nat.reduceAdd, Nat.reduceLT, Nat.reduceLeDiff, Nat.reduceEqDiff, Nat.zero_lt_succ, Value.category, true_and, or_true, true_or, and_true, false_implies, true_implies, not_false_eq_true, not_true_eq_false, List.map_cons, List.map_nil, List.sum_cons, List.sum_nil, va_up_eq, va_up_lit, List.length_cons, List.length_nil, List.drop_succ_cons, List.drop_zero, Option.toList_some, Option.toList_none, List.cons_append, List.nil_append, e1, e2, v1, v2]))
  (try refine zS_one rfl ?_)
  rcases hr with ⟨hk, h⟩ | ⟨hk, h⟩ | ⟨hk, ⟨p, hp, ha⟩, ⟨q, hq, hb⟩, h⟩ | ⟨hk, x, y, hx, hxm, hy, hym, ha, hb, h⟩ | ⟨hk, x, hx, hxm, ha, h⟩ | ⟨hk, h⟩
  · refine r_tswOut (by rw [hk]; decide) ?_
    (repeat (refine zS_one rfl ?_; simp (disch := (first | decide | assumption | omega)) only [i_push, i_null, i_ild, i_ald, i_ist, i_ast, i_inc, i_bin, i_div, i_un, i_dup, i_pop, i_dup2, i_if, i_icmp, i_nul, i_nnl, i_goto, i_getf, i_putf, i_gets, i_nald, i_nast, i_aald, i_aast, i_alen, i_new, i_newa, i_newq, i_math, i_oini, i_iret, i_zret, i_aret, i_vret, z_fit, List.getElem?_cons_zero, List.getElem?_cons_succ, List.set_cons_zero, List.set_cons_succ, Nat.reduceAdd, Nat.reduceLT, Nat.reduceLeDiff, Nat.reduceEqDiff, Nat.zero_lt_succ, Value.category, true_and, or_true, true_or, and_true, false_implies, true_implies, not_false_eq_true, not_true_eq_false, List.map_cons, List.map_nil, List.sum_cons, List.sum_nil, va_up_eq, va_up_lit, List.length_cons, List.length_nil, List.drop_succ_cons, List.drop_zero, Option.toList_some, Option.toList_none, List.cons_append, List.nil_append]))
    exact hP _ _ ⟨rfl, _, rfl, Or.inl ⟨rfl, jg_oth (by rw [hk]; decide) (by rw [hk]; decide) (by rw [hk]; decide)⟩⟩
  · refine r_tswOut (by rw [hk]; decide) ?_
    (repeat (refine zS_one rfl ?_; simp (disch := (first | decide | assumption | omega)) only [i_push, i_null, i_ild, i_ald, i_ist, i_ast, i_inc, i_bin, i_div, i_un, i_dup, i_pop, i_dup2, i_if, i_icmp, i_nul, i_nnl, i_goto, i_getf, i_putf, i_gets, i_nald, i_nast, i_aald, i_aast, i_alen, i_new, i_newa, i_newq, i_math, i_oini, i_iret, i_zret, i_aret, i_vret, z_fit, List.getElem?_cons_zero, List.getElem?_cons_succ, List.set_cons_zero, List.set_cons_succ, Nat.reduceAdd, Nat.reduceLT, Nat.reduceLeDiff, Nat.reduceEqDiff, Nat.zero_lt_succ, Value.category, true_and, or_true, true_or, and_true, false_implies, true_implies, not_false_eq_true, not_true_eq_false, List.map_cons, List.map_nil, List.sum_cons, List.sum_nil, va_up_eq, va_up_lit, List.length_cons, List.length_nil, List.drop_succ_cons, List.drop_zero, Option.toList_some, Option.toList_none, List.cons_append, List.nil_append]))
    exact hP _ _ ⟨rfl, _, rfl, Or.inl ⟨rfl, jg_oth (by rw [hk]; decide) (by rw [hk]; decide) (by rw [hk]; decide)⟩⟩
  · have w1 : vp_in (nI p) 21 := vp_in_nI (by omega) (by decide)
    have w2 : (nI p).toNatClampNeg = p := nI_clamp (by omega)
    have w3 : vp_in (nI q) 21 := vp_in_nI (by omega) (by decide)
    have w4 : (nI q).toNatClampNeg = q := nI_clamp (by omega)
    refine r_tswIn 0 (by rw [hk]; decide) rfl ?_
    (repeat (refine zS_one rfl ?_; simp (disch := (first | decide | assumption | omega)) only [i_push, i_null, i_ild, i_ald, i_ist, i_ast, i_inc, i_bin, i_div, i_un, i_dup, i_pop, i_dup2, i_if, i_icmp, i_nul, i_nnl, i_goto, i_getf, i_putf, i_gets, i_nald, i_nast, i_aald, i_aast, i_alen, i_new, i_newa, i_newq, i_math, i_oini, i_iret, i_zret, i_aret, i_vret, z_fit, List.getElem?_cons_zero, List.getElem?_cons_succ, List.set_cons_zero, List.set_cons_succ, Nat.reduceAdd, Nat.reduceLT, Nat.reduceLeDiff, Nat.reduceEqDiff, Nat.zero_lt_succ, Value.category, true_and, or_true, true_or, and_true, false_implies, true_implies, not_false_eq_true, not_true_eq_false, List.map_cons, List.map_nil, List.sum_cons, List.sum_nil, va_up_eq, va_up_lit, List.length_cons, List.length_nil, List.drop_succ_cons, List.drop_zero, Option.toList_some, Option.toList_none, List.cons_append, List.nil_append, e1, e2, e3, e4, e10, v1, v2, ha, hb, w1, w2, w3, w4]))
    refine ⟨fun f1 => ?_, fun f1 => ?_⟩
    · (repeat (refine zS_one rfl ?_; simp (disch := (first | decide | assumption | omega)) only [i_push, i_null, i_ild, i_ald, i_ist, i_ast, i_inc, i_bin, i_div, i_un, i_dup, i_pop, i_dup2, i_if, i_icmp, i_nul, i_nnl, i_goto, i_getf, i_putf, i_gets, i_nald, i_nast, i_aald, i_aast, i_alen, i_new, i_newa, i_newq, i_math, i_oini, i_iret, i_zret, i_aret, i_vret, z_fit, List.getElem?_cons_zero, List.getElem?_cons_succ, List.set_cons_zero, List.set_cons_succ, Nat.reduceAdd, Nat.reduceLT, Nat.reduceLeDiff, Nat.reduceEqDiff, Nat.zero_lt_succ, Value.category, true_and, or_true, true_or, and_true, false_implies, true_implies, not_false_eq_true, not_true_eq_false, List.map_cons, List.map_nil, List.sum_cons, List.sum_nil, va_up_eq, va_up_lit, List.length_cons, List.length_nil, List.drop_succ_cons, List.drop_zero, Option.toList_some, Option.toList_none, List.cons_append, List.nil_append]))
      exact hP _ _ ⟨rfl, _, rfl, Or.inl ⟨rfl, ⟨fun _ => Or.inl (by rw [ha, w2]; exact f1), fun z => absurd z (by rw [hk]; decide), fun z => absurd z (by rw [hk]; decide)⟩⟩⟩
    · (repeat (refine zS_one rfl ?_; simp (disch := (first | decide | assumption | omega)) only [i_push, i_null, i_ild, i_ald, i_ist, i_ast, i_inc, i_bin, i_div, i_un, i_dup, i_pop, i_dup2, i_if, i_icmp, i_nul, i_nnl, i_goto, i_getf, i_putf, i_gets, i_nald, i_nast, i_aald, i_aast, i_alen, i_new, i_newa, i_newq, i_math, i_oini, i_iret, i_zret, i_aret, i_vret, z_fit, List.getElem?_cons_zero, List.getElem?_cons_succ, List.set_cons_zero, List.set_cons_succ, Nat.reduceAdd, Nat.reduceLT, Nat.reduceLeDiff, Nat.reduceEqDiff, Nat.zero_lt_succ, Value.category, true_and, or_true, true_or, and_true, false_implies, true_implies, not_false_eq_true, not_true_eq_false, List.map_cons, List.map_nil, List.sum_cons, List.sum_nil, va_up_eq, va_up_lit, List.length_cons, List.length_nil, List.drop_succ_cons, List.drop_zero, Option.toList_some, Option.toList_none, List.cons_append, List.nil_append, e1, e2, e3, e4, e10, v1, v2, ha, hb, w1, w2, w3, w4]))
      refine ⟨fun f2 => ?_, fun f2 => ?_⟩
      · (repeat (refine zS_one rfl ?_; simp (disch := (first | decide | assumption | omega)) only [i_push, i_null, i_ild, i_ald, i_ist, i_ast, i_inc, i_bin, i_div, i_un, i_dup, i_pop, i_dup2, i_if, i_icmp, i_nul, i_nnl, i_goto, i_getf, i_putf, i_gets, i_nald, i_nast, i_aald, i_aast, i_alen, i_new, i_newa, i_newq, i_math, i_oini, i_iret, i_zret, i_aret, i_vret, z_fit, List.getElem?_cons_zero, List.getElem?_cons_succ, List.set_cons_zero, List.set_cons_succ, Nat.reduceAdd, Nat.reduceLT, Nat.reduceLeDiff, Nat.reduceEqDiff, Nat.zero_lt_succ, Value.category, true_and, or_true, true_or, and_true, false_implies, true_implies, not_false_eq_true, not_true_eq_false, List.map_cons, List.map_nil, List.sum_cons, List.sum_nil, va_up_eq, va_up_lit, List.length_cons, List.length_nil, List.drop_succ_cons, List.drop_zero, Option.toList_some, Option.toList_none, List.cons_append, List.nil_append]))
        refine hP _ _ ⟨rfl, _, rfl, Or.inr ⟨rfl, fun hj => ?_⟩⟩
        unfold jg at hj
        rw [hk, ha, hb, w2, w4] at hj
        rcases hj.1 rfl with g | g
        · exact g f1
        · exact g f2
      · (repeat (refine zS_one rfl ?_; simp (disch := (first | decide | assumption | omega)) only [i_push, i_null, i_ild, i_ald, i_ist, i_ast, i_inc, i_bin, i_div, i_un, i_dup, i_pop, i_dup2, i_if, i_icmp, i_nul, i_nnl, i_goto, i_getf, i_putf, i_gets, i_nald, i_nast, i_aald, i_aast, i_alen, i_new, i_newa, i_newq, i_math, i_oini, i_iret, i_zret, i_aret, i_vret, z_fit, List.getElem?_cons_zero, List.getElem?_cons_succ, List.set_cons_zero, List.set_cons_succ, Nat.reduceAdd, Nat.reduceLT, Nat.reduceLeDiff, Nat.reduceEqDiff, Nat.zero_lt_succ, Value.category, true_and, or_true, true_or, and_true, false_implies, true_implies, not_false_eq_true, not_true_eq_false, List.map_cons, List.map_nil, List.sum_cons, List.sum_nil, va_up_eq, va_up_lit, List.length_cons, List.length_nil, List.drop_succ_cons, List.drop_zero, Option.toList_some, Option.toList_none, List.cons_append, List.nil_append]))
        exact hP _ _ ⟨rfl, _, rfl, Or.inl ⟨rfl, ⟨fun _ => Or.inr (by rw [hb, w4]; exact f2), fun z => absurd z (by rw [hk]; decide), fun z => absurd z (by rw [hk]; decide)⟩⟩⟩
  · have w1 := in720 (t := x) (by omega)
    have w2 := cl720 (t := x) (by omega)
    have w3 := in720 (t := y) (by omega)
    have w4 := cl720 (t := y) (by omega)
    have hk3 : ¬ T 0 t = 3 := by rcases hk with hk | hk | hk <;> rw [hk] <;> decide
    have hk7 : ¬ T 0 t = 7 := by rcases hk with hk | hk | hk <;> rw [hk] <;> decide
    have go : zS (zMt zTab sc d, (0, 0), sc) k_Te_judged P (74, [some (.ref 1), some (.int (nI t))], [], h0, 0, 0) := by
      (repeat (refine zS_one rfl ?_; simp (disch := (first | decide | assumption | omega)) only [i_push, i_null, i_ild, i_ald, i_ist, i_ast, i_inc, i_bin, i_div, i_un, i_dup, i_pop, i_dup2, i_if, i_icmp, i_nul, i_nnl, i_goto, i_getf, i_putf, i_gets, i_nald, i_nast, i_aald, i_aast, i_alen, i_new, i_newa, i_newq, i_math, i_oini, i_iret, i_zret, i_aret, i_vret, z_fit, List.getElem?_cons_zero, List.getElem?_cons_succ, List.set_cons_zero, List.set_cons_succ, Nat.reduceAdd, Nat.reduceLT, Nat.reduceLeDiff, Nat.reduceEqDiff, Nat.zero_lt_succ, Value.category, true_and, or_true, true_or, and_true, false_implies, true_implies, not_false_eq_true, not_true_eq_false, List.map_cons, List.map_nil, List.sum_cons, List.sum_nil, va_up_eq, va_up_lit, List.length_cons, List.length_nil, List.drop_succ_cons, List.drop_zero, Option.toList_some, Option.toList_none, List.cons_append, List.nil_append, e1, e2, e3, e4, e7, v1, v2, ha, hb, w1, w2, w3, w4]))
      refine ⟨fun f1 => ?_, fun f1 => ?_⟩
      · (repeat (refine zS_one rfl ?_; simp (disch := (first | decide | assumption | omega)) only [i_push, i_null, i_ild, i_ald, i_ist, i_ast, i_inc, i_bin, i_div, i_un, i_dup, i_pop, i_dup2, i_if, i_icmp, i_nul, i_nnl, i_goto, i_getf, i_putf, i_gets, i_nald, i_nast, i_aald, i_aast, i_alen, i_new, i_newa, i_newq, i_math, i_oini, i_iret, i_zret, i_aret, i_vret, z_fit, List.getElem?_cons_zero, List.getElem?_cons_succ, List.set_cons_zero, List.set_cons_succ, Nat.reduceAdd, Nat.reduceLT, Nat.reduceLeDiff, Nat.reduceEqDiff, Nat.zero_lt_succ, Value.category, true_and, or_true, true_or, and_true, false_implies, true_implies, not_false_eq_true, not_true_eq_false, List.map_cons, List.map_nil, List.sum_cons, List.sum_nil, va_up_eq, va_up_lit, List.length_cons, List.length_nil, List.drop_succ_cons, List.drop_zero, Option.toList_some, Option.toList_none, List.cons_append, List.nil_append]))
        refine hP _ _ ⟨rfl, _, rfl, Or.inr ⟨rfl, fun hj => ?_⟩⟩
        unfold jg at hj
        rw [ha, w2] at hj
        exact (hj.2.1 hk).1 f1
      · (repeat (refine zS_one rfl ?_; simp (disch := (first | decide | assumption | omega)) only [i_push, i_null, i_ild, i_ald, i_ist, i_ast, i_inc, i_bin, i_div, i_un, i_dup, i_pop, i_dup2, i_if, i_icmp, i_nul, i_nnl, i_goto, i_getf, i_putf, i_gets, i_nald, i_nast, i_aald, i_aast, i_alen, i_new, i_newa, i_newq, i_math, i_oini, i_iret, i_zret, i_aret, i_vret, z_fit, List.getElem?_cons_zero, List.getElem?_cons_succ, List.set_cons_zero, List.set_cons_succ, Nat.reduceAdd, Nat.reduceLT, Nat.reduceLeDiff, Nat.reduceEqDiff, Nat.zero_lt_succ, Value.category, true_and, or_true, true_or, and_true, false_implies, true_implies, not_false_eq_true, not_true_eq_false, List.map_cons, List.map_nil, List.sum_cons, List.sum_nil, va_up_eq, va_up_lit, List.length_cons, List.length_nil, List.drop_succ_cons, List.drop_zero, Option.toList_some, Option.toList_none, List.cons_append, List.nil_append, e1, e2, e3, e4, e7, v1, v2, ha, hb, w1, w2, w3, w4]))
        refine ⟨fun f2 => ?_, fun f2 => ?_⟩
        · (repeat (refine zS_one rfl ?_; simp (disch := (first | decide | assumption | omega)) only [i_push, i_null, i_ild, i_ald, i_ist, i_ast, i_inc, i_bin, i_div, i_un, i_dup, i_pop, i_dup2, i_if, i_icmp, i_nul, i_nnl, i_goto, i_getf, i_putf, i_gets, i_nald, i_nast, i_aald, i_aast, i_alen, i_new, i_newa, i_newq, i_math, i_oini, i_iret, i_zret, i_aret, i_vret, z_fit, List.getElem?_cons_zero, List.getElem?_cons_succ, List.set_cons_zero, List.set_cons_succ, Nat.reduceAdd, Nat.reduceLT, Nat.reduceLeDiff, Nat.reduceEqDiff, Nat.zero_lt_succ, Value.category, true_and, or_true, true_or, and_true, false_implies, true_implies, not_false_eq_true, not_true_eq_false, List.map_cons, List.map_nil, List.sum_cons, List.sum_nil, va_up_eq, va_up_lit, List.length_cons, List.length_nil, List.drop_succ_cons, List.drop_zero, Option.toList_some, Option.toList_none, List.cons_append, List.nil_append]))
          refine hP _ _ ⟨rfl, _, rfl, Or.inr ⟨rfl, fun hj => ?_⟩⟩
          unfold jg at hj
          rw [hb, w4] at hj
          exact (hj.2.1 hk).2 f2
        · (repeat (refine zS_one rfl ?_; simp (disch := (first | decide | assumption | omega)) only [i_push, i_null, i_ild, i_ald, i_ist, i_ast, i_inc, i_bin, i_div, i_un, i_dup, i_pop, i_dup2, i_if, i_icmp, i_nul, i_nnl, i_goto, i_getf, i_putf, i_gets, i_nald, i_nast, i_aald, i_aast, i_alen, i_new, i_newa, i_newq, i_math, i_oini, i_iret, i_zret, i_aret, i_vret, z_fit, List.getElem?_cons_zero, List.getElem?_cons_succ, List.set_cons_zero, List.set_cons_succ, Nat.reduceAdd, Nat.reduceLT, Nat.reduceLeDiff, Nat.reduceEqDiff, Nat.zero_lt_succ, Value.category, true_and, or_true, true_or, and_true, false_implies, true_implies, not_false_eq_true, not_true_eq_false, List.map_cons, List.map_nil, List.sum_cons, List.sum_nil, va_up_eq, va_up_lit, List.length_cons, List.length_nil, List.drop_succ_cons, List.drop_zero, Option.toList_some, Option.toList_none, List.cons_append, List.nil_append]))
          refine hP _ _ ⟨rfl, _, rfl, Or.inl ⟨rfl, ?_⟩⟩
          unfold jg
          rw [ha, hb, w2, w4]
          exact ⟨fun z => absurd z hk3, fun _ => ⟨f1, f2⟩, fun z => absurd z hk7⟩
    rcases hk with hk | hk | hk
    · exact r_tswIn 1 (by rw [hk]; decide) rfl go
    · exact r_tswIn 2 (by rw [hk]; decide) rfl go
    · exact r_tswIn 3 (by rw [hk]; decide) rfl go
  · have w1 := in720 (t := x) (by omega)
    have w2 := cl720 (t := x) (by omega)
    refine r_tswIn 4 (by rw [hk]; decide) rfl ?_
    (repeat (refine zS_one rfl ?_; simp (disch := (first | decide | assumption | omega)) only [i_push, i_null, i_ild, i_ald, i_ist, i_ast, i_inc, i_bin, i_div, i_un, i_dup, i_pop, i_dup2, i_if, i_icmp, i_nul, i_nnl, i_goto, i_getf, i_putf, i_gets, i_nald, i_nast, i_aald, i_aast, i_alen, i_new, i_newa, i_newq, i_math, i_oini, i_iret, i_zret, i_aret, i_vret, z_fit, List.getElem?_cons_zero, List.getElem?_cons_succ, List.set_cons_zero, List.set_cons_succ, Nat.reduceAdd, Nat.reduceLT, Nat.reduceLeDiff, Nat.reduceEqDiff, Nat.zero_lt_succ, Value.category, true_and, or_true, true_or, and_true, false_implies, true_implies, not_false_eq_true, not_true_eq_false, List.map_cons, List.map_nil, List.sum_cons, List.sum_nil, va_up_eq, va_up_lit, List.length_cons, List.length_nil, List.drop_succ_cons, List.drop_zero, Option.toList_some, Option.toList_none, List.cons_append, List.nil_append, e1, e2, e3, e4, e7, v1, v2, ha, w1, w2]))
    refine ⟨h5 x, ?_⟩
    refine hP _ _ ⟨rfl, _, rfl, ?_⟩
    rcases h5 x with f1 | f1
    · refine Or.inr ⟨f1, fun hj => ?_⟩
      unfold jg at hj
      rw [ha, w2] at hj
      exact hj.2.2 hk f1
    · refine Or.inl ⟨f1, ?_⟩
      exact ⟨fun z => absurd z (by rw [hk]; decide), fun z => absurd z (by rw [hk]; decide), fun _ => by rw [ha, w2, f1]; decide⟩
  · refine r_tswOut (by rw [hk]; decide) ?_
    (repeat (refine zS_one rfl ?_; simp (disch := (first | decide | assumption | omega)) only [i_push, i_null, i_ild, i_ald, i_ist, i_ast, i_inc, i_bin, i_div, i_un, i_dup, i_pop, i_dup2, i_if, i_icmp, i_nul, i_nnl, i_goto, i_getf, i_putf, i_gets, i_nald, i_nast, i_aald, i_aast, i_alen, i_new, i_newa, i_newq, i_math, i_oini, i_iret, i_zret, i_aret, i_vret, z_fit, List.getElem?_cons_zero, List.getElem?_cons_succ, List.set_cons_zero, List.set_cons_succ, Nat.reduceAdd, Nat.reduceLT, Nat.reduceLeDiff, Nat.reduceEqDiff, Nat.zero_lt_succ, Value.category, true_and, or_true, true_or, and_true, false_implies, true_implies, not_false_eq_true, not_true_eq_false, List.map_cons, List.map_nil, List.sum_cons, List.sum_nil, va_up_eq, va_up_lit, List.length_cons, List.length_nil, List.drop_succ_cons, List.drop_zero, Option.toList_some, Option.toList_none, List.cons_append, List.nil_append]))
    exact hP _ _ ⟨rfl, _, rfl, Or.inl ⟨rfl, jg_oth (by rw [hk]; decide) (by rw [hk]; decide) (by rw [hk]; decide)⟩⟩
end
section
/-! Terms.make: every term once. -/
def bkT (T : Nat → Nat → Int32) (t : Nat) : Int32 := bkt (T 0 t) (T 1 t) (T 2 t) (T 3 t) (T 4 t)
def TI (T : Nat → Nat → Int32) (n k : Nat) (den : Nat → zT) : Prop :=
  n < 720 ∧ (8 ≤ k ∧ k ≤ 20) ∧ (∀ j, T 5 j = 0 ∨ T 5 j = 1) ∧ (∀ j, T 8 j = 0 ∨ T 8 j = 1) ∧ T 0 0 = 0 ∧
  (∀ t, 0 < t → t ≤ n → rw_C (T 0 t) (T 1 t) (T 2 t) (T 3 t) (T 4 t) den t (den t)) ∧
  (∀ t u, 0 < t → t ≤ n → 0 < u → u ≤ n → den t = den u → t = u) ∧
  (∀ t, 0 < t → t ≤ n → kv T t (T 5 t)) ∧
  (∀ t, 0 < t → t ≤ n → ∃ x, x < t ∧ T 6 t = nI x ∧ (x = 0 ∨ bkT T x = bkT T t) ∧ ∀ u, x < u → u < t → bkT T u ≠ bkT T t) ∧
  (∀ j, j < 128 → ∃ x, x ≤ n ∧ T 7 j = nI x ∧ (x = 0 ∨ bkT T x = nI j) ∧ ∀ u, x < u → u ≤ n → bkT T u ≠ nI j)
/-- the class's table holds the terms den 1 .. den n; the keys 1 .. k are made, G is given -/
def tOK (h : zH) (n k : Nat) (den : Nat → zT) (G : Nat → Int32) : Prop := ∃ T, tS h T n k ∧ TI T n k den ∧ T 8 = G
def fr (lo hi : Nat) (h h' : zH) : Prop := (∀ a, ¬ (lo ≤ a ∧ a ≤ hi) → h'.1 a = h.1 a) ∧ h'.2 = h.2
theorem fr.rf {lo hi : Nat} {h : zH} : fr lo hi h h := ⟨fun _ _ => rfl, rfl⟩
theorem fr.tr {lo hi : Nat} {h h1 h2 : zH} (a : fr lo hi h h1) (b : fr lo hi h1 h2) : fr lo hi h h2 := ⟨fun q hq => (b.1 q hq).trans (a.1 q hq), b.2.trans a.2⟩
def mkT (T : Nat → Nat → Int32) (m : Nat) (kk a b c e : Int32) : Nat → Nat → Int32 := fun i => match i with
  | 0 => upd (T 0) m kk
  | 1 => upd (T 1) m a
  | 2 => upd (T 2) m b
  | 3 => upd (T 3) m c
  | 4 => upd (T 4) m e
  | i => T i
def mkT2 (T : Nat → Nat → Int32) (m : Nat) (kk a b c e v : Int32) (j : Nat) : Nat → Nat → Int32 := fun i => match i with
  | 0 => upd (T 0) m kk
  | 1 => upd (T 1) m a
  | 2 => upd (T 2) m b
  | 3 => upd (T 3) m c
  | 4 => upd (T 4) m e
  | 5 => upd (T 5) m v
  | 6 => upd (T 6) m (T 7 j)
  | 7 => upd (T 7) j (nI m)
  | i => T i
theorem upd_n {f : Nat → Int32} {m t : Nat} {x : Int32} (h : ¬ t = m) : upd f m x t = f t := if_neg h
theorem upd_s {f : Nat → Int32} {m : Nat} {x : Int32} : upd f m x m = x := if_pos rfl
theorem jg_same {T T' : Nat → Nat → Int32} {t : Nat} {den : Nat → zT} {m : Nat} {τ : zT} (hm : m ≤ 720) (h0 : T' 0 t = T 0 t) (h1 : T' 1 t = T 1 t) (h2 : T' 2 t = T 2 t) (h8 : T' 8 = T 8) (h5 : ∀ x, x < m → T' 5 x = T 5 x) (hr : rw_C (T 0 t) (T 1 t) (T 2 t) (T 3 t) (T 4 t) den m τ) : jg T' t ↔ jg T t := by
  unfold jg
  rw [h0, h1, h2, h8]
  rcases hr with ⟨hk, -⟩ | ⟨hk, -⟩ | ⟨hk, -⟩ | ⟨hk, x, y, hx, hxm, hy, hym, ha, hb, -⟩ | ⟨hk, x, hx, hxm, ha, -⟩ | ⟨hk, -⟩
  · rw [hk]; constructor <;> intro q <;> exact ⟨fun z => absurd z (by decide), fun z => absurd z (by decide), fun z => absurd z (by decide)⟩
  · rw [hk]; constructor <;> intro q <;> exact ⟨fun z => absurd z (by decide), fun z => absurd z (by decide), fun z => absurd z (by decide)⟩
  · rw [hk]; constructor <;> intro q <;> exact ⟨q.1, fun z => absurd z (by decide), fun z => absurd z (by decide)⟩
  · rw [ha, hb, nI_clamp (show x < 2 ^ 31 by omega), nI_clamp (show y < 2 ^ 31 by omega), h5 x hxm, h5 y hym]
  · rw [ha, nI_clamp (show x < 2 ^ 31 by omega), h5 x hxm, hk]
    constructor <;> intro q <;> exact ⟨fun z => absurd z (by decide), fun z => absurd z (by decide), q.2.2⟩
  · rw [hk]; constructor <;> intro q <;> exact ⟨fun z => absurd z (by decide), fun z => absurd z (by decide), fun z => absurd z (by decide)⟩
theorem kv01 {T : Nat → Nat → Int32} {t : Nat} {v : Int32} (h : kv T t v) : v = 0 ∨ v = 1 := h.elim (fun q => Or.inr q.1) (fun q => Or.inl q.1)
theorem TI_make {T : Nat → Nat → Int32} {n k j : Nat} {den : Nat → zT} {τ : zT} {kk a b c e v : Int32} (hI : TI T n k den) (hn : n < 719) (hr : rw_C kk a b c e den (n + 1) τ) (hj : j < 128) (hb : bkt kk a b c e = nI j) (hno : ∀ u, 0 < u → u ≤ n → ¬ (T 0 u = kk ∧ T 1 u = a ∧ T 2 u = b ∧ T 3 u = c ∧ T 4 u = e)) (hv : kv (mkT T (n + 1) kk a b c e) (n + 1) v) : TI (mkT2 T (n + 1) kk a b c e v j) (n + 1) k (fun u => if u = n + 1 then τ else den u) := by
  obtain ⟨i1, i2, i3, i4, i5, i6, i7, i8, i9, i10⟩ := hI
  have hden : ∀ x, 0 < x → x < n + 1 → (fun u => if u = n + 1 then τ else den u) x = den x := fun x _ hx => if_neg (by omega)
  have hrow : ∀ t, 0 < t → t ≤ n → mkT2 T (n + 1) kk a b c e v j 0 t = T 0 t ∧ mkT2 T (n + 1) kk a b c e v j 1 t = T 1 t ∧ mkT2 T (n + 1) kk a b c e v j 2 t = T 2 t ∧ mkT2 T (n + 1) kk a b c e v j 3 t = T 3 t ∧ mkT2 T (n + 1) kk a b c e v j 4 t = T 4 t ∧ mkT2 T (n + 1) kk a b c e v j 5 t = T 5 t ∧ mkT2 T (n + 1) kk a b c e v j 6 t = T 6 t := fun t _ ht => ⟨upd_n (by omega), upd_n (by omega), upd_n (by omega), upd_n (by omega), upd_n (by omega), upd_n (by omega), upd_n (by omega)⟩
  have hbk : ∀ t, 0 < t → t ≤ n → bkT (mkT2 T (n + 1) kk a b c e v j) t = bkT T t := fun t h1 h2 => by
    obtain ⟨q0, q1, q2, q3, q4, -, -⟩ := hrow t h1 h2
    unfold bkT
    rw [q0, q1, q2, q3, q4]
  have hbk1 : bkT (mkT2 T (n + 1) kk a b c e v j) (n + 1) = nI j := by
    unfold bkT
    show bkt (upd (T 0) (n + 1) kk (n + 1)) (upd (T 1) (n + 1) a (n + 1)) (upd (T 2) (n + 1) b (n + 1)) (upd (T 3) (n + 1) c (n + 1)) (upd (T 4) (n + 1) e (n + 1)) = _
    rw [upd_s, upd_s, upd_s, upd_s, upd_s, hb]
  refine ⟨by omega, i2, fun x => ?_, i4, ?_, fun t h1 h2 => ?_, fun t u h1 h2 h3 h4 htu => ?_, fun t h1 h2 => ?_, fun t h1 h2 => ?_, fun q hq => ?_⟩
  · show upd (T 5) (n + 1) v x = 0 ∨ upd (T 5) (n + 1) v x = 1
    by_cases hx : x = n + 1
    · rw [hx, upd_s]
      exact kv01 hv
    · rw [upd_n hx]
      exact i3 x
  · show upd (T 0) (n + 1) kk 0 = 0
    rw [upd_n (by omega)]
    exact i5
  · by_cases ht : t = n + 1
    · subst ht
      show rw_C (upd (T 0) (n + 1) kk (n + 1)) (upd (T 1) (n + 1) a (n + 1)) (upd (T 2) (n + 1) b (n + 1)) (upd (T 3) (n + 1) c (n + 1)) (upd (T 4) (n + 1) e (n + 1)) _ _ (if n + 1 = n + 1 then τ else den (n + 1))
      rw [upd_s, upd_s, upd_s, upd_s, upd_s, if_pos rfl]
      exact rw_C_mono hr (Nat.le_refl _) hden
    · obtain ⟨q0, q1, q2, q3, q4, -, -⟩ := hrow t h1 (by omega)
      rw [q0, q1, q2, q3, q4]
      show rw_C _ _ _ _ _ _ _ (if t = n + 1 then τ else den t)
      rw [if_neg ht]
      exact rw_C_mono (i6 t h1 (by omega)) (Nat.le_refl _) (fun x hx1 hx2 => hden x hx1 (by omega))
  · have key : ∀ t, 0 < t → t ≤ n → den t ≠ τ := fun t h1 h2 e9 => by
      have h3 := i6 t h1 h2
      rw [e9] at h3
      have h4 := rw_C_inj i7 (by omega) (Nat.le_refl _) h3 hr
      exact hno t h1 h2 h4
    dsimp only at htu
    by_cases ht : t = n + 1 <;> by_cases hu : u = n + 1
    · omega
    · rw [if_pos ht, if_neg hu] at htu
      exact absurd htu.symm (key u h3 (by omega))
    · rw [if_neg ht, if_pos hu] at htu
      exact absurd htu (key t h1 (by omega))
    · rw [if_neg ht, if_neg hu] at htu
      exact i7 t u h1 (by omega) h3 (by omega) htu
  · by_cases ht : t = n + 1
    · subst ht
      show kv _ _ (upd (T 5) (n + 1) v (n + 1))
      rw [upd_s]
      have hj1 : jg (mkT2 T (n + 1) kk a b c e v j) (n + 1) ↔ jg (mkT T (n + 1) kk a b c e) (n + 1) := by
        refine jg_same (den := den) (m := n + 1) (τ := τ) (by omega) rfl rfl rfl rfl (fun x hx => ?_) ?_
        · show upd (T 5) (n + 1) v x = T 5 x
          exact upd_n (by omega)
        · show rw_C (upd (T 0) (n + 1) kk (n + 1)) (upd (T 1) (n + 1) a (n + 1)) (upd (T 2) (n + 1) b (n + 1)) (upd (T 3) (n + 1) c (n + 1)) (upd (T 4) (n + 1) e (n + 1)) _ _ _
          rw [upd_s, upd_s, upd_s, upd_s, upd_s]
          exact hr
      unfold kv at hv ⊢
      rw [hj1]
      exact hv
    · obtain ⟨q0, q1, q2, q3, q4, q5, -⟩ := hrow t h1 (by omega)
      rw [q5]
      have hj1 : jg (mkT2 T (n + 1) kk a b c e v j) t ↔ jg T t := jg_same (den := den) (m := t) (τ := den t) (by omega) q0 q1 q2 rfl (fun x hx => by
        show upd (T 5) (n + 1) v x = T 5 x
        exact upd_n (by omega)) (i6 t h1 (by omega))
      have := i8 t h1 (by omega)
      unfold kv at this ⊢
      rw [hj1]
      exact this
  · by_cases ht : t = n + 1
    · subst ht
      obtain ⟨x, hx, hx7, hxb, hxu⟩ := i10 j hj
      refine ⟨x, by omega, ?_, ?_, fun u hu1 hu2 => ?_⟩
      · show upd (T 6) (n + 1) (T 7 j) (n + 1) = _
        rw [upd_s]
        exact hx7
      · rcases hxb with hxb | hxb
        · exact Or.inl hxb
        · by_cases hx0 : x = 0
          · exact Or.inl hx0
          · right
            rw [hbk x (by omega) hx, hbk1]
            exact hxb
      · rw [hbk u (by omega) (by omega), hbk1]
        exact hxu u hu1 (by omega)
    · obtain ⟨x, hx, hx6, hxb, hxu⟩ := i9 t h1 (by omega)
      obtain ⟨-, -, -, -, -, -, q6⟩ := hrow t h1 (by omega)
      refine ⟨x, hx, by rw [q6]; exact hx6, ?_, fun u hu1 hu2 => ?_⟩
      · by_cases hx0 : x = 0
        · exact Or.inl hx0
        · right
          rw [hbk x (by omega) (by omega), hbk t h1 (by omega)]
          exact hxb.resolve_left hx0
      · rw [hbk u (by omega) (by omega), hbk t h1 (by omega)]
        exact hxu u hu1 hu2
  · by_cases hqj : q = j
    · subst hqj
      refine ⟨n + 1, Nat.le_refl _, upd_s, Or.inr hbk1, fun u hu1 hu2 => absurd hu2 (by omega)⟩
    · obtain ⟨x, hx, hx7, hxb, hxu⟩ := i10 q hq
      refine ⟨x, by omega, ?_, ?_, fun u hu1 hu2 => ?_⟩
      · show upd (T 7) j (nI (n + 1)) q = _
        rw [upd_n hqj]
        exact hx7
      · by_cases hx0 : x = 0
        · exact Or.inl hx0
        · right
          rw [hbk x (by omega) hx]
          exact hxb.resolve_left hx0
      · by_cases hu : u = n + 1
        · subst hu
          rw [hbk1]
          intro e9
          exact hqj (nI_inj (by omega) (by omega) e9).symm
        · rw [hbk u (by omega) (by omega)]
          exact hxu u hu1 (by omega)
end
section
theorem c720 : (720 : Int32) = nI 720 := by decide
theorem nI_1' (a : Nat) : nI a + 1 = nI (a + 1) := nI_1 a
set_option maxHeartbeats 4000000 in
theorem c_make (sc : Nat × (Nat → Int32)) (d : Nat) {h0 : zH} {n k : Nat} {den : Nat → zT} {G : Nat → Int32} {τ : zT} {kk a b c e : Int32} (hO : tOK h0 n k den G) (hn : n < 719) (hr : rw_C kk a b c e den (n + 1) τ) : zMt zTab sc (d + 2) 53 [.ref 1, .int kk, .int a, .int b, .int c, .int e] h0 0 0 (fun r h' => ∃ t n' den', r = some (.int (nI t)) ∧ 0 < t ∧ t ≤ n' ∧ den' t = τ ∧ tOK h' n' k den' G ∧ n ≤ n' ∧ n' ≤ n + 1 ∧ (∀ u, 0 < u → u ≤ n → den' u = den u) ∧ fr 1 10 h0 h') := by
  obtain ⟨T, hS, hI, hG⟩ := hO
  obtain ⟨j, hj, hbj⟩ := bkt_in kk a b c e
  have hS0 := hS
  obtain ⟨e1, e2, e3, e4, e5, e6, e7, e8, e9, e10⟩ := hS
  have v1 : vp_in (nI j) 128 := vp_in_nI hj (by decide)
  have v2 : (nI j).toNatClampNeg = j := nI_clamp (by omega)
  refine zM_gen fun P hP => ?_
  refine zM_start (r := r_Te_make) (cd := k_Te_make) (L0 := [some (.ref 1), some (.int kk), some (.int a), some (.int b), some (.int c), some (.int e), none, none, none]) rfl rfl rfl rfl rfl ?_
  (repeat (refine zS_one rfl ?_; simp (disch := (first | decide | assumption | omega)) only [i_push, i_null, i_ild, i_ald, i_ist, i_ast, i_inc, i_bin, i_div, i_un, i_dup, i_pop, i_dup2, i_if, i_icmp, i_nul, i_nnl, i_goto, i_getf, i_putf, i_gets, i_nald, i_nast, i_aald, i_aast, i_alen, i_new, i_newa, i_newq, i_math, i_oini, i_iret, i_zret, i_aret, i_vret, z_fit, List.getElem?_cons_zero, List.getElem?_cons_succ, List.set_cons_zero, List.set_cons_succ, Nat.reduceAdd, Nat.reduceLT, Nat.reduceLeDiff, Nat.reduceEqDiff, Nat.zero_lt_succ, Value.category, true_and, or_true, true_or, and_true, false_implies, true_implies, not_false_eq_true, not_true_eq_false, List.map_cons, List.map_nil, List.sum_cons, List.sum_nil, va_up_eq, va_up_lit, List.length_cons, List.length_nil, List.drop_succ_cons, List.drop_zero, Option.toList_some, Option.toList_none, List.cons_append, List.nil_append]))
  (try refine zS_one rfl ?_)
  refine r_callS (c_bucketOf sc d h0 kk a b c e) rfl rfl rfl rfl (Nat.le_refl _) (Nat.le_refl _) ?_
  rintro r h' ⟨rfl, rfl⟩
  -- behind the loop: no row is this one
  have hend : (∀ u, 0 < u → u ≤ n → ¬ (T 0 u = kk ∧ T 1 u = a ∧ T 2 u = b ∧ T 3 u = c ∧ T 4 u = e)) → ∀ x i : Int32, zS (zMt zTab sc (d + 1), (0, 0), sc) k_Te_make P (112, [some (.ref 1), some (.int kk), some (.int a), some (.int b), some (.int c), some (.int e), some (.int (nI j)), some (.int x), some (.int i)], [], h', 0, 0) := by
    intro hno x i
    have w1 : nI (n + 1) < 720 := by rw [c720]; exact nI_lt (by omega) (by decide)
    have w2 := in720 (t := n + 1) (by omega)
    have w3 := cl720 (t := n + 1) (by omega)
    (repeat (refine zS_one rfl ?_; simp (disch := (first | decide | assumption | omega)) only [i_push, i_null, i_ild, i_ald, i_ist, i_ast, i_inc, i_bin, i_div, i_un, i_dup, i_pop, i_dup2, i_if, i_icmp, i_nul, i_nnl, i_goto, i_getf, i_putf, i_gets, i_nald, i_nast, i_aald, i_aast, i_alen, i_new, i_newa, i_newq, i_math, i_oini, i_iret, i_zret, i_aret, i_vret, z_fit, List.getElem?_cons_zero, List.getElem?_cons_succ, List.set_cons_zero, List.set_cons_succ, Nat.reduceAdd, Nat.reduceLT, Nat.reduceLeDiff, Nat.reduceEqDiff, Nat.zero_lt_succ, Value.category, true_and, or_true, true_or, and_true, false_implies, true_implies, not_false_eq_true, not_true_eq_false, List.map_cons, List.map_nil, List.sum_cons, List.sum_nil, va_up_eq, va_up_lit, List.length_cons, List.length_nil, List.drop_succ_cons, List.drop_zero, Option.toList_some, Option.toList_none, List.cons_append, List.nil_append, e1, e2, e3, e4, e5, e6, e7, e8, e9, e10, nI_1', w1, w2, w3]))
    have hrow : rw_C (mkT T (n + 1) kk a b c e 0 (n + 1)) (mkT T (n + 1) kk a b c e 1 (n + 1)) (mkT T (n + 1) kk a b c e 2 (n + 1)) (mkT T (n + 1) kk a b c e 3 (n + 1)) (mkT T (n + 1) kk a b c e 4 (n + 1)) den (n + 1) τ := by
      show rw_C (upd (T 0) (n + 1) kk (n + 1)) (upd (T 1) (n + 1) a (n + 1)) (upd (T 2) (n + 1) b (n + 1)) (upd (T 3) (n + 1) c (n + 1)) (upd (T 4) (n + 1) e (n + 1)) _ _ _
      rw [upd_s, upd_s, upd_s, upd_s, upd_s]
      exact hr
    refine r_callV (c_judged sc d (T := mkT T (n + 1) kk a b c e) (n := n + 1) (k := k) (t := n + 1) (den := den) (τ := τ) ⟨rfl, rfl, rfl, rfl, rfl, rfl, e7, e8, e9, e10⟩ (by omega) hrow hI.2.2.1) rfl rfl rfl rfl rfl (Nat.le_refl _) (Nat.le_refl _) ?_
    rintro r h2 ⟨rfl, v, rfl, hv⟩
    have hv1 : v &&& 1 = v := by rcases kv01 hv with rfl | rfl <;> decide
    (repeat (refine zS_one rfl ?_; simp (disch := (first | decide | assumption | omega)) only [i_push, i_null, i_ild, i_ald, i_ist, i_ast, i_inc, i_bin, i_div, i_un, i_dup, i_pop, i_dup2, i_if, i_icmp, i_nul, i_nnl, i_goto, i_getf, i_putf, i_gets, i_nald, i_nast, i_aald, i_aast, i_alen, i_new, i_newa, i_newq, i_math, i_oini, i_iret, i_zret, i_aret, i_vret, z_fit, List.getElem?_cons_zero, List.getElem?_cons_succ, List.set_cons_zero, List.set_cons_succ, Nat.reduceAdd, Nat.reduceLT, Nat.reduceLeDiff, Nat.reduceEqDiff, Nat.zero_lt_succ, Value.category, true_and, or_true, true_or, and_true, false_implies, true_implies, not_false_eq_true, not_true_eq_false, List.map_cons, List.map_nil, List.sum_cons, List.sum_nil, va_up_eq, va_up_lit, List.length_cons, List.length_nil, List.drop_succ_cons, List.drop_zero, Option.toList_some, Option.toList_none, List.cons_append, List.nil_append, e1, e2, e3, e4, e5, e6, e7, e8, e9, e10, nI_1', w1, w2, w3, v1, v2, hv1, Option.toList_some, List.cons_append, List.nil_append]))
    refine hP _ _ ⟨n + 1, n + 1, _, rfl, by omega, Nat.le_refl _, if_pos rfl, ⟨mkT2 T (n + 1) kk a b c e v j, ⟨rfl, rfl, rfl, rfl, rfl, rfl, rfl, rfl, rfl, e10⟩, TI_make hI hn hr hj hbj hno hv, hG⟩, by omega, Nat.le_refl _, fun u hu1 hu2 => if_neg (by omega), ⟨fun q hq => ?_, rfl⟩⟩
    simp (disch := omega) only [va_up_lit]
  -- the loop
  have hloop : ∀ m x i : Nat, x < m → x ≤ n → i + x ≤ n → (x = 0 ∨ bkT T x = nI j) → (∀ u, x < u → u ≤ n → ¬ (T 0 u = kk ∧ T 1 u = a ∧ T 2 u = b ∧ T 3 u = c ∧ T 4 u = e)) → zS (zMt zTab sc (d + 1), (0, 0), sc) k_Te_make P (24, [some (.ref 1), some (.int kk), some (.int a), some (.int b), some (.int c), some (.int e), some (.int (nI j)), some (.int (nI x)), some (.int (nI i))], [], h', 0, 0) := by
    intro m
    induction m with
    | zero => intro x i hx; exact absurd hx (Nat.not_lt_zero _)
    | succ m ih =>
      intro x i hxm hxn hix hxb hno
      have w1 : ¬ 720 ≤ nI i := by rw [c720]; exact nI_ge (by omega) (by decide)
      (repeat (refine zS_one rfl ?_; simp (disch := (first | decide | assumption | omega)) only [i_push, i_null, i_ild, i_ald, i_ist, i_ast, i_inc, i_bin, i_div, i_un, i_dup, i_pop, i_dup2, i_if, i_icmp, i_nul, i_nnl, i_goto, i_getf, i_putf, i_gets, i_nald, i_nast, i_aald, i_aast, i_alen, i_new, i_newa, i_newq, i_math, i_oini, i_iret, i_zret, i_aret, i_vret, z_fit, List.getElem?_cons_zero, List.getElem?_cons_succ, List.set_cons_zero, List.set_cons_succ, Nat.reduceAdd, Nat.reduceLT, Nat.reduceLeDiff, Nat.reduceEqDiff, Nat.zero_lt_succ, Value.category, true_and, or_true, true_or, and_true, false_implies, true_implies, not_false_eq_true, not_true_eq_false, List.map_cons, List.map_nil, List.sum_cons, List.sum_nil, va_up_eq, va_up_lit, List.length_cons, List.length_nil, List.drop_succ_cons, List.drop_zero, Option.toList_some, Option.toList_none, List.cons_append, List.nil_append, w1]))
      by_cases hx0 : x = 0
      · subst hx0
        refine ⟨fun _ => hend (fun u hu1 hu2 => hno u hu1 hu2) _ _, fun q => absurd nI_0 q⟩
      · have w2 : ¬ nI x = 0 := nI_ne0 (by omega) (by omega)
        have w3 := in720 (t := x) (by omega)
        have w4 := cl720 (t := x) (by omega)
        have hnext : ¬ (T 0 x = kk ∧ T 1 x = a ∧ T 2 x = b ∧ T 3 x = c ∧ T 4 x = e) → zS (zMt zTab sc (d + 1), (0, 0), sc) k_Te_make P (97, [some (.ref 1), some (.int kk), some (.int a), some (.int b), some (.int c), some (.int e), some (.int (nI j)), some (.int (nI x)), some (.int (nI i))], [], h', 0, 0) := by
          intro hne
          obtain ⟨y, hyx, hy6, hyb, hyu⟩ := hI.2.2.2.2.2.2.2.2.1 x (by omega) hxn
          (iterate 7 (refine zS_one rfl ?_; simp (disch := (first | decide | assumption | omega)) only [i_push, i_null, i_ild, i_ald, i_ist, i_ast, i_inc, i_bin, i_div, i_un, i_dup, i_pop, i_dup2, i_if, i_icmp, i_nul, i_nnl, i_goto, i_getf, i_putf, i_gets, i_nald, i_nast, i_aald, i_aast, i_alen, i_new, i_newa, i_newq, i_math, i_oini, i_iret, i_zret, i_aret, i_vret, z_fit, List.getElem?_cons_zero, List.getElem?_cons_succ, List.set_cons_zero, List.set_cons_succ, Nat.reduceAdd, Nat.reduceLT, Nat.reduceLeDiff, Nat.reduceEqDiff, Nat.zero_lt_succ, Value.category, true_and, or_true, true_or, and_true, false_implies, true_implies, not_false_eq_true, not_true_eq_false, List.map_cons, List.map_nil, List.sum_cons, List.sum_nil, va_up_eq, va_up_lit, List.length_cons, List.length_nil, List.drop_succ_cons, List.drop_zero, Option.toList_some, Option.toList_none, List.cons_append, List.nil_append, e1, e8, w3, w4, hy6, nI_1']))
          refine ih y (i + 1) (by omega) (by omega) (by omega) ?_ (fun u hu1 hu2 => ?_)
          · by_cases hy0 : y = 0
            · exact Or.inl hy0
            · exact Or.inr ((hyb.resolve_left hy0).trans (hxb.resolve_left hx0))
          · by_cases hux : u = x
            · subst hux
              exact hne
            · by_cases hux2 : u < x
              · intro hq
                refine hyu u hu1 hux2 ?_
                rw [hxb.resolve_left hx0]
                unfold bkT
                rw [hq.1, hq.2.1, hq.2.2.1, hq.2.2.2.1, hq.2.2.2.2]
                exact hbj
              · exact hno u (by omega) hu2
        refine ⟨fun q => absurd q w2, fun _ => ?_⟩
        (repeat (refine zS_one rfl ?_; simp (disch := (first | decide | assumption | omega)) only [i_push, i_null, i_ild, i_ald, i_ist, i_ast, i_inc, i_bin, i_div, i_un, i_dup, i_pop, i_dup2, i_if, i_icmp, i_nul, i_nnl, i_goto, i_getf, i_putf, i_gets, i_nald, i_nast, i_aald, i_aast, i_alen, i_new, i_newa, i_newq, i_math, i_oini, i_iret, i_zret, i_aret, i_vret, z_fit, List.getElem?_cons_zero, List.getElem?_cons_succ, List.set_cons_zero, List.set_cons_succ, Nat.reduceAdd, Nat.reduceLT, Nat.reduceLeDiff, Nat.reduceEqDiff, Nat.zero_lt_succ, Value.category, true_and, or_true, true_or, and_true, false_implies, true_implies, not_false_eq_true, not_true_eq_false, List.map_cons, List.map_nil, List.sum_cons, List.sum_nil, va_up_eq, va_up_lit, List.length_cons, List.length_nil, List.drop_succ_cons, List.drop_zero, Option.toList_some, Option.toList_none, List.cons_append, List.nil_append, e1, e2, e3, e4, e5, e6, w3, w4]))
        refine ⟨fun q => hnext (fun z => q z.1), fun q1 => ?_⟩
        (repeat (refine zS_one rfl ?_; simp (disch := (first | decide | assumption | omega)) only [i_push, i_null, i_ild, i_ald, i_ist, i_ast, i_inc, i_bin, i_div, i_un, i_dup, i_pop, i_dup2, i_if, i_icmp, i_nul, i_nnl, i_goto, i_getf, i_putf, i_gets, i_nald, i_nast, i_aald, i_aast, i_alen, i_new, i_newa, i_newq, i_math, i_oini, i_iret, i_zret, i_aret, i_vret, z_fit, List.getElem?_cons_zero, List.getElem?_cons_succ, List.set_cons_zero, List.set_cons_succ, Nat.reduceAdd, Nat.reduceLT, Nat.reduceLeDiff, Nat.reduceEqDiff, Nat.zero_lt_succ, Value.category, true_and, or_true, true_or, and_true, false_implies, true_implies, not_false_eq_true, not_true_eq_false, List.map_cons, List.map_nil, List.sum_cons, List.sum_nil, va_up_eq, va_up_lit, List.length_cons, List.length_nil, List.drop_succ_cons, List.drop_zero, Option.toList_some, Option.toList_none, List.cons_append, List.nil_append, e1, e2, e3, e4, e5, e6, w3, w4]))
        refine ⟨fun q => hnext (fun z => q z.2.1), fun q2 => ?_⟩
        (repeat (refine zS_one rfl ?_; simp (disch := (first | decide | assumption | omega)) only [i_push, i_null, i_ild, i_ald, i_ist, i_ast, i_inc, i_bin, i_div, i_un, i_dup, i_pop, i_dup2, i_if, i_icmp, i_nul, i_nnl, i_goto, i_getf, i_putf, i_gets, i_nald, i_nast, i_aald, i_aast, i_alen, i_new, i_newa, i_newq, i_math, i_oini, i_iret, i_zret, i_aret, i_vret, z_fit, List.getElem?_cons_zero, List.getElem?_cons_succ, List.set_cons_zero, List.set_cons_succ, Nat.reduceAdd, Nat.reduceLT, Nat.reduceLeDiff, Nat.reduceEqDiff, Nat.zero_lt_succ, Value.category, true_and, or_true, true_or, and_true, false_implies, true_implies, not_false_eq_true, not_true_eq_false, List.map_cons, List.map_nil, List.sum_cons, List.sum_nil, va_up_eq, va_up_lit, List.length_cons, List.length_nil, List.drop_succ_cons, List.drop_zero, Option.toList_some, Option.toList_none, List.cons_append, List.nil_append, e1, e2, e3, e4, e5, e6, w3, w4]))
        refine ⟨fun q => hnext (fun z => q z.2.2.1), fun q3 => ?_⟩
        (repeat (refine zS_one rfl ?_; simp (disch := (first | decide | assumption | omega)) only [i_push, i_null, i_ild, i_ald, i_ist, i_ast, i_inc, i_bin, i_div, i_un, i_dup, i_pop, i_dup2, i_if, i_icmp, i_nul, i_nnl, i_goto, i_getf, i_putf, i_gets, i_nald, i_nast, i_aald, i_aast, i_alen, i_new, i_newa, i_newq, i_math, i_oini, i_iret, i_zret, i_aret, i_vret, z_fit, List.getElem?_cons_zero, List.getElem?_cons_succ, List.set_cons_zero, List.set_cons_succ, Nat.reduceAdd, Nat.reduceLT, Nat.reduceLeDiff, Nat.reduceEqDiff, Nat.zero_lt_succ, Value.category, true_and, or_true, true_or, and_true, false_implies, true_implies, not_false_eq_true, not_true_eq_false, List.map_cons, List.map_nil, List.sum_cons, List.sum_nil, va_up_eq, va_up_lit, List.length_cons, List.length_nil, List.drop_succ_cons, List.drop_zero, Option.toList_some, Option.toList_none, List.cons_append, List.nil_append, e1, e2, e3, e4, e5, e6, w3, w4]))
        refine ⟨fun q => hnext (fun z => q z.2.2.2.1), fun q4 => ?_⟩
        (repeat (refine zS_one rfl ?_; simp (disch := (first | decide | assumption | omega)) only [i_push, i_null, i_ild, i_ald, i_ist, i_ast, i_inc, i_bin, i_div, i_un, i_dup, i_pop, i_dup2, i_if, i_icmp, i_nul, i_nnl, i_goto, i_getf, i_putf, i_gets, i_nald, i_nast, i_aald, i_aast, i_alen, i_new, i_newa, i_newq, i_math, i_oini, i_iret, i_zret, i_aret, i_vret, z_fit, List.getElem?_cons_zero, List.getElem?_cons_succ, List.set_cons_zero, List.set_cons_succ, Nat.reduceAdd, Nat.reduceLT, Nat.reduceLeDiff, Nat.reduceEqDiff, Nat.zero_lt_succ, Value.category, true_and, or_true, true_or, and_true, false_implies, true_implies, not_false_eq_true, not_true_eq_false, List.map_cons, List.map_nil, List.sum_cons, List.sum_nil, va_up_eq, va_up_lit, List.length_cons, List.length_nil, List.drop_succ_cons, List.drop_zero, Option.toList_some, Option.toList_none, List.cons_append, List.nil_append, e1, e2, e3, e4, e5, e6, w3, w4]))
        refine ⟨fun q => hnext (fun z => q z.2.2.2.2), fun q5 => ?_⟩
        (repeat (refine zS_one rfl ?_; simp (disch := (first | decide | assumption | omega)) only [i_push, i_null, i_ild, i_ald, i_ist, i_ast, i_inc, i_bin, i_div, i_un, i_dup, i_pop, i_dup2, i_if, i_icmp, i_nul, i_nnl, i_goto, i_getf, i_putf, i_gets, i_nald, i_nast, i_aald, i_aast, i_alen, i_new, i_newa, i_newq, i_math, i_oini, i_iret, i_zret, i_aret, i_vret, z_fit, List.getElem?_cons_zero, List.getElem?_cons_succ, List.set_cons_zero, List.set_cons_succ, Nat.reduceAdd, Nat.reduceLT, Nat.reduceLeDiff, Nat.reduceEqDiff, Nat.zero_lt_succ, Value.category, true_and, or_true, true_or, and_true, false_implies, true_implies, not_false_eq_true, not_true_eq_false, List.map_cons, List.map_nil, List.sum_cons, List.sum_nil, va_up_eq, va_up_lit, List.length_cons, List.length_nil, List.drop_succ_cons, List.drop_zero, Option.toList_some, Option.toList_none, List.cons_append, List.nil_append]))
        have hrx := hI.2.2.2.2.2.1 x (by omega) hxn
        rw [q1, q2, q3, q4, q5] at hrx
        exact hP _ _ ⟨x, n, den, rfl, by omega, hxn, rw_C_fun (by omega) (by omega) hrx hr, ⟨T, hS0, hI, hG⟩, Nat.le_refl _, by omega, fun _ _ _ => rfl, fr.rf⟩
  obtain ⟨x, hx, hx7, hxb, hxu⟩ := hI.2.2.2.2.2.2.2.2.2 j hj
  rw [hbj]
  (iterate 8 (refine zS_one rfl ?_; simp (disch := (first | decide | assumption | omega)) only [i_push, i_null, i_ild, i_ald, i_ist, i_ast, i_inc, i_bin, i_div, i_un, i_dup, i_pop, i_dup2, i_if, i_icmp, i_nul, i_nnl, i_goto, i_getf, i_putf, i_gets, i_nald, i_nast, i_aald, i_aast, i_alen, i_new, i_newa, i_newq, i_math, i_oini, i_iret, i_zret, i_aret, i_vret, z_fit, List.getElem?_cons_zero, List.getElem?_cons_succ, List.set_cons_zero, List.set_cons_succ, Nat.reduceAdd, Nat.reduceLT, Nat.reduceLeDiff, Nat.reduceEqDiff, Nat.zero_lt_succ, Value.category, true_and, or_true, true_or, and_true, false_implies, true_implies, not_false_eq_true, not_true_eq_false, List.map_cons, List.map_nil, List.sum_cons, List.sum_nil, va_up_eq, va_up_lit, List.length_cons, List.length_nil, List.drop_succ_cons, List.drop_zero, Option.toList_some, Option.toList_none, List.cons_append, List.nil_append, e1, e9, v1, v2, hx7]))
  exact hloop (x + 1) x 0 (by omega) hx (by omega) hxb (fun u hu1 hu2 hq => hxu u hu1 hu2 (by unfold bkT; rw [hq.1, hq.2.1, hq.2.2.1, hq.2.2.2.1, hq.2.2.2.2]; exact hbj))
end
