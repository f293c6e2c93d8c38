/-! Names, by program: the fields of each type, the words, the methods. -/
theorem z_in (k : Nat) {w : Cond} (h : tables_1[k]? = some w) (hg : goodWord w = true) : w ∈ lw_tbl.filter goodWord := List.mem_filter.mpr ⟨List.mem_append_right _ (List.mem_of_getElem? h), hg⟩
theorem z_inp (k : Nat) {w : Cond} (h : (k2_sels lw_privs)[k]? = some w) (hg : goodWord w = true) : w ∈ lw_tbl.filter goodWord := List.mem_filter.mpr ⟨List.mem_append_left _ (List.mem_of_getElem? h), hg⟩
def z_WS : List Cond := lw_tbl.filter goodWord
theorem z_WS_ok : ∀ w ∈ z_WS, (w.onTables && w.keeps) = true ∨ ∃ ty, w = .arrayClass ty := fun _ hw => good_of_word (List.mem_filter.mp hw).2
theorem z_WS_tbl : ∀ w ∈ z_WS, w ∈ lw_tbl := fun _ hw => (List.mem_filter.mp hw).1
def z_isN (w : Cond) : Bool := match w with
  | .fieldLinkNest _ _ _ _ _ _ => true
  | .methodLinkNest _ _ _ _ => true
  | _ => false
def z_NW : List Cond := tables_1.filter z_isN
theorem z_NW_is : ∀ w ∈ z_NW, z_isN w = true := fun _ hw => (List.mem_filter.mp hw).2
theorem z_NW_tbl : ∀ w ∈ z_NW, w ∈ lw_tbl := fun _ hw => List.mem_append_right _ (List.mem_filter.mp hw).1
theorem z_nin (k : Nat) {w : Cond} (h : tables_1[k]? = some w) (hg : z_isN w = true) : w ∈ z_NW := List.mem_filter.mpr ⟨List.mem_of_getElem? h, hg⟩
def z_RS : String := "SealedTalks$Session"
def z_RA : String := "SealedTalks$Agreement"
def R_Ag : String := "SealedTalks$Agreement"
def F_Ag : u_T := fun k => match k with
  | 0 => ("SealedTalks$Agreement", "terms", "LSealedTalks$Terms;", true)
  | 1 => ("SealedTalks$Agreement", "pattern", "I", false)
  | 2 => ("SealedTalks$Agreement", "initiator", "Z", false)
  | 3 => ("SealedTalks$Agreement", "ownStatic", "I", false)
  | 4 => ("SealedTalks$Agreement", "ownEphemeral", "I", false)
  | 5 => ("SealedTalks$Agreement", "otherStatic", "I", false)
  | 6 => ("SealedTalks$Agreement", "otherEphemeral", "I", false)
  | 7 => ("SealedTalks$Agreement", "h", "I", false)
  | 8 => ("SealedTalks$Agreement", "ck", "I", false)
  | 9 => ("SealedTalks$Agreement", "k", "I", false)
  | 10 => ("SealedTalks$Agreement", "n", "I", false)
  | _ => ("SealedTalks$Agreement", "stepsMade", "I", false)
def t_Ag : Nat → FieldType := fun k => match k with
  | 0 => .object "SealedTalks$Terms"
  | 1 => .int
  | 2 => .boolean
  | 3 => .int
  | 4 => .int
  | 5 => .int
  | 6 => .int
  | 7 => .int
  | 8 => .int
  | 9 => .int
  | 10 => .int
  | _ => .int
set_option maxRecDepth 100000 in
theorem n_Ag : ∀ a, a < 12 → ∀ b, b < 12 → a ≠ b → (F_Ag a).2.1 ≠ (F_Ag b).2.1 := by decide +kernel
theorem t_Ag_ok : ∀ k, k < 12 → parseFieldDescriptor (F_Ag k).2.2.1 = some (t_Ag k) := by decide +kernel
set_option maxRecDepth 100000 in
theorem in_Ag : ∀ w ∈ u_ws R_Ag F_Ag 12, w ∈ z_WS := by decide +kernel
def R_Ch : String := "SealedTalks$Channel"
def F_Ch : u_T := fun k => match k with
  | 0 => ("SealedTalks$Channel", "terms", "LSealedTalks$Terms;", true)
  | 1 => ("SealedTalks$Channel", "taken", "[Z", true)
  | 2 => ("SealedTalks$Channel", "sendKey", "I", false)
  | 3 => ("SealedTalks$Channel", "receiveKey", "I", false)
  | 4 => ("SealedTalks$Channel", "sent", "I", false)
  | _ => ("SealedTalks$Channel", "top", "I", false)
def t_Ch : Nat → FieldType := fun k => match k with
  | 0 => .object "SealedTalks$Terms"
  | 1 => .array .boolean
  | 2 => .int
  | 3 => .int
  | 4 => .int
  | _ => .int
set_option maxRecDepth 100000 in
theorem n_Ch : ∀ a, a < 6 → ∀ b, b < 6 → a ≠ b → (F_Ch a).2.1 ≠ (F_Ch b).2.1 := by decide +kernel
theorem t_Ch_ok : ∀ k, k < 6 → parseFieldDescriptor (F_Ch k).2.2.1 = some (t_Ch k) := by decide +kernel
set_option maxRecDepth 100000 in
theorem in_Ch : ∀ w ∈ u_ws R_Ch F_Ch 6, w ∈ z_WS := by decide +kernel
def R_Me : String := "SealedTalks$Messages"
def F_Me : u_T := fun k => match k with
  | 0 => ("SealedTalks$Messages", "sizes", "[I", true)
  | 1 => ("SealedTalks$Messages", "rows", "[I", true)
  | _ => ("SealedTalks$Messages", "made", "I", false)
def t_Me : Nat → FieldType := fun k => match k with
  | 0 => .array .int
  | 1 => .array .int
  | _ => .int
set_option maxRecDepth 100000 in
theorem n_Me : ∀ a, a < 3 → ∀ b, b < 3 → a ≠ b → (F_Me a).2.1 ≠ (F_Me b).2.1 := by decide +kernel
theorem t_Me_ok : ∀ k, k < 3 → parseFieldDescriptor (F_Me k).2.2.1 = some (t_Me k) := by decide +kernel
set_option maxRecDepth 100000 in
theorem in_Me : ∀ w ∈ u_ws R_Me F_Me 3, w ∈ z_WS := by decide +kernel
def R_Se : String := "SealedTalks$Session"
def F_Se : u_T := fun k => match k with
  | 0 => ("SealedTalks$Session", "terms", "LSealedTalks$Terms;", true)
  | 1 => ("SealedTalks$Session", "channel", "LSealedTalks$Channel;", true)
  | 2 => ("SealedTalks$Session", "agreement", "LSealedTalks$Agreement;", true)
  | 3 => ("SealedTalks$Session", "draft", "LSealedTalks$Agreement;", true)
  | 4 => ("SealedTalks$Session", "closed", "Z", false)
  | 5 => ("SealedTalks$Session", "ticks", "I", false)
  | 6 => ("SealedTalks$Session", "latestPayload", "I", false)
  | _ => ("SealedTalks$Session", "payloadCount", "I", false)
def t_Se : Nat → FieldType := fun k => match k with
  | 0 => .object "SealedTalks$Terms"
  | 1 => .object "SealedTalks$Channel"
  | 2 => .object "SealedTalks$Agreement"
  | 3 => .object "SealedTalks$Agreement"
  | 4 => .boolean
  | 5 => .int
  | 6 => .int
  | _ => .int
set_option maxRecDepth 100000 in
theorem n_Se : ∀ a, a < 8 → ∀ b, b < 8 → a ≠ b → (F_Se a).2.1 ≠ (F_Se b).2.1 := by decide +kernel
theorem t_Se_ok : ∀ k, k < 8 → parseFieldDescriptor (F_Se k).2.2.1 = some (t_Se k) := by decide +kernel
set_option maxRecDepth 100000 in
theorem in_Se : ∀ w ∈ u_ws R_Se F_Se 8, w ∈ z_WS := by decide +kernel
def R_Te : String := "SealedTalks$Terms"
def F_Te : u_T := fun k => match k with
  | 0 => ("SealedTalks$Terms", "kind", "[I", true)
  | 1 => ("SealedTalks$Terms", "first", "[I", true)
  | 2 => ("SealedTalks$Terms", "second", "[I", true)
  | 3 => ("SealedTalks$Terms", "third", "[I", true)
  | 4 => ("SealedTalks$Terms", "fourth", "[I", true)
  | 5 => ("SealedTalks$Terms", "known", "[Z", true)
  | 6 => ("SealedTalks$Terms", "nextInBucket", "[I", true)
  | 7 => ("SealedTalks$Terms", "newestInBucket", "[I", true)
  | 8 => ("SealedTalks$Terms", "given", "[Z", true)
  | 9 => ("SealedTalks$Terms", "lastTerm", "I", false)
  | _ => ("SealedTalks$Terms", "lastKey", "I", false)
def t_Te : Nat → FieldType := fun k => match k with
  | 0 => .array .int
  | 1 => .array .int
  | 2 => .array .int
  | 3 => .array .int
  | 4 => .array .int
  | 5 => .array .boolean
  | 6 => .array .int
  | 7 => .array .int
  | 8 => .array .boolean
  | 9 => .int
  | _ => .int
set_option maxRecDepth 100000 in
theorem n_Te : ∀ a, a < 11 → ∀ b, b < 11 → a ≠ b → (F_Te a).2.1 ≠ (F_Te b).2.1 := by decide +kernel
theorem t_Te_ok : ∀ k, k < 11 → parseFieldDescriptor (F_Te k).2.2.1 = some (t_Te k) := by decide +kernel
set_option maxRecDepth 100000 in
theorem in_Te : ∀ w ∈ u_ws R_Te F_Te 11, w ∈ z_WS := by decide +kernel
def R_St : String := "SealedTalks"
def F_St : u_T := fun k => match k with
  | 0 => ("SealedTalks", "terms", "LSealedTalks$Terms;", true)
  | 1 => ("SealedTalks", "messages", "LSealedTalks$Messages;", true)
  | 2 => ("SealedTalks", "sessions", "[LSealedTalks$Session;", true)
  | _ => ("SealedTalks", "started", "I", false)
def t_St : Nat → FieldType := fun k => match k with
  | 0 => .object "SealedTalks$Terms"
  | 1 => .object "SealedTalks$Messages"
  | 2 => .array (.object "SealedTalks$Session")
  | _ => .int
set_option maxRecDepth 100000 in
theorem n_St : ∀ a, a < 4 → ∀ b, b < 4 → a ≠ b → (F_St a).2.1 ≠ (F_St b).2.1 := by decide +kernel
theorem t_St_ok : ∀ k, k < 4 → parseFieldDescriptor (F_St k).2.2.1 = some (t_St k) := by decide +kernel
set_option maxRecDepth 100000 in
theorem in_St : ∀ w ∈ u_ws R_St F_St 4, w ∈ z_WS := by decide +kernel
def R_Mo : String := "SealedTalksModel"
def F_Mo : u_T := fun k => match k with
  | 0 => ("SealedTalksModel", "terms", "I", false)
  | 1 => ("SealedTalksModel", "kind", "[B", false)
  | 2 => ("SealedTalksModel", "value", "[I", false)
  | 3 => ("SealedTalksModel", "first", "[S", false)
  | 4 => ("SealedTalksModel", "second", "[S", false)
  | 5 => ("SealedTalksModel", "inside", "[S", false)
  | 6 => ("SealedTalksModel", "known", "[Z", false)
  | 7 => ("SealedTalksModel", "messages", "I", false)
  | 8 => ("SealedTalksModel", "sizes", "[I", false)
  | 9 => ("SealedTalksModel", "partOf", "[I", false)
  | 10 => ("SealedTalksModel", "made", "I", false)
  | 11 => ("SealedTalksModel", "given", "[Z", false)
  | 12 => ("SealedTalksModel", "sessions", "I", false)
  | 13 => ("SealedTalksModel", "pattern", "[I", false)
  | 14 => ("SealedTalksModel", "starts", "[Z", false)
  | 15 => ("SealedTalksModel", "own", "[I", false)
  | 16 => ("SealedTalksModel", "ephemeral", "[I", false)
  | 17 => ("SealedTalksModel", "otherEphemeral", "[I", false)
  | 18 => ("SealedTalksModel", "otherStatic", "[I", false)
  | 19 => ("SealedTalksModel", "hash", "[I", false)
  | 20 => ("SealedTalksModel", "chain", "[I", false)
  | 21 => ("SealedTalksModel", "key", "[I", false)
  | 22 => ("SealedTalksModel", "counter", "[I", false)
  | 23 => ("SealedTalksModel", "done", "[I", false)
  | 24 => ("SealedTalksModel", "closed", "[Z", false)
  | 25 => ("SealedTalksModel", "age", "[I", false)
  | 26 => ("SealedTalksModel", "latest", "[I", false)
  | 27 => ("SealedTalksModel", "read", "[I", false)
  | 28 => ("SealedTalksModel", "sent", "[I", false)
  | 29 => ("SealedTalksModel", "top", "[I", false)
  | 30 => ("SealedTalksModel", "window", "[I", false)
  | 31 => ("SealedTalksModel", "role", "I", false)
  | 32 => ("SealedTalksModel", "h", "I", false)
  | 33 => ("SealedTalksModel", "ck", "I", false)
  | 34 => ("SealedTalksModel", "k", "I", false)
  | 35 => ("SealedTalksModel", "n", "I", false)
  | 36 => ("SealedTalksModel", "e", "I", false)
  | 37 => ("SealedTalksModel", "re", "I", false)
  | 38 => ("SealedTalksModel", "rs", "I", false)
  | 39 => ("SealedTalksModel", "size", "I", false)
  | 40 => ("SealedTalksModel", "parts", "[I", false)
  | 41 => ("SealedTalksModel", "at", "I", false)
  | _ => ("SealedTalksModel", "failed", "Z", false)
def t_Mo : Nat → FieldType := fun k => match k with
  | 0 => .int
  | 1 => .array .byte
  | 2 => .array .int
  | 3 => .array .short
  | 4 => .array .short
  | 5 => .array .short
  | 6 => .array .boolean
  | 7 => .int
  | 8 => .array .int
  | 9 => .array .int
  | 10 => .int
  | 11 => .array .boolean
  | 12 => .int
  | 13 => .array .int
  | 14 => .array .boolean
  | 15 => .array .int
  | 16 => .array .int
  | 17 => .array .int
  | 18 => .array .int
  | 19 => .array .int
  | 20 => .array .int
  | 21 => .array .int
  | 22 => .array .int
  | 23 => .array .int
  | 24 => .array .boolean
  | 25 => .array .int
  | 26 => .array .int
  | 27 => .array .int
  | 28 => .array .int
  | 29 => .array .int
  | 30 => .array .int
  | 31 => .int
  | 32 => .int
  | 33 => .int
  | 34 => .int
  | 35 => .int
  | 36 => .int
  | 37 => .int
  | 38 => .int
  | 39 => .int
  | 40 => .array .int
  | 41 => .int
  | _ => .boolean
set_option maxRecDepth 100000 in
theorem n_Mo : ∀ a, a < 43 → ∀ b, b < 43 → a ≠ b → (F_Mo a).2.1 ≠ (F_Mo b).2.1 := by decide +kernel
theorem t_Mo_ok : ∀ k, k < 43 → parseFieldDescriptor (F_Mo k).2.2.1 = some (t_Mo k) := by decide +kernel
set_option maxRecDepth 100000 in
theorem in_Mo : ∀ w ∈ u_ws R_Mo F_Mo 43, w ∈ z_WS := by decide +kernel
abbrev vwCl : List vw_C := [(R_Ag, F_Ag, 12), (R_Ch, F_Ch, 6), (R_Me, F_Me, 3), (R_Se, F_Se, 8), (R_Te, F_Te, 11), (R_St, F_St, 4), (R_Mo, F_Mo, 43)]
def y_Ag_init : MethodName := ⟨"SealedTalks$Agreement", "<init>", "(LSealedTalks$Terms;)V"⟩
def y_Ag_begin : MethodName := ⟨"SealedTalks$Agreement", "begin", "(IZIII)V"⟩
def y_Ag_copyFrom : MethodName := ⟨"SealedTalks$Agreement", "copyFrom", "(LSealedTalks$Agreement;)V"⟩
def y_Ag_isDone : MethodName := ⟨"SealedTalks$Agreement", "isDone", "()Z"⟩
def y_Ag_isOwnTurn : MethodName := ⟨"SealedTalks$Agreement", "isOwnTurn", "()Z"⟩
def y_Ag_writeNext : MethodName := ⟨"SealedTalks$Agreement", "writeNext", "(LSealedTalks$Messages;I)V"⟩
def y_Ag_readNext : MethodName := ⟨"SealedTalks$Agreement", "readNext", "(LSealedTalks$Messages;I)I"⟩
def y_Ag_tokenAt : MethodName := ⟨"SealedTalks$Agreement", "tokenAt", "(I)I"⟩
def y_Ag_partsOfNext : MethodName := ⟨"SealedTalks$Agreement", "partsOfNext", "()I"⟩
def y_Ag_addPart : MethodName := ⟨"SealedTalks$Agreement", "addPart", "(LSealedTalks$Messages;I)V"⟩
def y_Ag_readKey : MethodName := ⟨"SealedTalks$Agreement", "readKey", "(II)Z"⟩
def y_Ag_closedUp : MethodName := ⟨"SealedTalks$Agreement", "closedUp", "(I)I"⟩
def y_Ag_openedUp : MethodName := ⟨"SealedTalks$Agreement", "openedUp", "(I)I"⟩
def y_Ag_mixKeys : MethodName := ⟨"SealedTalks$Agreement", "mixKeys", "(I)V"⟩
def y_Ch_init : MethodName := ⟨"SealedTalks$Channel", "<init>", "(LSealedTalks$Terms;)V"⟩
def y_Ch_setKeys : MethodName := ⟨"SealedTalks$Channel", "setKeys", "(IZ)V"⟩
def y_Ch_sendNext : MethodName := ⟨"SealedTalks$Channel", "sendNext", "(LSealedTalks$Messages;I)V"⟩
def y_Ch_acceptNext : MethodName := ⟨"SealedTalks$Channel", "acceptNext", "(LSealedTalks$Messages;I)I"⟩
def y_Ch_isFresh : MethodName := ⟨"SealedTalks$Channel", "isFresh", "(I)Z"⟩
def y_Me_init : MethodName := ⟨"SealedTalks$Messages", "<init>", "()V"⟩
def y_Me_isFull : MethodName := ⟨"SealedTalks$Messages", "isFull", "()Z"⟩
def y_Me_has : MethodName := ⟨"SealedTalks$Messages", "has", "(I)Z"⟩
def y_Me_sizeOf : MethodName := ⟨"SealedTalks$Messages", "sizeOf", "(I)I"⟩
def y_Me_partAt : MethodName := ⟨"SealedTalks$Messages", "partAt", "(II)I"⟩
def y_Me_addPart : MethodName := ⟨"SealedTalks$Messages", "addPart", "(I)V"⟩
def y_Me_finish : MethodName := ⟨"SealedTalks$Messages", "finish", "()I"⟩
def y_Se_init : MethodName := ⟨"SealedTalks$Session", "<init>", "(LSealedTalks$Terms;)V"⟩
def y_Se_writeNext : MethodName := ⟨"SealedTalks$Session", "writeNext", "(LSealedTalks$Messages;I)V"⟩
def y_Se_readNext : MethodName := ⟨"SealedTalks$Session", "readNext", "(LSealedTalks$Messages;I)I"⟩
def y_Se_notePayload : MethodName := ⟨"SealedTalks$Session", "notePayload", "(I)V"⟩
def y_Se_passTick : MethodName := ⟨"SealedTalks$Session", "passTick", "()Z"⟩
def y_Se_endAgreement : MethodName := ⟨"SealedTalks$Session", "endAgreement", "()V"⟩
def y_Te_init : MethodName := ⟨"SealedTalks$Terms", "<init>", "()V"⟩
def y_Te_num : MethodName := ⟨"SealedTalks$Terms", "num", "(I)I"⟩
def y_Te_pub : MethodName := ⟨"SealedTalks$Terms", "pub", "(I)I"⟩
def y_Te_dh : MethodName := ⟨"SealedTalks$Terms", "dh", "(II)I"⟩
def y_Te_hash : MethodName := ⟨"SealedTalks$Terms", "hash", "(II)I"⟩
def y_Te_chain : MethodName := ⟨"SealedTalks$Terms", "chain", "(II)I"⟩
def y_Te_key : MethodName := ⟨"SealedTalks$Terms", "key", "(II)I"⟩
def y_Te_half : MethodName := ⟨"SealedTalks$Terms", "half", "(II)I"⟩
def y_Te_seal : MethodName := ⟨"SealedTalks$Terms", "seal", "(IIII)I"⟩
def y_Te_isNum : MethodName := ⟨"SealedTalks$Terms", "isNum", "(I)Z"⟩
def y_Te_isPub : MethodName := ⟨"SealedTalks$Terms", "isPub", "(I)Z"⟩
def y_Te_isSeal : MethodName := ⟨"SealedTalks$Terms", "isSeal", "(I)Z"⟩
def y_Te_isSealOf : MethodName := ⟨"SealedTalks$Terms", "isSealOf", "(IIII)Z"⟩
def y_Te_valueOf : MethodName := ⟨"SealedTalks$Terms", "valueOf", "(I)I"⟩
def y_Te_insideOf : MethodName := ⟨"SealedTalks$Terms", "insideOf", "(I)I"⟩
def y_Te_canWorkOut : MethodName := ⟨"SealedTalks$Terms", "canWorkOut", "(I)Z"⟩
def y_Te_canOpen : MethodName := ⟨"SealedTalks$Terms", "canOpen", "(I)Z"⟩
def y_Te_makeKey : MethodName := ⟨"SealedTalks$Terms", "makeKey", "()I"⟩
def y_Te_giveAway : MethodName := ⟨"SealedTalks$Terms", "giveAway", "(I)Z"⟩
def y_Te_newest : MethodName := ⟨"SealedTalks$Terms", "newest", "()I"⟩
def y_Te_dropBehind : MethodName := ⟨"SealedTalks$Terms", "dropBehind", "(I)V"⟩
def y_Te_make : MethodName := ⟨"SealedTalks$Terms", "make", "(IIIII)I"⟩
def y_Te_judged : MethodName := ⟨"SealedTalks$Terms", "judged", "(I)Z"⟩
def y_Te_bucketOf : MethodName := ⟨"SealedTalks$Terms", "bucketOf", "(IIIII)I"⟩
def y_St_init : MethodName := ⟨"SealedTalks", "<init>", "()V"⟩
def y_St_start : MethodName := ⟨"SealedTalks", "start", "(IZIII)I"⟩
def y_St_write : MethodName := ⟨"SealedTalks", "write", "(II)I"⟩
def y_St_send : MethodName := ⟨"SealedTalks", "send", "(II)I"⟩
def y_St_deliver : MethodName := ⟨"SealedTalks", "deliver", "(II)I"⟩
def y_St_splice : MethodName := ⟨"SealedTalks", "splice", "(IIII)I"⟩
def y_St_replace : MethodName := ⟨"SealedTalks", "replace", "(III)I"⟩
def y_St_give : MethodName := ⟨"SealedTalks", "give", "(I)Z"⟩
def y_St_tick : MethodName := ⟨"SealedTalks", "tick", "()I"⟩
def y_St_state : MethodName := ⟨"SealedTalks", "state", "(I)I"⟩
def y_St_steps : MethodName := ⟨"SealedTalks", "steps", "(I)I"⟩
def y_St_peer : MethodName := ⟨"SealedTalks", "peer", "(I)I"⟩
def y_St_payload : MethodName := ⟨"SealedTalks", "payload", "(I)I"⟩
def y_St_accepted : MethodName := ⟨"SealedTalks", "accepted", "(I)I"⟩
def y_St_match : MethodName := ⟨"SealedTalks", "match", "(II)Z"⟩
def y_St_open : MethodName := ⟨"SealedTalks", "open", "(I)Z"⟩
def y_St_parts : MethodName := ⟨"SealedTalks", "parts", "(I)I"⟩
def y_St_sees : MethodName := ⟨"SealedTalks", "sees", "(II)I"⟩
def y_St_shown : MethodName := ⟨"SealedTalks", "shown", "(II)I"⟩
def y_St_same : MethodName := ⟨"SealedTalks", "same", "(IIII)Z"⟩
def y_St_isStaticKey : MethodName := ⟨"SealedTalks", "isStaticKey", "(I)Z"⟩
def y_St_sessionAt : MethodName := ⟨"SealedTalks", "sessionAt", "(I)LSealedTalks$Session;"⟩
def y_St_makeChanged : MethodName := ⟨"SealedTalks", "makeChanged", "(III)I"⟩
def y_Mo_init : MethodName := ⟨"SealedTalksModel", "<init>", "()V"⟩
def y_Mo_within : MethodName := ⟨"SealedTalksModel", "within", "(III)Z"⟩
def y_Mo_term : MethodName := ⟨"SealedTalksModel", "term", "(IIIII)I"⟩
def y_Mo_num : MethodName := ⟨"SealedTalksModel", "num", "(I)I"⟩
def y_Mo_pub : MethodName := ⟨"SealedTalksModel", "pub", "(I)I"⟩
def y_Mo_two : MethodName := ⟨"SealedTalksModel", "two", "(III)I"⟩
def y_Mo_workOut : MethodName := ⟨"SealedTalksModel", "workOut", "()V"⟩
def y_Mo_token : MethodName := ⟨"SealedTalksModel", "token", "(III)I"⟩
def y_Mo_last : MethodName := ⟨"SealedTalksModel", "last", "(I)I"⟩
def y_Mo_load : MethodName := ⟨"SealedTalksModel", "load", "(I)V"⟩
def y_Mo_keep : MethodName := ⟨"SealedTalksModel", "keep", "()V"⟩
def y_Mo_mixHash : MethodName := ⟨"SealedTalksModel", "mixHash", "(I)V"⟩
def y_Mo_agree : MethodName := ⟨"SealedTalksModel", "agree", "(I)V"⟩
def y_Mo_addPart : MethodName := ⟨"SealedTalksModel", "addPart", "(I)V"⟩
def y_Mo_put : MethodName := ⟨"SealedTalksModel", "put", "(I)V"⟩
def y_Mo_nextPart : MethodName := ⟨"SealedTalksModel", "nextPart", "()I"⟩
def y_Mo_take : MethodName := ⟨"SealedTalksModel", "take", "(I)I"⟩
def y_Mo_start : MethodName := ⟨"SealedTalksModel", "start", "(IZIII)I"⟩
def y_Mo_isSession : MethodName := ⟨"SealedTalksModel", "isSession", "(I)Z"⟩
def y_Mo_isDone : MethodName := ⟨"SealedTalksModel", "isDone", "(I)Z"⟩
def y_Mo_writes : MethodName := ⟨"SealedTalksModel", "writes", "(I)Z"⟩
def y_Mo_newMessage : MethodName := ⟨"SealedTalksModel", "newMessage", "(I)I"⟩
def y_Mo_write : MethodName := ⟨"SealedTalksModel", "write", "(II)I"⟩
def y_Mo_fetch : MethodName := ⟨"SealedTalksModel", "fetch", "(I)V"⟩
def y_Mo_run : MethodName := ⟨"SealedTalksModel", "run", "(I)I"⟩
def y_Mo_took : MethodName := ⟨"SealedTalksModel", "took", "(II)V"⟩
def y_Mo_reads : MethodName := ⟨"SealedTalksModel", "reads", "(I)Z"⟩
def y_Mo_accepts : MethodName := ⟨"SealedTalksModel", "accepts", "(I)Z"⟩
def y_Mo_deliver : MethodName := ⟨"SealedTalksModel", "deliver", "(II)I"⟩
def y_Mo_send : MethodName := ⟨"SealedTalksModel", "send", "(II)I"⟩
def y_Mo_isPart : MethodName := ⟨"SealedTalksModel", "isPart", "(II)Z"⟩
def y_Mo_splice : MethodName := ⟨"SealedTalksModel", "splice", "(IIII)I"⟩
def y_Mo_replace : MethodName := ⟨"SealedTalksModel", "replace", "(III)I"⟩
def y_Mo_give : MethodName := ⟨"SealedTalksModel", "give", "(I)Z"⟩
def y_Mo_tick : MethodName := ⟨"SealedTalksModel", "tick", "()I"⟩
def y_Mo_state : MethodName := ⟨"SealedTalksModel", "state", "(I)I"⟩
def y_Mo_steps : MethodName := ⟨"SealedTalksModel", "steps", "(I)I"⟩
def y_Mo_peer : MethodName := ⟨"SealedTalksModel", "peer", "(I)I"⟩
def y_Mo_payload : MethodName := ⟨"SealedTalksModel", "payload", "(I)I"⟩
def y_Mo_accepted : MethodName := ⟨"SealedTalksModel", "accepted", "(I)I"⟩
def y_Mo_match : MethodName := ⟨"SealedTalksModel", "match", "(II)Z"⟩
def y_Mo_open : MethodName := ⟨"SealedTalksModel", "open", "(I)Z"⟩
def y_Mo_parts : MethodName := ⟨"SealedTalksModel", "parts", "(I)I"⟩
def y_Mo_sees : MethodName := ⟨"SealedTalksModel", "sees", "(II)I"⟩
def y_Mo_shown : MethodName := ⟨"SealedTalksModel", "shown", "(II)I"⟩
def y_Mo_same : MethodName := ⟨"SealedTalksModel", "same", "(IIII)Z"⟩
