/-- the tables' words that outlive warmer tables: every contract's word list behind its own code -/
def tb : List Cond := lw_tbl.filter goodWord
theorem tb_in {w : Cond} (i : Nat) (h : lw_tbl[i]? = some w) (hg : goodWord w = true) : w ∈ tb := List.mem_filter.mpr ⟨List.mem_of_getElem? h, hg⟩
theorem tb_good {w : Cond} (h : w ∈ tb) : (w.onTables && w.keeps) = true ∨ ∃ ty, w = .arrayClass ty := good_of_word (List.mem_filter.mp h).2
/-- a callee's words among the caller's -/
theorem tb_V {own : String} {i : Nat} {C : String} {y : MethodName} {b : ByteArray} {n : Nat} {r : Option FieldType} (h1 : Cond.methodLink own i y ∈ tb) (h2 : Cond.instanceMethod y ∈ tb) (h3 : Cond.selects C y y ∈ tb) (h4 : Cond.initialized C ∈ tb) (h5 : Cond.code y b n r ∈ tb) : GoodIn tb (wsV own i C y (.code y b n r :: tb)) := by
  intro w hw
  have hm : w ∈ tb := by
    rcases List.mem_append.mp hw with h | h
    · simp only [List.mem_cons, List.not_mem_nil, or_false] at h
      rcases h with rfl | rfl | rfl | rfl
      · exact h1
      · exact h2
      · exact h3
      · exact h4
    · rcases List.mem_cons.mp h with rfl | h
      · exact h5
      · exact h
  exact ⟨hm, tb_good hm⟩
theorem tb_S {own : String} {i : Nat} {y : MethodName} {b : ByteArray} {n : Nat} {r : Option FieldType} (h1 : Cond.methodLink own i y ∈ tb) (h2 : Cond.static y ∈ tb) (h4 : Cond.initialized own ∈ tb) (h5 : Cond.code y b n r ∈ tb) : GoodIn tb (wsS own i y (.code y b n r :: tb)) := by
  intro w hw
  have hm : w ∈ tb := by
    rcases List.mem_append.mp hw with h | h
    · simp only [List.mem_cons, List.not_mem_nil, or_false] at h
      rcases h with rfl | rfl | rfl
      · exact h1
      · exact h2
      · exact h4
    · rcases List.mem_cons.mp h with rfl | h
      · exact h5
      · exact h
  exact ⟨hm, tb_good hm⟩
theorem tb_I {y : MethodName} {b : ByteArray} {n : Nat} {r : Option FieldType} (h5 : Cond.code y b n r ∈ tb) : GoodIn tb (.code y b n r :: tb) := by
  intro w hw
  have hm : w ∈ tb := by
    rcases List.mem_cons.mp hw with rfl | h
    · exact h5
    · exact h
  exact ⟨hm, tb_good hm⟩

abbrev b_X5_init : ByteArray := prog_1_method_1_code
def y_X5_init : MethodName := ⟨"GreetDesk", "<init>", "()V"⟩
abbrev b_X0_init : ByteArray := prog_2_method_1_code
def y_X0_init : MethodName := ⟨"GreetDesk$Hash", "<init>", "()V"⟩
abbrev b_X3_init : ByteArray := prog_5_method_1_code
def y_X3_init : MethodName := ⟨"GreetDesk$Row", "<init>", "(I)V"⟩
abbrev b_JM_max : ByteArray := prog_12_method_65_code
def y_JM_max : MethodName := ⟨"java/lang/Math", "max", "(II)I"⟩
abbrev b_X3_put : ByteArray := prog_5_method_5_code
def y_X3_put : MethodName := ⟨"GreetDesk$Row", "put", "(I)V"⟩
abbrev b_X4_init : ByteArray := prog_6_method_1_code
def y_X4_init : MethodName := ⟨"GreetDesk$Side", "<init>", "(ILGreetDesk$Hash;)V"⟩
abbrev b_X1_init : ByteArray := prog_3_method_1_code
def y_X1_init : MethodName := ⟨"GreetDesk$Line", "<init>", "(I)V"⟩
abbrev b_X2_init : ByteArray := prog_4_method_1_code
def y_X2_init : MethodName := ⟨"GreetDesk$Pair", "<init>", "()V"⟩
abbrev b_X5_wipe : ByteArray := prog_1_method_3_code
def y_X5_wipe : MethodName := ⟨"GreetDesk", "wipe", "()I"⟩
abbrev b_X3_clear : ByteArray := prog_5_method_2_code
def y_X3_clear : MethodName := ⟨"GreetDesk$Row", "clear", "()V"⟩
abbrev b_L_feed : ByteArray := method_3_code
def y_L_feed : MethodName := ⟨"GreetDeskLaw", "feed", "(LGreetDesk;IJ[J)I"⟩
abbrev b_X5_feed : ByteArray := prog_1_method_2_code
def y_X5_feed : MethodName := ⟨"GreetDesk", "feed", "(IJ)I"⟩
abbrev b_JT_init : ByteArray := prog_17_method_1_code
def y_JT_init : MethodName := ⟨"java/lang/Throwable", "<init>", "()V"⟩
abbrev b_JT_fillInStackTrace : ByteArray := prog_17_method_18_code
def y_JT_fillInStackTrace : MethodName := ⟨"java/lang/Throwable", "fillInStackTrace", "()Ljava/lang/Throwable;"⟩
abbrev b_IllegalArgumentException_init : ByteArray := prog_10_method_2_code
def y_IllegalArgumentException_init : MethodName := ⟨"java/lang/IllegalArgumentException", "<init>", "(Ljava/lang/String;)V"⟩
abbrev b_RuntimeException_init : ByteArray := prog_13_method_2_code
def y_RuntimeException_init : MethodName := ⟨"java/lang/RuntimeException", "<init>", "(Ljava/lang/String;)V"⟩
abbrev b_Exception_init : ByteArray := prog_9_method_2_code
def y_Exception_init : MethodName := ⟨"java/lang/Exception", "<init>", "(Ljava/lang/String;)V"⟩
abbrev b_JT_init_2 : ByteArray := prog_17_method_2_code
def y_JT_init_2 : MethodName := ⟨"java/lang/Throwable", "<init>", "(Ljava/lang/String;)V"⟩
abbrev b_IllegalStateException_init : ByteArray := prog_11_method_2_code
def y_IllegalStateException_init : MethodName := ⟨"java/lang/IllegalStateException", "<init>", "(Ljava/lang/String;)V"⟩
abbrev b_L_tell : ByteArray := method_4_code
def y_L_tell : MethodName := ⟨"GreetDeskLaw", "tell", "(LGreetDesk;II)I"⟩
abbrev b_X5_tell : ByteArray := prog_1_method_4_code
def y_X5_tell : MethodName := ⟨"GreetDesk", "tell", "(II)V"⟩
abbrev b_X5_isSide : ByteArray := prog_1_method_13_code
def y_X5_isSide : MethodName := ⟨"GreetDesk", "isSide", "(I)Z"⟩
abbrev b_X5_canBeTold : ByteArray := prog_1_method_15_code
def y_X5_canBeTold : MethodName := ⟨"GreetDesk", "canBeTold", "(II)Z"⟩
abbrev b_X5_pick : ByteArray := prog_1_method_12_code
def y_X5_pick : MethodName := ⟨"GreetDesk", "pick", "(I)LGreetDesk$Side;"⟩
abbrev b_X4_learn : ByteArray := prog_6_method_7_code
def y_X4_learn : MethodName := ⟨"GreetDesk$Side", "learn", "(ILGreetDesk$Row;)V"⟩
abbrev b_X3_become : ByteArray := prog_5_method_7_code
def y_X3_become : MethodName := ⟨"GreetDesk$Row", "become", "(LGreetDesk$Row;)V"⟩
abbrev b_X3_putFrom : ByteArray := prog_5_method_6_code
def y_X3_putFrom : MethodName := ⟨"GreetDesk$Row", "putFrom", "(LGreetDesk$Row;I)V"⟩
abbrev b_X4_makeFirst : ByteArray := prog_6_method_23_code
def y_X4_makeFirst : MethodName := ⟨"GreetDesk$Side", "makeFirst", "(LGreetDesk$Row;)V"⟩
abbrev b_X0_mac : ByteArray := prog_2_method_3_code
def y_X0_mac : MethodName := ⟨"GreetDesk$Hash", "mac", "(LGreetDesk$Row;LGreetDesk$Row;LGreetDesk$Row;)V"⟩
abbrev b_X0_openText : ByteArray := prog_2_method_7_code
def y_X0_openText : MethodName := ⟨"GreetDesk$Hash", "openText", "(LGreetDesk$Row;I)V"⟩
abbrev b_X3_at : ByteArray := prog_5_method_4_code
def y_X3_at : MethodName := ⟨"GreetDesk$Row", "at", "(I)I"⟩
abbrev b_X0_closeText : ByteArray := prog_2_method_8_code
def y_X0_closeText : MethodName := ⟨"GreetDesk$Hash", "closeText", "(LGreetDesk$Row;)V"⟩
abbrev b_JM_floorMod : ByteArray := prog_12_method_50_code
def y_JM_floorMod : MethodName := ⟨"java/lang/Math", "floorMod", "(II)I"⟩
abbrev b_X0_startSums : ByteArray := prog_2_method_9_code
def y_X0_startSums : MethodName := ⟨"GreetDesk$Hash", "startSums", "()V"⟩
abbrev b_X0_spread : ByteArray := prog_2_method_10_code
def y_X0_spread : MethodName := ⟨"GreetDesk$Hash", "spread", "(I)V"⟩
abbrev b_X0_stir : ByteArray := prog_2_method_11_code
def y_X0_stir : MethodName := ⟨"GreetDesk$Hash", "stir", "()V"⟩
abbrev b_X0_label : ByteArray := prog_2_method_4_code
def y_X0_label : MethodName := ⟨"GreetDesk$Hash", "label", "(LGreetDesk$Row;ILGreetDesk$Row;LGreetDesk$Row;)V"⟩
abbrev b_X0_nameOf : ByteArray := prog_2_method_6_code
def y_X0_nameOf : MethodName := ⟨"GreetDesk$Hash", "nameOf", "(I)Ljava/lang/String;"⟩
abbrev b_X0_putLabel : ByteArray := prog_2_method_5_code
def y_X0_putLabel : MethodName := ⟨"GreetDesk$Hash", "putLabel", "(Ljava/lang/String;LGreetDesk$Row;)V"⟩
abbrev b_JS_length : ByteArray := prog_14_method_54_code
def y_JS_length : MethodName := ⟨"java/lang/String", "length", "()I"⟩
abbrev b_JS_coder : ByteArray := prog_14_method_152_code
def y_JS_coder : MethodName := ⟨"java/lang/String", "coder", "()B"⟩
abbrev b_JS_charAt : ByteArray := prog_14_method_56_code
def y_JS_charAt : MethodName := ⟨"java/lang/String", "charAt", "(I)C"⟩
abbrev b_JS_isLatin1 : ByteArray := prog_14_method_154_code
def y_JS_isLatin1 : MethodName := ⟨"java/lang/String", "isLatin1", "()Z"⟩
abbrev b_JL_charAt : ByteArray := prog_15_method_2_code
def y_JL_charAt : MethodName := ⟨"java/lang/StringLatin1", "charAt", "([BI)C"⟩
abbrev b_JS_checkIndex : ByteArray := prog_14_method_155_code
def y_JS_checkIndex : MethodName := ⟨"java/lang/String", "checkIndex", "(II)V"⟩
abbrev b_JP_checkIndex : ByteArray := prog_19_method_11_code
def y_JP_checkIndex : MethodName := ⟨"jdk/internal/util/Preconditions", "checkIndex", "(IILjava/util/function/BiFunction;)I"⟩
abbrev b_JU_charAt : ByteArray := prog_16_method_83_code
def y_JU_charAt : MethodName := ⟨"java/lang/StringUTF16", "charAt", "([BI)C"⟩
abbrev b_JU_checkIndex : ByteArray := prog_16_method_91_code
def y_JU_checkIndex : MethodName := ⟨"java/lang/StringUTF16", "checkIndex", "(I[B)V"⟩
abbrev b_JU_length : ByteArray := prog_16_method_6_code
def y_JU_length : MethodName := ⟨"java/lang/StringUTF16", "length", "([B)I"⟩
abbrev b_JU_getChar : ByteArray := prog_16_method_5_code
def y_JU_getChar : MethodName := ⟨"java/lang/StringUTF16", "getChar", "([BI)C"⟩
abbrev b_L_begin : ByteArray := method_5_code
def y_L_begin : MethodName := ⟨"GreetDeskLaw", "begin", "(LGreetDesk;I)I"⟩
abbrev b_X5_begin : ByteArray := prog_1_method_5_code
def y_X5_begin : MethodName := ⟨"GreetDesk", "begin", "(I)V"⟩
abbrev b_X4_start : ByteArray := prog_6_method_8_code
def y_X4_start : MethodName := ⟨"GreetDesk$Side", "start", "()V"⟩
abbrev b_X4_sayHello : ByteArray := prog_6_method_21_code
def y_X4_sayHello : MethodName := ⟨"GreetDesk$Side", "sayHello", "()V"⟩
abbrev b_X4_say : ByteArray := prog_6_method_22_code
def y_X4_say : MethodName := ⟨"GreetDesk$Side", "say", "(ILGreetDesk$Row;)V"⟩
abbrev b_X4_levelOf : ByteArray := prog_6_method_13_code
def y_X4_levelOf : MethodName := ⟨"GreetDesk$Side", "levelOf", "(I)I"⟩
abbrev b_X4_lineAt : ByteArray := prog_6_method_3_code
def y_X4_lineAt : MethodName := ⟨"GreetDesk$Side", "lineAt", "(I)LGreetDesk$Line;"⟩
abbrev b_X3_putMessage : ByteArray := prog_5_method_8_code
def y_X3_putMessage : MethodName := ⟨"GreetDesk$Row", "putMessage", "(ILGreetDesk$Row;)V"⟩
abbrev b_L_take : ByteArray := method_6_code
def y_L_take : MethodName := ⟨"GreetDeskLaw", "take", "(LGreetDesk;II[J)I"⟩
abbrev b_X5_take : ByteArray := prog_1_method_6_code
def y_X5_take : MethodName := ⟨"GreetDesk", "take", "(II)I"⟩
abbrev b_X5_isLevel : ByteArray := prog_1_method_14_code
def y_X5_isLevel : MethodName := ⟨"GreetDesk", "isLevel", "(I)Z"⟩
abbrev b_X4_isOpen : ByteArray := prog_6_method_2_code
def y_X4_isOpen : MethodName := ⟨"GreetDesk$Side", "isOpen", "()Z"⟩
abbrev b_X4_hear : ByteArray := prog_6_method_9_code
def y_X4_hear : MethodName := ⟨"GreetDesk$Side", "hear", "(ILGreetDesk$Row;II)I"⟩
abbrev b_X4_faultAt : ByteArray := prog_6_method_10_code
def y_X4_faultAt : MethodName := ⟨"GreetDesk$Side", "faultAt", "(I)I"⟩
abbrev b_X4_bodySize : ByteArray := prog_6_method_12_code
def y_X4_bodySize : MethodName := ⟨"GreetDesk$Side", "bodySize", "()I"⟩
abbrev b_X4_isSizeOf : ByteArray := prog_6_method_14_code
def y_X4_isSizeOf : MethodName := ⟨"GreetDesk$Side", "isSizeOf", "(II)Z"⟩
abbrev b_X4_isWhole : ByteArray := prog_6_method_11_code
def y_X4_isWhole : MethodName := ⟨"GreetDesk$Side", "isWhole", "()Z"⟩
abbrev b_X4_readMessage : ByteArray := prog_6_method_15_code
def y_X4_readMessage : MethodName := ⟨"GreetDesk$Side", "readMessage", "()V"⟩
abbrev b_X4_readHello : ByteArray := prog_6_method_16_code
def y_X4_readHello : MethodName := ⟨"GreetDesk$Side", "readHello", "()V"⟩
abbrev b_X4_keepOthers : ByteArray := prog_6_method_20_code
def y_X4_keepOthers : MethodName := ⟨"GreetDesk$Side", "keepOthers", "(I)V"⟩
abbrev b_X4_makeSecrets : ByteArray := prog_6_method_24_code
def y_X4_makeSecrets : MethodName := ⟨"GreetDesk$Side", "makeSecrets", "(LGreetDesk$Pair;ILGreetDesk$Row;)V"⟩
abbrev b_X0_digest : ByteArray := prog_2_method_2_code
def y_X0_digest : MethodName := ⟨"GreetDesk$Hash", "digest", "(LGreetDesk$Row;LGreetDesk$Row;)V"⟩
abbrev b_X4_makeProof : ByteArray := prog_6_method_25_code
def y_X4_makeProof : MethodName := ⟨"GreetDesk$Side", "makeProof", "(I)V"⟩
abbrev b_X2_secretOf : ByteArray := prog_4_method_2_code
def y_X2_secretOf : MethodName := ⟨"GreetDesk$Pair", "secretOf", "(I)LGreetDesk$Row;"⟩
abbrev b_X4_readAnswer : ByteArray := prog_6_method_17_code
def y_X4_readAnswer : MethodName := ⟨"GreetDesk$Side", "readAnswer", "()V"⟩
abbrev b_X4_readParameters : ByteArray := prog_6_method_18_code
def y_X4_readParameters : MethodName := ⟨"GreetDesk$Side", "readParameters", "()V"⟩
abbrev b_X4_readDone : ByteArray := prog_6_method_19_code
def y_X4_readDone : MethodName := ⟨"GreetDesk$Side", "readDone", "()V"⟩
abbrev b_X3_isSameFrom : ByteArray := prog_5_method_9_code
def y_X3_isSameFrom : MethodName := ⟨"GreetDesk$Row", "isSameFrom", "(ILGreetDesk$Row;)Z"⟩
abbrev b_L_carry : ByteArray := method_7_code
def y_L_carry : MethodName := ⟨"GreetDeskLaw", "carry", "(LGreetDesk;III[J)I"⟩
abbrev b_X5_carry : ByteArray := prog_1_method_7_code
def y_X5_carry : MethodName := ⟨"GreetDesk", "carry", "(III)I"⟩
abbrev b_JM_min : ByteArray := prog_12_method_69_code
def y_JM_min : MethodName := ⟨"java/lang/Math", "min", "(II)I"⟩
abbrev b_L_sent : ByteArray := method_8_code
def y_L_sent : MethodName := ⟨"GreetDeskLaw", "sent", "(LGreetDesk;III[J)I"⟩
abbrev b_X5_sent : ByteArray := prog_1_method_8_code
def y_X5_sent : MethodName := ⟨"GreetDesk", "sent", "(III)I"⟩
abbrev b_X3_has : ByteArray := prog_5_method_3_code
def y_X3_has : MethodName := ⟨"GreetDesk$Row", "has", "(I)Z"⟩
abbrev b_NoSuchElementException_init : ByteArray := prog_18_method_4_code
def y_NoSuchElementException_init : MethodName := ⟨"java/util/NoSuchElementException", "<init>", "(Ljava/lang/String;)V"⟩
abbrev b_L_secret : ByteArray := method_9_code
def y_L_secret : MethodName := ⟨"GreetDeskLaw", "secret", "(LGreetDesk;IIII[J)I"⟩
abbrev b_X5_secret : ByteArray := prog_1_method_9_code
def y_X5_secret : MethodName := ⟨"GreetDesk", "secret", "(IIII)I"⟩
abbrev b_X4_pairAt : ByteArray := prog_6_method_4_code
def y_X4_pairAt : MethodName := ⟨"GreetDesk$Side", "pairAt", "(I)LGreetDesk$Pair;"⟩
abbrev b_L_theirs : ByteArray := method_10_code
def y_L_theirs : MethodName := ⟨"GreetDeskLaw", "theirs", "(LGreetDesk;II[J)I"⟩
abbrev b_X5_theirs : ByteArray := prog_1_method_10_code
def y_X5_theirs : MethodName := ⟨"GreetDesk", "theirs", "(II)I"⟩
abbrev b_L_look : ByteArray := method_11_code
def y_L_look : MethodName := ⟨"GreetDeskLaw", "look", "(LGreetDesk;II[J)I"⟩
abbrev b_X5_look : ByteArray := prog_1_method_11_code
def y_X5_look : MethodName := ⟨"GreetDesk", "look", "(II)I"⟩
abbrev b_X4_waitingAt : ByteArray := prog_6_method_5_code
def y_X4_waitingAt : MethodName := ⟨"GreetDesk$Side", "waitingAt", "(I)I"⟩
abbrev b_X4_highestLevel : ByteArray := prog_6_method_6_code
def y_X4_highestLevel : MethodName := ⟨"GreetDesk$Side", "highestLevel", "()I"⟩
abbrev b_X2_isMade : ByteArray := prog_4_method_3_code
def y_X2_isMade : MethodName := ⟨"GreetDesk$Pair", "isMade", "()Z"⟩
abbrev b_X6_init : ByteArray := prog_8_method_1_code
def y_X6_init : MethodName := ⟨"GreetDeskModel", "<init>", "()V"⟩
abbrev b_X6_isPrime : ByteArray := prog_8_method_5_code
def y_X6_isPrime : MethodName := ⟨"GreetDeskModel", "isPrime", "(I)Z"⟩
abbrev b_X6_root : ByteArray := prog_8_method_7_code
def y_X6_root : MethodName := ⟨"GreetDeskModel", "root", "(II)I"⟩
abbrev b_X6_isAtMost : ByteArray := prog_8_method_6_code
def y_X6_isAtMost : MethodName := ⟨"GreetDeskModel", "isAtMost", "(JII)Z"⟩
abbrev b_X6_thrown : ByteArray := prog_8_method_2_code
def y_X6_thrown : MethodName := ⟨"GreetDeskModel", "thrown", "()I"⟩
abbrev b_X6_feed : ByteArray := prog_8_method_23_code
def y_X6_feed : MethodName := ⟨"GreetDeskModel", "feed", "(IJ)I"⟩
abbrev b_X6_fails : ByteArray := prog_8_method_3_code
def y_X6_fails : MethodName := ⟨"GreetDeskModel", "fails", "(ZI)Z"⟩
abbrev b_X6_wipe : ByteArray := prog_8_method_24_code
def y_X6_wipe : MethodName := ⟨"GreetDeskModel", "wipe", "()I"⟩
abbrev b_X6_tell : ByteArray := prog_8_method_25_code
def y_X6_tell : MethodName := ⟨"GreetDeskModel", "tell", "(II)V"⟩
abbrev b_X6_out : ByteArray := prog_8_method_4_code
def y_X6_out : MethodName := ⟨"GreetDeskModel", "out", "(II)Z"⟩
abbrev b_X6_first : ByteArray := prog_8_method_19_code
def y_X6_first : MethodName := ⟨"GreetDeskModel", "first", "(I)V"⟩
abbrev b_X6_beginMac : ByteArray := prog_8_method_12_code
def y_X6_beginMac : MethodName := ⟨"GreetDeskModel", "beginMac", "([IIII)V"⟩
abbrev b_X6_put : ByteArray := prog_8_method_9_code
def y_X6_put : MethodName := ⟨"GreetDeskModel", "put", "(I)V"⟩
abbrev b_X6_endMac : ByteArray := prog_8_method_13_code
def y_X6_endMac : MethodName := ⟨"GreetDeskModel", "endMac", "([III[I)V"⟩
abbrev b_X6_digest : ByteArray := prog_8_method_11_code
def y_X6_digest : MethodName := ⟨"GreetDeskModel", "digest", "([I)V"⟩
abbrev b_X6_block : ByteArray := prog_8_method_10_code
def y_X6_block : MethodName := ⟨"GreetDeskModel", "block", "(I)V"⟩
abbrev b_X6_turned : ByteArray := prog_8_method_8_code
def y_X6_turned : MethodName := ⟨"GreetDeskModel", "turned", "(II)I"⟩
abbrev b_X6_label : ByteArray := prog_8_method_16_code
def y_X6_label : MethodName := ⟨"GreetDeskModel", "label", "([IIIZ[I)V"⟩
abbrev b_X6_putText : ByteArray := prog_8_method_14_code
def y_X6_putText : MethodName := ⟨"GreetDeskModel", "putText", "(I)V"⟩
abbrev b_X6_putWord : ByteArray := prog_8_method_15_code
def y_X6_putWord : MethodName := ⟨"GreetDeskModel", "putWord", "(IIIII)V"⟩
abbrev b_X6_keepSecret : ByteArray := prog_8_method_17_code
def y_X6_keepSecret : MethodName := ⟨"GreetDeskModel", "keepSecret", "(III[I)V"⟩
abbrev b_X6_begin : ByteArray := prog_8_method_29_code
def y_X6_begin : MethodName := ⟨"GreetDeskModel", "begin", "(I)V"⟩
abbrev b_X6_says : ByteArray := prog_8_method_28_code
def y_X6_says : MethodName := ⟨"GreetDeskModel", "says", "(IIZ)V"⟩
abbrev b_X6_send : ByteArray := prog_8_method_26_code
def y_X6_send : MethodName := ⟨"GreetDeskModel", "send", "(III)V"⟩
abbrev b_X6_note : ByteArray := prog_8_method_27_code
def y_X6_note : MethodName := ⟨"GreetDeskModel", "note", "(II)V"⟩
abbrev b_X6_take : ByteArray := prog_8_method_38_code
def y_X6_take : MethodName := ⟨"GreetDeskModel", "take", "(II)I"⟩
abbrev b_X6_arrive : ByteArray := prog_8_method_37_code
def y_X6_arrive : MethodName := ⟨"GreetDeskModel", "arrive", "(II[III)I"⟩
abbrev b_X6_comes : ByteArray := prog_8_method_35_code
def y_X6_comes : MethodName := ⟨"GreetDeskModel", "comes", "(III)V"⟩
abbrev b_X6_works : ByteArray := prog_8_method_36_code
def y_X6_works : MethodName := ⟨"GreetDeskModel", "works", "(II)I"⟩
abbrev b_X6_lookAt : ByteArray := prog_8_method_32_code
def y_X6_lookAt : MethodName := ⟨"GreetDeskModel", "lookAt", "(II)I"⟩
abbrev b_X6_levelOf : ByteArray := prog_8_method_30_code
def y_X6_levelOf : MethodName := ⟨"GreetDeskModel", "levelOf", "(I)I"⟩
abbrev b_X6_isSize : ByteArray := prog_8_method_31_code
def y_X6_isSize : MethodName := ⟨"GreetDeskModel", "isSize", "(II)Z"⟩
abbrev b_X6_done : ByteArray := prog_8_method_34_code
def y_X6_done : MethodName := ⟨"GreetDeskModel", "done", "(III)I"⟩
abbrev b_X6_prove : ByteArray := prog_8_method_22_code
def y_X6_prove : MethodName := ⟨"GreetDeskModel", "prove", "(II)V"⟩
abbrev b_X6_digestTalk : ByteArray := prog_8_method_18_code
def y_X6_digestTalk : MethodName := ⟨"GreetDeskModel", "digestTalk", "(II)V"⟩
abbrev b_X6_keepTheirs : ByteArray := prog_8_method_33_code
def y_X6_keepTheirs : MethodName := ⟨"GreetDeskModel", "keepTheirs", "(III)V"⟩
abbrev b_X6_greets : ByteArray := prog_8_method_20_code
def y_X6_greets : MethodName := ⟨"GreetDeskModel", "greets", "(I)V"⟩
abbrev b_X6_talks : ByteArray := prog_8_method_21_code
def y_X6_talks : MethodName := ⟨"GreetDeskModel", "talks", "(I)V"⟩
abbrev b_X6_carry : ByteArray := prog_8_method_39_code
def y_X6_carry : MethodName := ⟨"GreetDeskModel", "carry", "(III)I"⟩
abbrev b_X6_sent : ByteArray := prog_8_method_40_code
def y_X6_sent : MethodName := ⟨"GreetDeskModel", "sent", "(III)I"⟩
abbrev b_X6_secret : ByteArray := prog_8_method_42_code
def y_X6_secret : MethodName := ⟨"GreetDeskModel", "secret", "(IIII)I"⟩
abbrev b_X6_hasSecrets : ByteArray := prog_8_method_41_code
def y_X6_hasSecrets : MethodName := ⟨"GreetDeskModel", "hasSecrets", "(II)Z"⟩
abbrev b_X6_theirs : ByteArray := prog_8_method_43_code
def y_X6_theirs : MethodName := ⟨"GreetDeskModel", "theirs", "(II)I"⟩
abbrev b_X6_look : ByteArray := prog_8_method_44_code
def y_X6_look : MethodName := ⟨"GreetDeskModel", "look", "(II)I"⟩
def R_X0 : String := "GreetDesk$Hash"
def R_X1 : String := "GreetDesk$Line"
def R_X2 : String := "GreetDesk$Pair"
def R_X3 : String := "GreetDesk$Row"
def R_X4 : String := "GreetDesk$Side"
def R_X5 : String := "GreetDesk"
def R_X6 : String := "GreetDeskModel"
def R_L : String := "GreetDeskLaw"
def T_X0 : u_T := fun k => match k with
  | 0 => ("GreetDesk$Hash", "noContext", "LGreetDesk$Row;", true)
  | 1 => ("GreetDesk$Hash", "firstKey", "LGreetDesk$Row;", true)
  | 2 => ("GreetDesk$Hash", "text", "LGreetDesk$Row;", true)
  | 3 => ("GreetDesk$Hash", "inner", "LGreetDesk$Row;", true)
  | 4 => ("GreetDesk$Hash", "words", "[I", true)
  | _ => ("GreetDesk$Hash", "sums", "[I", true)
def t_X0 : Nat → FieldType := fun k => match k with
  | 0 => (.object "GreetDesk$Row")
  | 1 => (.object "GreetDesk$Row")
  | 2 => (.object "GreetDesk$Row")
  | 3 => (.object "GreetDesk$Row")
  | 4 => (.array .int)
  | _ => (.array .int)
theorem n_X0 : ∀ a, a < 6 → ∀ b, b < 6 → a ≠ b → (T_X0 a).2.1 ≠ (T_X0 b).2.1 := by decide +kernel
theorem tok_X0 : ∀ k, k < 6 → parseFieldDescriptor (T_X0 k).2.2.1 = some (t_X0 k) := by decide +kernel
theorem i_X0 : ∀ w ∈ u_ws R_X0 T_X0 6, w ∈ tb := by decide +kernel
def T_X1 : u_T := fun k => match k with
  | 0 => ("GreetDesk$Line", "bytes", "LGreetDesk$Row;", true)
  | _ => ("GreetDesk$Line", "carried", "I", false)
def t_X1 : Nat → FieldType := fun k => match k with
  | 0 => (.object "GreetDesk$Row")
  | _ => .int
theorem n_X1 : ∀ a, a < 2 → ∀ b, b < 2 → a ≠ b → (T_X1 a).2.1 ≠ (T_X1 b).2.1 := by decide +kernel
theorem tok_X1 : ∀ k, k < 2 → parseFieldDescriptor (T_X1 k).2.2.1 = some (t_X1 k) := by decide +kernel
theorem i_X1 : ∀ w ∈ u_ws R_X1 T_X1 2, w ∈ tb := by decide +kernel
def T_X2 : u_T := fun k => match k with
  | 0 => ("GreetDesk$Pair", "root", "LGreetDesk$Row;", true)
  | 1 => ("GreetDesk$Pair", "ofAsker", "LGreetDesk$Row;", true)
  | _ => ("GreetDesk$Pair", "ofAnswerer", "LGreetDesk$Row;", true)
def t_X2 : Nat → FieldType := fun k => match k with
  | 0 => (.object "GreetDesk$Row")
  | 1 => (.object "GreetDesk$Row")
  | _ => (.object "GreetDesk$Row")
theorem n_X2 : ∀ a, a < 3 → ∀ b, b < 3 → a ≠ b → (T_X2 a).2.1 ≠ (T_X2 b).2.1 := by decide +kernel
theorem tok_X2 : ∀ k, k < 3 → parseFieldDescriptor (T_X2 k).2.2.1 = some (t_X2 k) := by decide +kernel
theorem i_X2 : ∀ w ∈ u_ws R_X2 T_X2 3, w ∈ tb := by decide +kernel
def T_X3 : u_T := fun k => match k with
  | 0 => ("GreetDesk$Row", "cells", "[I", true)
  | _ => ("GreetDesk$Row", "size", "I", false)
def t_X3 : Nat → FieldType := fun k => match k with
  | 0 => (.array .int)
  | _ => .int
theorem n_X3 : ∀ a, a < 2 → ∀ b, b < 2 → a ≠ b → (T_X3 a).2.1 ≠ (T_X3 b).2.1 := by decide +kernel
theorem tok_X3 : ∀ k, k < 2 → parseFieldDescriptor (T_X3 k).2.2.1 = some (t_X3 k) := by decide +kernel
theorem i_X3 : ∀ w ∈ u_ws R_X3 T_X3 2, w ∈ tb := by decide +kernel
def T_X4 : u_T := fun k => match k with
  | 0 => ("GreetDesk$Side", "number", "I", true)
  | 1 => ("GreetDesk$Side", "key", "LGreetDesk$Row;", true)
  | 2 => ("GreetDesk$Side", "random", "LGreetDesk$Row;", true)
  | 3 => ("GreetDesk$Side", "others", "LGreetDesk$Row;", true)
  | 4 => ("GreetDesk$Side", "othersKnown", "Z", false)
  | 5 => ("GreetDesk$Side", "begun", "Z", false)
  | 6 => ("GreetDesk$Side", "finished", "Z", false)
  | 7 => ("GreetDesk$Side", "fault", "I", false)
  | 8 => ("GreetDesk$Side", "wanted", "I", false)
  | 9 => ("GreetDesk$Side", "hash", "LGreetDesk$Hash;", true)
  | 10 => ("GreetDesk$Side", "parameters", "LGreetDesk$Row;", true)
  | 11 => ("GreetDesk$Side", "waiting", "LGreetDesk$Row;", true)
  | 12 => ("GreetDesk$Side", "story", "LGreetDesk$Row;", true)
  | 13 => ("GreetDesk$Side", "storySum", "LGreetDesk$Row;", true)
  | 14 => ("GreetDesk$Side", "proof", "LGreetDesk$Row;", true)
  | 15 => ("GreetDesk$Side", "lowLine", "LGreetDesk$Line;", true)
  | 16 => ("GreetDesk$Side", "highLine", "LGreetDesk$Line;", true)
  | 17 => ("GreetDesk$Side", "first", "LGreetDesk$Pair;", true)
  | 18 => ("GreetDesk$Side", "greet", "LGreetDesk$Pair;", true)
  | _ => ("GreetDesk$Side", "talk", "LGreetDesk$Pair;", true)
def t_X4 : Nat → FieldType := fun k => match k with
  | 0 => .int
  | 1 => (.object "GreetDesk$Row")
  | 2 => (.object "GreetDesk$Row")
  | 3 => (.object "GreetDesk$Row")
  | 4 => .boolean
  | 5 => .boolean
  | 6 => .boolean
  | 7 => .int
  | 8 => .int
  | 9 => (.object "GreetDesk$Hash")
  | 10 => (.object "GreetDesk$Row")
  | 11 => (.object "GreetDesk$Row")
  | 12 => (.object "GreetDesk$Row")
  | 13 => (.object "GreetDesk$Row")
  | 14 => (.object "GreetDesk$Row")
  | 15 => (.object "GreetDesk$Line")
  | 16 => (.object "GreetDesk$Line")
  | 17 => (.object "GreetDesk$Pair")
  | 18 => (.object "GreetDesk$Pair")
  | _ => (.object "GreetDesk$Pair")
theorem n_X4 : ∀ a, a < 20 → ∀ b, b < 20 → a ≠ b → (T_X4 a).2.1 ≠ (T_X4 b).2.1 := by decide +kernel
theorem tok_X4 : ∀ k, k < 20 → parseFieldDescriptor (T_X4 k).2.2.1 = some (t_X4 k) := by decide +kernel
theorem i_X4 : ∀ w ∈ u_ws R_X4 T_X4 20, w ∈ tb := by decide +kernel
def T_X5 : u_T := fun k => match k with
  | 0 => ("GreetDesk", "tape", "LGreetDesk$Row;", true)
  | 1 => ("GreetDesk", "asker", "LGreetDesk$Side;", true)
  | _ => ("GreetDesk", "answerer", "LGreetDesk$Side;", true)
def t_X5 : Nat → FieldType := fun k => match k with
  | 0 => (.object "GreetDesk$Row")
  | 1 => (.object "GreetDesk$Side")
  | _ => (.object "GreetDesk$Side")
theorem n_X5 : ∀ a, a < 3 → ∀ b, b < 3 → a ≠ b → (T_X5 a).2.1 ≠ (T_X5 b).2.1 := by decide +kernel
theorem tok_X5 : ∀ k, k < 3 → parseFieldDescriptor (T_X5 k).2.2.1 = some (t_X5 k) := by decide +kernel
theorem i_X5 : ∀ w ∈ u_ws R_X5 T_X5 3, w ∈ tb := by decide +kernel
def T_X6 : u_T := fun k => match k with
  | 0 => ("GreetDeskModel", "thrown", "I", false)
  | 1 => ("GreetDeskModel", "tape", "[I", true)
  | 2 => ("GreetDeskModel", "taped", "I", false)
  | 3 => ("GreetDeskModel", "keyed", "[Z", true)
  | 4 => ("GreetDeskModel", "drawn", "[Z", true)
  | 5 => ("GreetDeskModel", "key", "[I", true)
  | 6 => ("GreetDeskModel", "random", "[I", true)
  | 7 => ("GreetDeskModel", "own", "[I", true)
  | 8 => ("GreetDeskModel", "ownSize", "[I", true)
  | 9 => ("GreetDeskModel", "name", "[I", true)
  | 10 => ("GreetDeskModel", "nameSize", "[I", true)
  | 11 => ("GreetDeskModel", "begun", "[Z", true)
  | 12 => ("GreetDeskModel", "waits", "[I", true)
  | 13 => ("GreetDeskModel", "finished", "[Z", true)
  | 14 => ("GreetDeskModel", "fault", "[I", true)
  | 15 => ("GreetDeskModel", "sent", "[I", true)
  | 16 => ("GreetDeskModel", "sentSize", "[I", true)
  | 17 => ("GreetDeskModel", "carried", "[I", true)
  | 18 => ("GreetDeskModel", "waiting", "[I", true)
  | 19 => ("GreetDeskModel", "waitingSize", "[I", true)
  | 20 => ("GreetDeskModel", "theirs", "[I", true)
  | 21 => ("GreetDeskModel", "theirsSize", "[I", true)
  | 22 => ("GreetDeskModel", "talk", "[I", true)
  | 23 => ("GreetDeskModel", "talkSize", "[I", true)
  | 24 => ("GreetDeskModel", "secrets", "[I", true)
  | 25 => ("GreetDeskModel", "level", "[I", true)
  | 26 => ("GreetDeskModel", "greet", "[I", true)
  | 27 => ("GreetDeskModel", "start", "[I", true)
  | 28 => ("GreetDeskModel", "rounds", "[I", true)
  | 29 => ("GreetDeskModel", "digits", "[J", true)
  | 30 => ("GreetDeskModel", "sum", "[I", true)
  | 31 => ("GreetDeskModel", "words", "[I", true)
  | 32 => ("GreetDeskModel", "text", "[I", true)
  | 33 => ("GreetDeskModel", "size", "I", false)
  | 34 => ("GreetDeskModel", "digest", "[I", true)
  | 35 => ("GreetDeskModel", "outer", "[I", true)
  | 36 => ("GreetDeskModel", "proof", "[I", true)
  | _ => ("GreetDeskModel", "base", "[I", true)
def t_X6 : Nat → FieldType := fun k => match k with
  | 0 => .int
  | 1 => (.array .int)
  | 2 => .int
  | 3 => (.array .boolean)
  | 4 => (.array .boolean)
  | 5 => (.array .int)
  | 6 => (.array .int)
  | 7 => (.array .int)
  | 8 => (.array .int)
  | 9 => (.array .int)
  | 10 => (.array .int)
  | 11 => (.array .boolean)
  | 12 => (.array .int)
  | 13 => (.array .boolean)
  | 14 => (.array .int)
  | 15 => (.array .int)
  | 16 => (.array .int)
  | 17 => (.array .int)
  | 18 => (.array .int)
  | 19 => (.array .int)
  | 20 => (.array .int)
  | 21 => (.array .int)
  | 22 => (.array .int)
  | 23 => (.array .int)
  | 24 => (.array .int)
  | 25 => (.array .int)
  | 26 => (.array .int)
  | 27 => (.array .int)
  | 28 => (.array .int)
  | 29 => (.array .long)
  | 30 => (.array .int)
  | 31 => (.array .int)
  | 32 => (.array .int)
  | 33 => .int
  | 34 => (.array .int)
  | 35 => (.array .int)
  | 36 => (.array .int)
  | _ => (.array .int)
theorem n_X6 : ∀ a, a < 38 → ∀ b, b < 38 → a ≠ b → (T_X6 a).2.1 ≠ (T_X6 b).2.1 := by decide +kernel
theorem tok_X6 : ∀ k, k < 38 → parseFieldDescriptor (T_X6 k).2.2.1 = some (t_X6 k) := by decide +kernel
theorem i_X6 : ∀ w ∈ u_ws R_X6 T_X6 38, w ∈ tb := by decide +kernel
abbrev cls7 : List vw_C := [(R_X0, T_X0, 6), (R_X1, T_X1, 2), (R_X2, T_X2, 3), (R_X3, T_X3, 2), (R_X4, T_X4, 20), (R_X5, T_X5, 3), (R_X6, T_X6, 38)]
