def zzok (w : Cond) : Bool := (w.onTables && w.keeps) || (match w with | .arrayClass _ => true | _ => false)
def zzW : List Cond := lw_tbl.filter zzok
theorem zzW_good : ∀ w ∈ zzW, (w.onTables && w.keeps) = true ∨ ∃ ty, w = .arrayClass ty := by
  intro w hw
  have h := (List.mem_filter.mp hw).2
  unfold zzok at h
  rcases Bool.or_eq_true_iff.mp h with h | h
  · exact Or.inl h
  · right
    cases w <;> first | exact ⟨_, rfl⟩ | (simp at h; done)
theorem zzW_tbl : ∀ w ∈ zzW, w ∈ lw_tbl := fun _ hw => (List.mem_filter.mp hw).1
theorem jw_of {w : Cond} {i : Nat} (h : tables_1[i]? = some w) (hk : zzok w = true) : w ∈ zzW := List.mem_filter.mpr ⟨List.mem_append_right _ (List.mem_of_getElem? h), hk⟩
theorem jw_sel {w : Cond} {i : Nat} (h : (k2_sels lw_privs)[i]? = some w) (hk : zzok w = true) : w ∈ zzW := List.mem_filter.mpr ⟨List.mem_append_left _ (List.mem_of_getElem? h), hk⟩
abbrev jy_S_init : MethodName := ⟨"StreamIds", "<init>", "()V"⟩
abbrev jb_S_init : ByteArray := prog_1_method_1_code
abbrev jy_O_init : MethodName := ⟨"java/lang/Object", "<init>", "()V"⟩
abbrev jb_O_init : ByteArray := object_method_1_code
abbrev jy_T_init : MethodName := ⟨"StreamIds$Text", "<init>", "()V"⟩
abbrev jb_T_init : ByteArray := prog_8_method_1_code
abbrev jy_L_init : MethodName := ⟨"StreamIds$Layout", "<init>", "()V"⟩
abbrev jb_L_init : ByteArray := prog_5_method_1_code
abbrev jy_G_init : MethodName := ⟨"StreamIds$Digest", "<init>", "()V"⟩
abbrev jb_G_init : ByteArray := prog_3_method_1_code
abbrev jy_D_init : MethodName := ⟨"StreamIds$Declaration", "<init>", "()V"⟩
abbrev jb_D_init : ByteArray := prog_2_method_1_code
abbrev jy_R_init : MethodName := ⟨"StreamIds$Row", "<init>", "(I)V"⟩
abbrev jb_R_init : ByteArray := prog_6_method_1_code
abbrev jy_E_init : MethodName := ⟨"StreamIds$Entry", "<init>", "()V"⟩
abbrev jb_E_init : ByteArray := prog_4_method_1_code
abbrev jy_S_type : MethodName := ⟨"StreamIds", "type", "(IJ)I"⟩
abbrev jb_S_type : ByteArray := prog_1_method_2_code
abbrev jy_S_bufferOf : MethodName := ⟨"StreamIds", "bufferOf", "(I)LStreamIds$Text;"⟩
abbrev jb_S_bufferOf : ByteArray := prog_1_method_15_code
abbrev jy_S_areSigns : MethodName := ⟨"StreamIds", "areSigns", "(J)Z"⟩
abbrev jb_S_areSigns : ByteArray := prog_1_method_21_code
abbrev jy_S_byteOf : MethodName := ⟨"StreamIds", "byteOf", "(JI)I"⟩
abbrev jb_S_byteOf : ByteArray := prog_1_method_20_code
abbrev jy_S_signsIn : MethodName := ⟨"StreamIds", "signsIn", "(J)I"⟩
abbrev jb_S_signsIn : ByteArray := prog_1_method_22_code
abbrev jy_T_append : MethodName := ⟨"StreamIds$Text", "append", "(I)V"⟩
abbrev jb_T_append : ByteArray := prog_8_method_3_code
abbrev jy_S_clear : MethodName := ⟨"StreamIds", "clear", "(I)I"⟩
abbrev jb_S_clear : ByteArray := prog_1_method_3_code
abbrev jy_S_define : MethodName := ⟨"StreamIds", "define", "(II)I"⟩
abbrev jb_S_define : ByteArray := prog_1_method_4_code
abbrev jy_D_begin : MethodName := ⟨"StreamIds$Declaration", "begin", "(LStreamIds$Text;I)V"⟩
abbrev jb_D_begin : ByteArray := prog_2_method_2_code
abbrev jy_T_become : MethodName := ⟨"StreamIds$Text", "become", "(LStreamIds$Text;)V"⟩
abbrev jb_T_become : ByteArray := prog_8_method_4_code
abbrev jy_S_face : MethodName := ⟨"StreamIds", "face", "(I)I"⟩
abbrev jb_S_face : ByteArray := prog_1_method_5_code
abbrev jy_S_declarationOf : MethodName := ⟨"StreamIds", "declarationOf", "(I)LStreamIds$Declaration;"⟩
abbrev jb_S_declarationOf : ByteArray := prog_1_method_16_code
abbrev jy_R_enter : MethodName := ⟨"StreamIds$Row", "enter", "(IILStreamIds$Text;LStreamIds$Text;)I"⟩
abbrev jb_R_enter : ByteArray := prog_6_method_2_code
abbrev jy_R_placeOf : MethodName := ⟨"StreamIds$Row", "placeOf", "(ILStreamIds$Text;LStreamIds$Text;)I"⟩
abbrev jb_R_placeOf : ByteArray := prog_6_method_5_code
abbrev jy_E_compareWith : MethodName := ⟨"StreamIds$Entry", "compareWith", "(ILStreamIds$Text;LStreamIds$Text;)I"⟩
abbrev jb_E_compareWith : ByteArray := prog_4_method_3_code
abbrev jy_T_compareWith : MethodName := ⟨"StreamIds$Text", "compareWith", "(LStreamIds$Text;)I"⟩
abbrev jb_T_compareWith : ByteArray := prog_8_method_5_code
abbrev jy_A_min : MethodName := ⟨"java/lang/Math", "min", "(II)I"⟩
abbrev jb_A_min : ByteArray := prog_11_method_69_code
abbrev jy_R_isAt : MethodName := ⟨"StreamIds$Row", "isAt", "(IILStreamIds$Text;LStreamIds$Text;)Z"⟩
abbrev jb_R_isAt : ByteArray := prog_6_method_6_code
abbrev jy_E_become : MethodName := ⟨"StreamIds$Entry", "become", "(IILStreamIds$Text;LStreamIds$Text;)V"⟩
abbrev jb_E_become : ByteArray := prog_4_method_2_code
abbrev jy_S_member : MethodName := ⟨"StreamIds", "member", "(III)I"⟩
abbrev jb_S_member : ByteArray := prog_1_method_6_code
abbrev jy_S_isMemberKind : MethodName := ⟨"StreamIds", "isMemberKind", "(I)Z"⟩
abbrev jb_S_isMemberKind : ByteArray := prog_1_method_17_code
abbrev jy_S_isNameFor : MethodName := ⟨"StreamIds", "isNameFor", "(I)Z"⟩
abbrev jb_S_isNameFor : ByteArray := prog_1_method_18_code
abbrev jy_S_isShapeFor : MethodName := ⟨"StreamIds", "isShapeFor", "(I)Z"⟩
abbrev jb_S_isShapeFor : ByteArray := prog_1_method_19_code
abbrev jy_H_isType : MethodName := ⟨"StreamIds$Shapes", "isType", "(LStreamIds$Text;)Z"⟩
abbrev jb_H_isType : ByteArray := prog_7_method_2_code
abbrev jy_H_endOfType : MethodName := ⟨"StreamIds$Shapes", "endOfType", "(LStreamIds$Text;I)I"⟩
abbrev jb_H_endOfType : ByteArray := prog_7_method_5_code
abbrev jy_T_at : MethodName := ⟨"StreamIds$Text", "at", "(I)I"⟩
abbrev jb_T_at : ByteArray := prog_8_method_2_code
abbrev jy_H_endOfName : MethodName := ⟨"StreamIds$Shapes", "endOfName", "(LStreamIds$Text;I)I"⟩
abbrev jb_H_endOfName : ByteArray := prog_7_method_6_code
abbrev jy_H_mayStandInName : MethodName := ⟨"StreamIds$Shapes", "mayStandInName", "(I)Z"⟩
abbrev jb_H_mayStandInName : ByteArray := prog_7_method_8_code
abbrev jy_H_isSimple : MethodName := ⟨"StreamIds$Shapes", "isSimple", "(I)Z"⟩
abbrev jb_H_isSimple : ByteArray := prog_7_method_7_code
abbrev jy_H_isMethod : MethodName := ⟨"StreamIds$Shapes", "isMethod", "(LStreamIds$Text;)Z"⟩
abbrev jb_H_isMethod : ByteArray := prog_7_method_3_code
abbrev jy_H_endOfTypes : MethodName := ⟨"StreamIds$Shapes", "endOfTypes", "(LStreamIds$Text;I)I"⟩
abbrev jb_H_endOfTypes : ByteArray := prog_7_method_4_code
abbrev jy_S_remove : MethodName := ⟨"StreamIds", "remove", "(II)I"⟩
abbrev jb_S_remove : ByteArray := prog_1_method_7_code
abbrev jy_R_takeOut : MethodName := ⟨"StreamIds$Row", "takeOut", "(ILStreamIds$Text;LStreamIds$Text;)I"⟩
abbrev jb_R_takeOut : ByteArray := prog_6_method_3_code
abbrev jy_S_declare : MethodName := ⟨"StreamIds", "declare", "(IZJ)I"⟩
abbrev jb_S_declare : ByteArray := prog_1_method_8_code
abbrev jy_S_id : MethodName := ⟨"StreamIds", "id", "(I)J"⟩
abbrev jb_S_id : ByteArray := prog_1_method_9_code
abbrev jy_L_write : MethodName := ⟨"StreamIds$Layout", "write", "(LStreamIds$Declaration;)V"⟩
abbrev jb_L_write : ByteArray := prog_5_method_2_code
abbrev jy_L_putText : MethodName := ⟨"StreamIds$Layout", "putText", "(LStreamIds$Text;)V"⟩
abbrev jb_L_putText : ByteArray := prog_5_method_6_code
abbrev jy_L_putLength : MethodName := ⟨"StreamIds$Layout", "putLength", "(I)V"⟩
abbrev jb_L_putLength : ByteArray := prog_5_method_9_code
abbrev jy_L_put : MethodName := ⟨"StreamIds$Layout", "put", "(I)V"⟩
abbrev jb_L_put : ByteArray := prog_5_method_11_code
abbrev jy_D_hashedModifiers : MethodName := ⟨"StreamIds$Declaration", "hashedModifiers", "()I"⟩
abbrev jb_D_hashedModifiers : ByteArray := prog_2_method_3_code
abbrev jy_R_tally : MethodName := ⟨"StreamIds$Row", "tally", "(I)I"⟩
abbrev jb_R_tally : ByteArray := prog_6_method_4_code
abbrev jy_L_putNumber : MethodName := ⟨"StreamIds$Layout", "putNumber", "(I)V"⟩
abbrev jb_L_putNumber : ByteArray := prog_5_method_10_code
abbrev jy_L_putAll : MethodName := ⟨"StreamIds$Layout", "putAll", "(LStreamIds$Row;I)V"⟩
abbrev jb_L_putAll : ByteArray := prog_5_method_4_code
abbrev jy_E_isHashed : MethodName := ⟨"StreamIds$Entry", "isHashed", "()Z"⟩
abbrev jb_E_isHashed : ByteArray := prog_4_method_5_code
abbrev jy_E_has : MethodName := ⟨"StreamIds$Entry", "has", "(I)Z"⟩
abbrev jb_E_has : ByteArray := prog_4_method_4_code
abbrev jy_L_putEntry : MethodName := ⟨"StreamIds$Layout", "putEntry", "(LStreamIds$Entry;)V"⟩
abbrev jb_L_putEntry : ByteArray := prog_5_method_5_code
abbrev jy_L_putConstant : MethodName := ⟨"StreamIds$Layout", "putConstant", "(Ljava/lang/String;)V"⟩
abbrev jb_L_putConstant : ByteArray := prog_5_method_8_code
abbrev jy_JS_length : MethodName := ⟨"java/lang/String", "length", "()I"⟩
abbrev jb_JS_length : ByteArray := prog_12_method_54_code
abbrev jy_JS_coder : MethodName := ⟨"java/lang/String", "coder", "()B"⟩
abbrev jb_JS_coder : ByteArray := prog_12_method_152_code
abbrev jy_JS_charAt : MethodName := ⟨"java/lang/String", "charAt", "(I)C"⟩
abbrev jb_JS_charAt : ByteArray := prog_12_method_56_code
abbrev jy_JS_isLatin1 : MethodName := ⟨"java/lang/String", "isLatin1", "()Z"⟩
abbrev jb_JS_isLatin1 : ByteArray := prog_12_method_154_code
abbrev jy_JL_charAt : MethodName := ⟨"java/lang/StringLatin1", "charAt", "([BI)C"⟩
abbrev jb_JL_charAt : ByteArray := prog_13_method_2_code
abbrev jy_JS_checkIndex : MethodName := ⟨"java/lang/String", "checkIndex", "(II)V"⟩
abbrev jb_JS_checkIndex : ByteArray := prog_12_method_155_code
abbrev jy_JP_checkIndex : MethodName := ⟨"jdk/internal/util/Preconditions", "checkIndex", "(IILjava/util/function/BiFunction;)I"⟩
abbrev jb_JP_checkIndex : ByteArray := prog_16_method_11_code
abbrev jy_JU_charAt : MethodName := ⟨"java/lang/StringUTF16", "charAt", "([BI)C"⟩
abbrev jb_JU_charAt : ByteArray := prog_14_method_83_code
abbrev jy_JU_checkIndex : MethodName := ⟨"java/lang/StringUTF16", "checkIndex", "(I[B)V"⟩
abbrev jb_JU_checkIndex : ByteArray := prog_14_method_91_code
abbrev jy_JU_length : MethodName := ⟨"java/lang/StringUTF16", "length", "([B)I"⟩
abbrev jb_JU_length : ByteArray := prog_14_method_6_code
abbrev jy_JU_getChar : MethodName := ⟨"java/lang/StringUTF16", "getChar", "([BI)C"⟩
abbrev jb_JU_getChar : ByteArray := prog_14_method_5_code
abbrev jy_L_putDotted : MethodName := ⟨"StreamIds$Layout", "putDotted", "(LStreamIds$Text;)V"⟩
abbrev jb_L_putDotted : ByteArray := prog_5_method_7_code
abbrev jy_G_take : MethodName := ⟨"StreamIds$Digest", "take", "(LStreamIds$Layout;)V"⟩
abbrev jb_G_take : ByteArray := prog_3_method_2_code
abbrev jy_G_fillWords : MethodName := ⟨"StreamIds$Digest", "fillWords", "(LStreamIds$Layout;II)V"⟩
abbrev jb_G_fillWords : ByteArray := prog_3_method_4_code
abbrev jy_G_paddedAt : MethodName := ⟨"StreamIds$Digest", "paddedAt", "(LStreamIds$Layout;II)I"⟩
abbrev jb_G_paddedAt : ByteArray := prog_3_method_5_code
abbrev jy_L_at : MethodName := ⟨"StreamIds$Layout", "at", "(I)I"⟩
abbrev jb_L_at : ByteArray := prog_5_method_3_code
abbrev jy_G_turned : MethodName := ⟨"StreamIds$Digest", "turned", "(II)I"⟩
abbrev jb_G_turned : ByteArray := prog_3_method_8_code
abbrev jy_G_mixWords : MethodName := ⟨"StreamIds$Digest", "mixWords", "()V"⟩
abbrev jb_G_mixWords : ByteArray := prog_3_method_6_code
abbrev jy_G_chosen : MethodName := ⟨"StreamIds$Digest", "chosen", "(IIII)I"⟩
abbrev jb_G_chosen : ByteArray := prog_3_method_7_code
abbrev jy_G_firstEightReversed : MethodName := ⟨"StreamIds$Digest", "firstEightReversed", "()J"⟩
abbrev jb_G_firstEightReversed : ByteArray := prog_3_method_3_code
abbrev jy_G_reversed : MethodName := ⟨"StreamIds$Digest", "reversed", "(I)I"⟩
abbrev jb_G_reversed : ByteArray := prog_3_method_9_code
abbrev jy_S_hash : MethodName := ⟨"StreamIds", "hash", "(II)J"⟩
abbrev jb_S_hash : ByteArray := prog_1_method_10_code
abbrev jy_S_size : MethodName := ⟨"StreamIds", "size", "(I)I"⟩
abbrev jb_S_size : ByteArray := prog_1_method_11_code
abbrev jy_S_byteAt : MethodName := ⟨"StreamIds", "byteAt", "(II)I"⟩
abbrev jb_S_byteAt : ByteArray := prog_1_method_12_code
abbrev jy_S_part : MethodName := ⟨"StreamIds", "part", "(II)I"⟩
abbrev jb_S_part : ByteArray := prog_1_method_13_code
abbrev jy_S_count : MethodName := ⟨"StreamIds", "count", "(II)I"⟩
abbrev jb_S_count : ByteArray := prog_1_method_14_code
abbrev jy_M_init : MethodName := ⟨"StreamIdsModel", "<init>", "()V"⟩
abbrev jb_M_init : ByteArray := prog_10_method_1_code
abbrev jy_M_type : MethodName := ⟨"StreamIdsModel", "type", "(IJ)I"⟩
abbrev jb_M_type : ByteArray := prog_10_method_4_code
abbrev jy_M_out : MethodName := ⟨"StreamIdsModel", "out", "(II)Z"⟩
abbrev jb_M_out : ByteArray := prog_10_method_2_code
abbrev jy_M_clear : MethodName := ⟨"StreamIdsModel", "clear", "(I)I"⟩
abbrev jb_M_clear : ByteArray := prog_10_method_5_code
abbrev jy_M_define : MethodName := ⟨"StreamIdsModel", "define", "(II)I"⟩
abbrev jb_M_define : ByteArray := prog_10_method_11_code
abbrev jy_M_copy : MethodName := ⟨"StreamIdsModel", "copy", "(II)V"⟩
abbrev jb_M_copy : ByteArray := prog_10_method_6_code
abbrev jy_M_face : MethodName := ⟨"StreamIdsModel", "face", "(I)I"⟩
abbrev jb_M_face : ByteArray := prog_10_method_12_code
abbrev jy_M_none : MethodName := ⟨"StreamIdsModel", "none", "(I)Z"⟩
abbrev jb_M_none : ByteArray := prog_10_method_3_code
abbrev jy_M_compare : MethodName := ⟨"StreamIdsModel", "compare", "(II)I"⟩
abbrev jb_M_compare : ByteArray := prog_10_method_7_code
abbrev jy_M_member : MethodName := ⟨"StreamIdsModel", "member", "(III)I"⟩
abbrev jb_M_member : ByteArray := prog_10_method_14_code
abbrev jy_M_goodShape : MethodName := ⟨"StreamIdsModel", "goodShape", "(I)Z"⟩
abbrev jb_M_goodShape : ByteArray := prog_10_method_10_code
abbrev jy_M_passType : MethodName := ⟨"StreamIdsModel", "passType", "()Z"⟩
abbrev jb_M_passType : ByteArray := prog_10_method_9_code
abbrev jy_M_signAt : MethodName := ⟨"StreamIdsModel", "signAt", "(I)I"⟩
abbrev jb_M_signAt : ByteArray := prog_10_method_8_code
abbrev jy_M_find : MethodName := ⟨"StreamIdsModel", "find", "(II)I"⟩
abbrev jb_M_find : ByteArray := prog_10_method_13_code
abbrev jy_M_remove : MethodName := ⟨"StreamIdsModel", "remove", "(II)I"⟩
abbrev jb_M_remove : ByteArray := prog_10_method_15_code
abbrev jy_M_declare : MethodName := ⟨"StreamIdsModel", "declare", "(IZJ)I"⟩
abbrev jb_M_declare : ByteArray := prog_10_method_16_code
abbrev jy_M_id : MethodName := ⟨"StreamIdsModel", "id", "(I)J"⟩
abbrev jb_M_id : ByteArray := prog_10_method_32_code
abbrev jy_M_digest : MethodName := ⟨"StreamIdsModel", "digest", "(I)V"⟩
abbrev jb_M_digest : ByteArray := prog_10_method_31_code
abbrev jy_M_build : MethodName := ⟨"StreamIdsModel", "build", "(I)V"⟩
abbrev jb_M_build : ByteArray := prog_10_method_26_code
abbrev jy_M_utf : MethodName := ⟨"StreamIdsModel", "utf", "(IZ)V"⟩
abbrev jb_M_utf : ByteArray := prog_10_method_19_code
abbrev jy_M_put : MethodName := ⟨"StreamIdsModel", "put", "(I)V"⟩
abbrev jb_M_put : ByteArray := prog_10_method_17_code
abbrev jy_M_counted : MethodName := ⟨"StreamIdsModel", "counted", "(II)I"⟩
abbrev jb_M_counted : ByteArray := prog_10_method_24_code
abbrev jy_M_number : MethodName := ⟨"StreamIdsModel", "number", "(I)V"⟩
abbrev jb_M_number : ByteArray := prog_10_method_18_code
abbrev jy_M_nextFace : MethodName := ⟨"StreamIdsModel", "nextFace", "(II)I"⟩
abbrev jb_M_nextFace : ByteArray := prog_10_method_23_code
abbrev jy_M_writeMembers : MethodName := ⟨"StreamIdsModel", "writeMembers", "(II)V"⟩
abbrev jb_M_writeMembers : ByteArray := prog_10_method_25_code
abbrev jy_M_following : MethodName := ⟨"StreamIdsModel", "following", "(III)I"⟩
abbrev jb_M_following : ByteArray := prog_10_method_22_code
abbrev jy_M_orderOf : MethodName := ⟨"StreamIdsModel", "orderOf", "(III)I"⟩
abbrev jb_M_orderOf : ByteArray := prog_10_method_21_code
abbrev jy_M_initName : MethodName := ⟨"StreamIdsModel", "initName", "(Z)V"⟩
abbrev jb_M_initName : ByteArray := prog_10_method_20_code
abbrev jy_M_block : MethodName := ⟨"StreamIdsModel", "block", "(I)V"⟩
abbrev jb_M_block : ByteArray := prog_10_method_30_code
abbrev jy_M_turned : MethodName := ⟨"StreamIdsModel", "turned", "(II)I"⟩
abbrev jb_M_turned : ByteArray := prog_10_method_27_code
abbrev jy_M_mixed : MethodName := ⟨"StreamIdsModel", "mixed", "(IIII)I"⟩
abbrev jb_M_mixed : ByteArray := prog_10_method_28_code
abbrev jy_M_constant : MethodName := ⟨"StreamIdsModel", "constant", "(I)I"⟩
abbrev jb_M_constant : ByteArray := prog_10_method_29_code
abbrev jy_M_hash : MethodName := ⟨"StreamIdsModel", "hash", "(II)J"⟩
abbrev jb_M_hash : ByteArray := prog_10_method_33_code
abbrev jy_M_size : MethodName := ⟨"StreamIdsModel", "size", "(I)I"⟩
abbrev jb_M_size : ByteArray := prog_10_method_34_code
abbrev jy_M_byteAt : MethodName := ⟨"StreamIdsModel", "byteAt", "(II)I"⟩
abbrev jb_M_byteAt : ByteArray := prog_10_method_35_code
abbrev jy_M_part : MethodName := ⟨"StreamIdsModel", "part", "(II)I"⟩
abbrev jb_M_part : ByteArray := prog_10_method_36_code
abbrev jy_M_count : MethodName := ⟨"StreamIdsModel", "count", "(II)I"⟩
abbrev jb_M_count : ByteArray := prog_10_method_37_code
theorem jw_0 : (Jvm.Cond.initialized "StreamIdsLaw") ∈ zzW := jw_of (i := 0) (by decide +kernel) (by decide +kernel)
theorem jw_1 : (Jvm.Cond.initialized "StreamIds") ∈ zzW := jw_of (i := 1) (by decide +kernel) (by decide +kernel)
theorem jw_2 : (Jvm.Cond.initialized "StreamIds$Text") ∈ zzW := jw_of (i := 2) (by decide +kernel) (by decide +kernel)
theorem jw_3 : (Jvm.Cond.initialized "StreamIds$Layout") ∈ zzW := jw_of (i := 3) (by decide +kernel) (by decide +kernel)
theorem jw_4 : (Jvm.Cond.initialized "StreamIds$Digest") ∈ zzW := jw_of (i := 4) (by decide +kernel) (by decide +kernel)
theorem jw_5 : (Jvm.Cond.initialized "StreamIds$Declaration") ∈ zzW := jw_of (i := 5) (by decide +kernel) (by decide +kernel)
theorem jw_6 : (Jvm.Cond.initialized "StreamIds$Row") ∈ zzW := jw_of (i := 6) (by decide +kernel) (by decide +kernel)
theorem jw_7 : (Jvm.Cond.initialized "StreamIds$Entry") ∈ zzW := jw_of (i := 7) (by decide +kernel) (by decide +kernel)
theorem jw_8 : (Jvm.Cond.initialized "StreamIdsModel") ∈ zzW := jw_of (i := 8) (by decide +kernel) (by decide +kernel)
theorem jw_9 : (Jvm.Cond.initialized "java/lang/System") ∈ zzW := jw_of (i := 9) (by decide +kernel) (by decide +kernel)
theorem jw_10 : (Jvm.Cond.initialized "java/lang/Math") ∈ zzW := jw_of (i := 10) (by decide +kernel) (by decide +kernel)
theorem jw_11 : (Jvm.Cond.initialized "StreamIds$Shapes") ∈ zzW := jw_of (i := 11) (by decide +kernel) (by decide +kernel)
theorem jw_12 : (Jvm.Cond.initialized "java/lang/String") ∈ zzW := jw_of (i := 12) (by decide +kernel) (by decide +kernel)
theorem jw_13 : (Jvm.Cond.initialized "java/lang/StringLatin1") ∈ zzW := jw_of (i := 13) (by decide +kernel) (by decide +kernel)
theorem jw_14 : (Jvm.Cond.initialized "jdk/internal/util/Preconditions") ∈ zzW := jw_of (i := 14) (by decide +kernel) (by decide +kernel)
theorem jw_15 : (Jvm.Cond.initialized "java/lang/StringUTF16") ∈ zzW := jw_of (i := 15) (by decide +kernel) (by decide +kernel)
theorem jw_16 : (Jvm.Cond.classLink "StreamIdsLaw" (7 : Nat) "StreamIds") ∈ zzW := jw_of (i := 16) (by decide +kernel) (by decide +kernel)
theorem jw_17 : (Jvm.Cond.instantiable "StreamIds" (5 : Nat)) ∈ zzW := jw_of (i := 17) (by decide +kernel) (by decide +kernel)
theorem jw_18 : (Jvm.Cond.methodLink "StreamIdsLaw" (9 : Nat) ({ cls := "StreamIds", name := "<init>", desc := "()V" } : Jvm.MethodName)) ∈ zzW := jw_of (i := 18) (by decide +kernel) (by decide +kernel)
theorem jw_19 : (Jvm.Cond.instanceMethod ({ cls := "StreamIds", name := "<init>", desc := "()V" } : Jvm.MethodName)) ∈ zzW := jw_of (i := 19) (by decide +kernel) (by decide +kernel)
theorem jw_20 : (Jvm.Cond.code ({ cls := "StreamIds", name := "<init>", desc := "()V" } : Jvm.MethodName) prog_1_method_1_code (2 : Nat) (Option.none : Option Jvm.ClassFile.FieldType)) ∈ zzW := jw_of (i := 20) (by decide +kernel) (by decide +kernel)
theorem jw_21 : (Jvm.Cond.methodLink "StreamIds" (3 : Nat) ({ cls := "java/lang/Object", name := "<init>", desc := "()V" } : Jvm.MethodName)) ∈ zzW := jw_of (i := 21) (by decide +kernel) (by decide +kernel)
theorem jw_22 : (Jvm.Cond.instanceMethod ({ cls := "java/lang/Object", name := "<init>", desc := "()V" } : Jvm.MethodName)) ∈ zzW := jw_of (i := 22) (by decide +kernel) (by decide +kernel)
theorem jw_23 : (Jvm.Cond.code ({ cls := "java/lang/Object", name := "<init>", desc := "()V" } : Jvm.MethodName) object_method_1_code (1 : Nat) (Option.none : Option Jvm.ClassFile.FieldType)) ∈ zzW := jw_of (i := 23) (by decide +kernel) (by decide +kernel)
theorem jw_24 : (Jvm.Cond.classLink "StreamIds" (9 : Nat) "StreamIds$Text") ∈ zzW := jw_of (i := 24) (by decide +kernel) (by decide +kernel)
theorem jw_25 : (Jvm.Cond.instantiable "StreamIds$Text" (2 : Nat)) ∈ zzW := jw_of (i := 25) (by decide +kernel) (by decide +kernel)
theorem jw_27 : (Jvm.Cond.instanceMethod ({ cls := "StreamIds$Text", name := "<init>", desc := "()V" } : Jvm.MethodName)) ∈ zzW := jw_of (i := 27) (by decide +kernel) (by decide +kernel)
theorem jw_28 : (Jvm.Cond.code ({ cls := "StreamIds$Text", name := "<init>", desc := "()V" } : Jvm.MethodName) prog_8_method_1_code (1 : Nat) (Option.none : Option Jvm.ClassFile.FieldType)) ∈ zzW := jw_of (i := 28) (by decide +kernel) (by decide +kernel)
theorem jw_29 : (Jvm.Cond.methodLink "StreamIds$Text" (3 : Nat) ({ cls := "java/lang/Object", name := "<init>", desc := "()V" } : Jvm.MethodName)) ∈ zzW := jw_of (i := 29) (by decide +kernel) (by decide +kernel)
theorem jw_30 : (Jvm.Cond.fieldLink "StreamIds$Text" (9 : Nat) "StreamIds$Text" "signs" "[B") ∈ zzW := jw_of (i := 30) (by decide +kernel) (by decide +kernel)
theorem jw_31 : (Jvm.Cond.fieldLink "StreamIds$Text" (15 : Nat) "StreamIds$Text" "length" "I") ∈ zzW := jw_of (i := 31) (by decide +kernel) (by decide +kernel)
theorem jw_35 : (Jvm.Cond.laysFinal "StreamIds$Text" "StreamIds$Text" "signs" "[B") ∈ zzW := jw_of (i := 35) (by decide +kernel) (by decide +kernel)
theorem jw_37 : (Jvm.Cond.lays "StreamIds$Text" "StreamIds$Text" "length" "I") ∈ zzW := jw_of (i := 37) (by decide +kernel) (by decide +kernel)
theorem jw_40 : (Jvm.Cond.arrayClass Jvm.ClassFile.FieldType.byte) ∈ zzW := jw_of (i := 40) (by decide +kernel) (by decide +kernel)
theorem jw_41 : (Jvm.Cond.classLink "StreamIds" (19 : Nat) "StreamIds$Declaration") ∈ zzW := jw_of (i := 41) (by decide +kernel) (by decide +kernel)
theorem jw_43 : (Jvm.Cond.classLink "StreamIds" (25 : Nat) "StreamIds$Layout") ∈ zzW := jw_of (i := 43) (by decide +kernel) (by decide +kernel)
theorem jw_44 : (Jvm.Cond.instantiable "StreamIds$Layout" (3 : Nat)) ∈ zzW := jw_of (i := 44) (by decide +kernel) (by decide +kernel)
theorem jw_46 : (Jvm.Cond.instanceMethod ({ cls := "StreamIds$Layout", name := "<init>", desc := "()V" } : Jvm.MethodName)) ∈ zzW := jw_of (i := 46) (by decide +kernel) (by decide +kernel)
theorem jw_47 : (Jvm.Cond.code ({ cls := "StreamIds$Layout", name := "<init>", desc := "()V" } : Jvm.MethodName) prog_5_method_1_code (1 : Nat) (Option.none : Option Jvm.ClassFile.FieldType)) ∈ zzW := jw_of (i := 47) (by decide +kernel) (by decide +kernel)
theorem jw_48 : (Jvm.Cond.methodLink "StreamIds$Layout" (3 : Nat) ({ cls := "java/lang/Object", name := "<init>", desc := "()V" } : Jvm.MethodName)) ∈ zzW := jw_of (i := 48) (by decide +kernel) (by decide +kernel)
theorem jw_49 : (Jvm.Cond.fieldLink "StreamIds$Layout" (9 : Nat) "StreamIds$Layout" "bytes" "[B") ∈ zzW := jw_of (i := 49) (by decide +kernel) (by decide +kernel)
theorem jw_50 : (Jvm.Cond.fieldLink "StreamIds$Layout" (15 : Nat) "StreamIds$Layout" "length" "I") ∈ zzW := jw_of (i := 50) (by decide +kernel) (by decide +kernel)
theorem jw_53 : (Jvm.Cond.fieldLink "StreamIds$Layout" (19 : Nat) "StreamIds$Layout" "begins" "[I") ∈ zzW := jw_of (i := 53) (by decide +kernel) (by decide +kernel)
theorem jw_55 : (Jvm.Cond.laysFinal "StreamIds$Layout" "StreamIds$Layout" "bytes" "[B") ∈ zzW := jw_of (i := 55) (by decide +kernel) (by decide +kernel)
theorem jw_57 : (Jvm.Cond.lays "StreamIds$Layout" "StreamIds$Layout" "length" "I") ∈ zzW := jw_of (i := 57) (by decide +kernel) (by decide +kernel)
theorem jw_59 : (Jvm.Cond.laysFinal "StreamIds$Layout" "StreamIds$Layout" "begins" "[I") ∈ zzW := jw_of (i := 59) (by decide +kernel) (by decide +kernel)
theorem jw_62 : (Jvm.Cond.arrayClass Jvm.ClassFile.FieldType.int) ∈ zzW := jw_of (i := 62) (by decide +kernel) (by decide +kernel)
theorem jw_63 : (Jvm.Cond.classLink "StreamIds" (32 : Nat) "StreamIds$Digest") ∈ zzW := jw_of (i := 63) (by decide +kernel) (by decide +kernel)
theorem jw_64 : (Jvm.Cond.instantiable "StreamIds$Digest" (2 : Nat)) ∈ zzW := jw_of (i := 64) (by decide +kernel) (by decide +kernel)
theorem jw_66 : (Jvm.Cond.instanceMethod ({ cls := "StreamIds$Digest", name := "<init>", desc := "()V" } : Jvm.MethodName)) ∈ zzW := jw_of (i := 66) (by decide +kernel) (by decide +kernel)
theorem jw_67 : (Jvm.Cond.code ({ cls := "StreamIds$Digest", name := "<init>", desc := "()V" } : Jvm.MethodName) prog_3_method_1_code (1 : Nat) (Option.none : Option Jvm.ClassFile.FieldType)) ∈ zzW := jw_of (i := 67) (by decide +kernel) (by decide +kernel)
theorem jw_68 : (Jvm.Cond.methodLink "StreamIds$Digest" (3 : Nat) ({ cls := "java/lang/Object", name := "<init>", desc := "()V" } : Jvm.MethodName)) ∈ zzW := jw_of (i := 68) (by decide +kernel) (by decide +kernel)
theorem jw_69 : (Jvm.Cond.fieldLink "StreamIds$Digest" (9 : Nat) "StreamIds$Digest" "numbers" "[I") ∈ zzW := jw_of (i := 69) (by decide +kernel) (by decide +kernel)
theorem jw_71 : (Jvm.Cond.fieldLink "StreamIds$Digest" (15 : Nat) "StreamIds$Digest" "words" "[I") ∈ zzW := jw_of (i := 71) (by decide +kernel) (by decide +kernel)
theorem jw_72 : (Jvm.Cond.laysFinal "StreamIds$Digest" "StreamIds$Digest" "numbers" "[I") ∈ zzW := jw_of (i := 72) (by decide +kernel) (by decide +kernel)
theorem jw_74 : (Jvm.Cond.laysFinal "StreamIds$Digest" "StreamIds$Digest" "words" "[I") ∈ zzW := jw_of (i := 74) (by decide +kernel) (by decide +kernel)
theorem jw_77 : (Jvm.Cond.instantiable "StreamIds$Declaration" (7 : Nat)) ∈ zzW := jw_of (i := 77) (by decide +kernel) (by decide +kernel)
theorem jw_79 : (Jvm.Cond.instanceMethod ({ cls := "StreamIds$Declaration", name := "<init>", desc := "()V" } : Jvm.MethodName)) ∈ zzW := jw_of (i := 79) (by decide +kernel) (by decide +kernel)
theorem jw_80 : (Jvm.Cond.code ({ cls := "StreamIds$Declaration", name := "<init>", desc := "()V" } : Jvm.MethodName) prog_2_method_1_code (1 : Nat) (Option.none : Option Jvm.ClassFile.FieldType)) ∈ zzW := jw_of (i := 80) (by decide +kernel) (by decide +kernel)
theorem jw_81 : (Jvm.Cond.methodLink "StreamIds$Declaration" (3 : Nat) ({ cls := "java/lang/Object", name := "<init>", desc := "()V" } : Jvm.MethodName)) ∈ zzW := jw_of (i := 81) (by decide +kernel) (by decide +kernel)
theorem jw_82 : (Jvm.Cond.classLink "StreamIds$Declaration" (15 : Nat) "StreamIds$Text") ∈ zzW := jw_of (i := 82) (by decide +kernel) (by decide +kernel)
theorem jw_84 : (Jvm.Cond.classLink "StreamIds$Declaration" (26 : Nat) "StreamIds$Row") ∈ zzW := jw_of (i := 84) (by decide +kernel) (by decide +kernel)
theorem jw_85 : (Jvm.Cond.instantiable "StreamIds$Row" (2 : Nat)) ∈ zzW := jw_of (i := 85) (by decide +kernel) (by decide +kernel)
theorem jw_86 : (Jvm.Cond.methodLink "StreamIds$Declaration" (28 : Nat) ({ cls := "StreamIds$Row", name := "<init>", desc := "(I)V" } : Jvm.MethodName)) ∈ zzW := jw_of (i := 86) (by decide +kernel) (by decide +kernel)
theorem jw_87 : (Jvm.Cond.instanceMethod ({ cls := "StreamIds$Row", name := "<init>", desc := "(I)V" } : Jvm.MethodName)) ∈ zzW := jw_of (i := 87) (by decide +kernel) (by decide +kernel)
theorem jw_88 : (Jvm.Cond.code ({ cls := "StreamIds$Row", name := "<init>", desc := "(I)V" } : Jvm.MethodName) prog_6_method_1_code (3 : Nat) (Option.none : Option Jvm.ClassFile.FieldType)) ∈ zzW := jw_of (i := 88) (by decide +kernel) (by decide +kernel)
theorem jw_89 : (Jvm.Cond.methodLink "StreamIds$Row" (3 : Nat) ({ cls := "java/lang/Object", name := "<init>", desc := "()V" } : Jvm.MethodName)) ∈ zzW := jw_of (i := 89) (by decide +kernel) (by decide +kernel)
theorem jw_90 : (Jvm.Cond.classLink "StreamIds$Row" (15 : Nat) "StreamIds$Entry") ∈ zzW := jw_of (i := 90) (by decide +kernel) (by decide +kernel)
theorem jw_92 : (Jvm.Cond.instantiable "StreamIds$Entry" (4 : Nat)) ∈ zzW := jw_of (i := 92) (by decide +kernel) (by decide +kernel)
theorem jw_94 : (Jvm.Cond.instanceMethod ({ cls := "StreamIds$Entry", name := "<init>", desc := "()V" } : Jvm.MethodName)) ∈ zzW := jw_of (i := 94) (by decide +kernel) (by decide +kernel)
theorem jw_95 : (Jvm.Cond.code ({ cls := "StreamIds$Entry", name := "<init>", desc := "()V" } : Jvm.MethodName) prog_4_method_1_code (1 : Nat) (Option.none : Option Jvm.ClassFile.FieldType)) ∈ zzW := jw_of (i := 95) (by decide +kernel) (by decide +kernel)
theorem jw_96 : (Jvm.Cond.methodLink "StreamIds$Entry" (3 : Nat) ({ cls := "java/lang/Object", name := "<init>", desc := "()V" } : Jvm.MethodName)) ∈ zzW := jw_of (i := 96) (by decide +kernel) (by decide +kernel)
theorem jw_97 : (Jvm.Cond.classLink "StreamIds$Entry" (18 : Nat) "StreamIds$Text") ∈ zzW := jw_of (i := 97) (by decide +kernel) (by decide +kernel)
theorem jw_99 : (Jvm.Cond.fieldLink "StreamIds$Entry" (9 : Nat) "StreamIds$Entry" "kind" "I") ∈ zzW := jw_of (i := 99) (by decide +kernel) (by decide +kernel)
theorem jw_102 : (Jvm.Cond.fieldLink "StreamIds$Entry" (15 : Nat) "StreamIds$Entry" "modifiers" "I") ∈ zzW := jw_of (i := 102) (by decide +kernel) (by decide +kernel)
theorem jw_104 : (Jvm.Cond.fieldLink "StreamIds$Entry" (21 : Nat) "StreamIds$Entry" "name" "LStreamIds$Text;") ∈ zzW := jw_of (i := 104) (by decide +kernel) (by decide +kernel)
theorem jw_106 : (Jvm.Cond.fieldLink "StreamIds$Entry" (25 : Nat) "StreamIds$Entry" "shape" "LStreamIds$Text;") ∈ zzW := jw_of (i := 106) (by decide +kernel) (by decide +kernel)
theorem jw_108 : (Jvm.Cond.lays "StreamIds$Entry" "StreamIds$Entry" "kind" "I") ∈ zzW := jw_of (i := 108) (by decide +kernel) (by decide +kernel)
theorem jw_110 : (Jvm.Cond.lays "StreamIds$Entry" "StreamIds$Entry" "modifiers" "I") ∈ zzW := jw_of (i := 110) (by decide +kernel) (by decide +kernel)
theorem jw_112 : (Jvm.Cond.laysFinal "StreamIds$Entry" "StreamIds$Entry" "name" "LStreamIds$Text;") ∈ zzW := jw_of (i := 112) (by decide +kernel) (by decide +kernel)
theorem jw_114 : (Jvm.Cond.laysFinal "StreamIds$Entry" "StreamIds$Entry" "shape" "LStreamIds$Text;") ∈ zzW := jw_of (i := 114) (by decide +kernel) (by decide +kernel)
theorem jw_117 : (Jvm.Cond.fieldLink "StreamIds$Row" (17 : Nat) "StreamIds$Row" "entries" "[LStreamIds$Entry;") ∈ zzW := jw_of (i := 117) (by decide +kernel) (by decide +kernel)
theorem jw_119 : (Jvm.Cond.fieldLink "StreamIds$Row" (9 : Nat) "StreamIds$Row" "used" "I") ∈ zzW := jw_of (i := 119) (by decide +kernel) (by decide +kernel)
theorem jw_123 : (Jvm.Cond.laysFinal "StreamIds$Row" "StreamIds$Row" "entries" "[LStreamIds$Entry;") ∈ zzW := jw_of (i := 123) (by decide +kernel) (by decide +kernel)
theorem jw_125 : (Jvm.Cond.lays "StreamIds$Row" "StreamIds$Row" "used" "I") ∈ zzW := jw_of (i := 125) (by decide +kernel) (by decide +kernel)
theorem jw_128 : (Jvm.Cond.fieldLink "StreamIds$Declaration" (9 : Nat) "StreamIds$Declaration" "isThere" "Z") ∈ zzW := jw_of (i := 128) (by decide +kernel) (by decide +kernel)
theorem jw_130 : (Jvm.Cond.fieldLink "StreamIds$Declaration" (18 : Nat) "StreamIds$Declaration" "name" "LStreamIds$Text;") ∈ zzW := jw_of (i := 130) (by decide +kernel) (by decide +kernel)
theorem jw_132 : (Jvm.Cond.fieldLink "StreamIds$Declaration" (22 : Nat) "StreamIds$Declaration" "modifiers" "I") ∈ zzW := jw_of (i := 132) (by decide +kernel) (by decide +kernel)
theorem jw_134 : (Jvm.Cond.fieldLink "StreamIds$Declaration" (31 : Nat) "StreamIds$Declaration" "faces" "LStreamIds$Row;") ∈ zzW := jw_of (i := 134) (by decide +kernel) (by decide +kernel)
theorem jw_137 : (Jvm.Cond.fieldLink "StreamIds$Declaration" (35 : Nat) "StreamIds$Declaration" "members" "LStreamIds$Row;") ∈ zzW := jw_of (i := 137) (by decide +kernel) (by decide +kernel)
theorem jw_140 : (Jvm.Cond.fieldLink "StreamIds$Declaration" (38 : Nat) "StreamIds$Declaration" "hasOwnId" "Z") ∈ zzW := jw_of (i := 140) (by decide +kernel) (by decide +kernel)
theorem jw_142 : (Jvm.Cond.fieldLink "StreamIds$Declaration" (41 : Nat) "StreamIds$Declaration" "ownId" "J") ∈ zzW := jw_of (i := 142) (by decide +kernel) (by decide +kernel)
theorem jw_144 : (Jvm.Cond.lays "StreamIds$Declaration" "StreamIds$Declaration" "isThere" "Z") ∈ zzW := jw_of (i := 144) (by decide +kernel) (by decide +kernel)
theorem jw_146 : (Jvm.Cond.laysFinal "StreamIds$Declaration" "StreamIds$Declaration" "name" "LStreamIds$Text;") ∈ zzW := jw_of (i := 146) (by decide +kernel) (by decide +kernel)
theorem jw_148 : (Jvm.Cond.lays "StreamIds$Declaration" "StreamIds$Declaration" "modifiers" "I") ∈ zzW := jw_of (i := 148) (by decide +kernel) (by decide +kernel)
theorem jw_150 : (Jvm.Cond.laysFinal "StreamIds$Declaration" "StreamIds$Declaration" "faces" "LStreamIds$Row;") ∈ zzW := jw_of (i := 150) (by decide +kernel) (by decide +kernel)
theorem jw_152 : (Jvm.Cond.laysFinal "StreamIds$Declaration" "StreamIds$Declaration" "members" "LStreamIds$Row;") ∈ zzW := jw_of (i := 152) (by decide +kernel) (by decide +kernel)
theorem jw_154 : (Jvm.Cond.lays "StreamIds$Declaration" "StreamIds$Declaration" "hasOwnId" "Z") ∈ zzW := jw_of (i := 154) (by decide +kernel) (by decide +kernel)
theorem jw_156 : (Jvm.Cond.lays "StreamIds$Declaration" "StreamIds$Declaration" "ownId" "J") ∈ zzW := jw_of (i := 156) (by decide +kernel) (by decide +kernel)
theorem jw_159 : (Jvm.Cond.fieldLink "StreamIds" (12 : Nat) "StreamIds" "name" "LStreamIds$Text;") ∈ zzW := jw_of (i := 159) (by decide +kernel) (by decide +kernel)
theorem jw_160 : (Jvm.Cond.fieldLink "StreamIds" (16 : Nat) "StreamIds" "shape" "LStreamIds$Text;") ∈ zzW := jw_of (i := 160) (by decide +kernel) (by decide +kernel)
theorem jw_161 : (Jvm.Cond.fieldLink "StreamIds" (21 : Nat) "StreamIds" "declarations" "[LStreamIds$Declaration;") ∈ zzW := jw_of (i := 161) (by decide +kernel) (by decide +kernel)
theorem jw_162 : (Jvm.Cond.fieldLink "StreamIds" (28 : Nat) "StreamIds" "layout" "LStreamIds$Layout;") ∈ zzW := jw_of (i := 162) (by decide +kernel) (by decide +kernel)
theorem jw_163 : (Jvm.Cond.fieldLink "StreamIds" (35 : Nat) "StreamIds" "digest" "LStreamIds$Digest;") ∈ zzW := jw_of (i := 163) (by decide +kernel) (by decide +kernel)
theorem jw_164 : (Jvm.Cond.laysFinal "StreamIds" "StreamIds" "name" "LStreamIds$Text;") ∈ zzW := jw_of (i := 164) (by decide +kernel) (by decide +kernel)
theorem jw_166 : (Jvm.Cond.laysFinal "StreamIds" "StreamIds" "shape" "LStreamIds$Text;") ∈ zzW := jw_of (i := 166) (by decide +kernel) (by decide +kernel)
theorem jw_168 : (Jvm.Cond.laysFinal "StreamIds" "StreamIds" "declarations" "[LStreamIds$Declaration;") ∈ zzW := jw_of (i := 168) (by decide +kernel) (by decide +kernel)
theorem jw_170 : (Jvm.Cond.laysFinal "StreamIds" "StreamIds" "layout" "LStreamIds$Layout;") ∈ zzW := jw_of (i := 170) (by decide +kernel) (by decide +kernel)
theorem jw_172 : (Jvm.Cond.laysFinal "StreamIds" "StreamIds" "digest" "LStreamIds$Digest;") ∈ zzW := jw_of (i := 172) (by decide +kernel) (by decide +kernel)
theorem jw_175 : (Jvm.Cond.methodLink "StreamIdsLaw" (15 : Nat) ({ cls := "StreamIds", name := "type", desc := "(IJ)I" } : Jvm.MethodName)) ∈ zzW := jw_of (i := 175) (by decide +kernel) (by decide +kernel)
theorem jw_176 : (Jvm.Cond.instanceMethod ({ cls := "StreamIds", name := "type", desc := "(IJ)I" } : Jvm.MethodName)) ∈ zzW := jw_of (i := 176) (by decide +kernel) (by decide +kernel)
theorem jw_177 : (Jvm.Cond.selects "StreamIds" ({ cls := "StreamIds", name := "type", desc := "(IJ)I" } : Jvm.MethodName) ({ cls := "StreamIds", name := "type", desc := "(IJ)I" } : Jvm.MethodName)) ∈ zzW := jw_of (i := 177) (by decide +kernel) (by decide +kernel)
theorem jw_178 : (Jvm.Cond.code ({ cls := "StreamIds", name := "type", desc := "(IJ)I" } : Jvm.MethodName) prog_1_method_2_code (7 : Nat) (Option.some Jvm.ClassFile.FieldType.int)) ∈ zzW := jw_of (i := 178) (by decide +kernel) (by decide +kernel)
theorem jw_179 : (Jvm.Cond.methodLink "StreamIds" (40 : Nat) ({ cls := "StreamIds", name := "bufferOf", desc := "(I)LStreamIds$Text;" } : Jvm.MethodName)) ∈ zzW := jw_of (i := 179) (by decide +kernel) (by decide +kernel)
theorem jw_181 : (Jvm.Cond.instanceMethod ({ cls := "StreamIds", name := "bufferOf", desc := "(I)LStreamIds$Text;" } : Jvm.MethodName)) ∈ zzW := jw_of (i := 181) (by decide +kernel) (by decide +kernel)
theorem jw_182 : (Jvm.Cond.code ({ cls := "StreamIds", name := "bufferOf", desc := "(I)LStreamIds$Text;" } : Jvm.MethodName) prog_1_method_15_code (2 : Nat) (Option.some (Jvm.ClassFile.FieldType.object "StreamIds$Text"))) ∈ zzW := jw_of (i := 182) (by decide +kernel) (by decide +kernel)
theorem jw_183 : (Jvm.Cond.methodLink "StreamIds" (44 : Nat) ({ cls := "StreamIds", name := "areSigns", desc := "(J)Z" } : Jvm.MethodName)) ∈ zzW := jw_of (i := 183) (by decide +kernel) (by decide +kernel)
theorem jw_184 : (Jvm.Cond.static ({ cls := "StreamIds", name := "areSigns", desc := "(J)Z" } : Jvm.MethodName)) ∈ zzW := jw_of (i := 184) (by decide +kernel) (by decide +kernel)
theorem jw_185 : (Jvm.Cond.code ({ cls := "StreamIds", name := "areSigns", desc := "(J)Z" } : Jvm.MethodName) prog_1_method_21_code (4 : Nat) (Option.some Jvm.ClassFile.FieldType.boolean)) ∈ zzW := jw_of (i := 185) (by decide +kernel) (by decide +kernel)
theorem jw_186 : (Jvm.Cond.methodLink "StreamIds" (56 : Nat) ({ cls := "StreamIds", name := "byteOf", desc := "(JI)I" } : Jvm.MethodName)) ∈ zzW := jw_of (i := 186) (by decide +kernel) (by decide +kernel)
theorem jw_187 : (Jvm.Cond.static ({ cls := "StreamIds", name := "byteOf", desc := "(JI)I" } : Jvm.MethodName)) ∈ zzW := jw_of (i := 187) (by decide +kernel) (by decide +kernel)
theorem jw_188 : (Jvm.Cond.code ({ cls := "StreamIds", name := "byteOf", desc := "(JI)I" } : Jvm.MethodName) prog_1_method_20_code (3 : Nat) (Option.some Jvm.ClassFile.FieldType.int)) ∈ zzW := jw_of (i := 188) (by decide +kernel) (by decide +kernel)
theorem jw_189 : (Jvm.Cond.methodLink "StreamIds" (52 : Nat) ({ cls := "StreamIds", name := "signsIn", desc := "(J)I" } : Jvm.MethodName)) ∈ zzW := jw_of (i := 189) (by decide +kernel) (by decide +kernel)
theorem jw_190 : (Jvm.Cond.static ({ cls := "StreamIds", name := "signsIn", desc := "(J)I" } : Jvm.MethodName)) ∈ zzW := jw_of (i := 190) (by decide +kernel) (by decide +kernel)
theorem jw_191 : (Jvm.Cond.code ({ cls := "StreamIds", name := "signsIn", desc := "(J)I" } : Jvm.MethodName) prog_1_method_22_code (4 : Nat) (Option.some Jvm.ClassFile.FieldType.int)) ∈ zzW := jw_of (i := 191) (by decide +kernel) (by decide +kernel)
theorem jw_192 : (Jvm.Cond.methodLink "StreamIds" (60 : Nat) ({ cls := "StreamIds$Text", name := "append", desc := "(I)V" } : Jvm.MethodName)) ∈ zzW := jw_of (i := 192) (by decide +kernel) (by decide +kernel)
theorem jw_193 : (Jvm.Cond.instanceMethod ({ cls := "StreamIds$Text", name := "append", desc := "(I)V" } : Jvm.MethodName)) ∈ zzW := jw_of (i := 193) (by decide +kernel) (by decide +kernel)
theorem jw_194 : (Jvm.Cond.selects "StreamIds$Text" ({ cls := "StreamIds$Text", name := "append", desc := "(I)V" } : Jvm.MethodName) ({ cls := "StreamIds$Text", name := "append", desc := "(I)V" } : Jvm.MethodName)) ∈ zzW := jw_of (i := 194) (by decide +kernel) (by decide +kernel)
theorem jw_195 : (Jvm.Cond.code ({ cls := "StreamIds$Text", name := "append", desc := "(I)V" } : Jvm.MethodName) prog_8_method_3_code (2 : Nat) (Option.none : Option Jvm.ClassFile.FieldType)) ∈ zzW := jw_of (i := 195) (by decide +kernel) (by decide +kernel)
theorem jw_196 : (Jvm.Cond.methodLink "StreamIdsLaw" (20 : Nat) ({ cls := "StreamIds", name := "clear", desc := "(I)I" } : Jvm.MethodName)) ∈ zzW := jw_of (i := 196) (by decide +kernel) (by decide +kernel)
theorem jw_197 : (Jvm.Cond.instanceMethod ({ cls := "StreamIds", name := "clear", desc := "(I)I" } : Jvm.MethodName)) ∈ zzW := jw_of (i := 197) (by decide +kernel) (by decide +kernel)
theorem jw_198 : (Jvm.Cond.selects "StreamIds" ({ cls := "StreamIds", name := "clear", desc := "(I)I" } : Jvm.MethodName) ({ cls := "StreamIds", name := "clear", desc := "(I)I" } : Jvm.MethodName)) ∈ zzW := jw_of (i := 198) (by decide +kernel) (by decide +kernel)
theorem jw_199 : (Jvm.Cond.code ({ cls := "StreamIds", name := "clear", desc := "(I)I" } : Jvm.MethodName) prog_1_method_3_code (4 : Nat) (Option.some Jvm.ClassFile.FieldType.int)) ∈ zzW := jw_of (i := 199) (by decide +kernel) (by decide +kernel)
theorem jw_200 : (Jvm.Cond.methodLink "StreamIdsLaw" (25 : Nat) ({ cls := "StreamIds", name := "define", desc := "(II)I" } : Jvm.MethodName)) ∈ zzW := jw_of (i := 200) (by decide +kernel) (by decide +kernel)
theorem jw_201 : (Jvm.Cond.instanceMethod ({ cls := "StreamIds", name := "define", desc := "(II)I" } : Jvm.MethodName)) ∈ zzW := jw_of (i := 201) (by decide +kernel) (by decide +kernel)
theorem jw_202 : (Jvm.Cond.selects "StreamIds" ({ cls := "StreamIds", name := "define", desc := "(II)I" } : Jvm.MethodName) ({ cls := "StreamIds", name := "define", desc := "(II)I" } : Jvm.MethodName)) ∈ zzW := jw_of (i := 202) (by decide +kernel) (by decide +kernel)
theorem jw_203 : (Jvm.Cond.code ({ cls := "StreamIds", name := "define", desc := "(II)I" } : Jvm.MethodName) prog_1_method_4_code (3 : Nat) (Option.some Jvm.ClassFile.FieldType.int)) ∈ zzW := jw_of (i := 203) (by decide +kernel) (by decide +kernel)
theorem jw_204 : (Jvm.Cond.constant "StreamIds" (64 : Nat) (65535 : Int32)) ∈ zzW := jw_of (i := 204) (by decide +kernel) (by decide +kernel)
theorem jw_205 : (Jvm.Cond.methodLink "StreamIds" (65 : Nat) ({ cls := "StreamIds$Declaration", name := "begin", desc := "(LStreamIds$Text;I)V" } : Jvm.MethodName)) ∈ zzW := jw_of (i := 205) (by decide +kernel) (by decide +kernel)
theorem jw_206 : (Jvm.Cond.instanceMethod ({ cls := "StreamIds$Declaration", name := "begin", desc := "(LStreamIds$Text;I)V" } : Jvm.MethodName)) ∈ zzW := jw_of (i := 206) (by decide +kernel) (by decide +kernel)
theorem jw_207 : (Jvm.Cond.selects "StreamIds$Declaration" ({ cls := "StreamIds$Declaration", name := "begin", desc := "(LStreamIds$Text;I)V" } : Jvm.MethodName) ({ cls := "StreamIds$Declaration", name := "begin", desc := "(LStreamIds$Text;I)V" } : Jvm.MethodName)) ∈ zzW := jw_of (i := 207) (by decide +kernel) (by decide +kernel)
theorem jw_208 : (Jvm.Cond.code ({ cls := "StreamIds$Declaration", name := "begin", desc := "(LStreamIds$Text;I)V" } : Jvm.MethodName) prog_2_method_2_code (3 : Nat) (Option.none : Option Jvm.ClassFile.FieldType)) ∈ zzW := jw_of (i := 208) (by decide +kernel) (by decide +kernel)
theorem jw_209 : (Jvm.Cond.methodLink "StreamIds$Declaration" (45 : Nat) ({ cls := "StreamIds$Text", name := "become", desc := "(LStreamIds$Text;)V" } : Jvm.MethodName)) ∈ zzW := jw_of (i := 209) (by decide +kernel) (by decide +kernel)
theorem jw_210 : (Jvm.Cond.instanceMethod ({ cls := "StreamIds$Text", name := "become", desc := "(LStreamIds$Text;)V" } : Jvm.MethodName)) ∈ zzW := jw_of (i := 210) (by decide +kernel) (by decide +kernel)
theorem jw_211 : (Jvm.Cond.selects "StreamIds$Text" ({ cls := "StreamIds$Text", name := "become", desc := "(LStreamIds$Text;)V" } : Jvm.MethodName) ({ cls := "StreamIds$Text", name := "become", desc := "(LStreamIds$Text;)V" } : Jvm.MethodName)) ∈ zzW := jw_of (i := 211) (by decide +kernel) (by decide +kernel)
theorem jw_212 : (Jvm.Cond.code ({ cls := "StreamIds$Text", name := "become", desc := "(LStreamIds$Text;)V" } : Jvm.MethodName) prog_8_method_4_code (2 : Nat) (Option.none : Option Jvm.ClassFile.FieldType)) ∈ zzW := jw_of (i := 212) (by decide +kernel) (by decide +kernel)
theorem jw_213 : (Jvm.Cond.methodLink "StreamIds$Text" (19 : Nat) ({ cls := "java/lang/System", name := "arraycopy", desc := "(Ljava/lang/Object;ILjava/lang/Object;II)V" } : Jvm.MethodName)) ∈ zzW := jw_of (i := 213) (by decide +kernel) (by decide +kernel)
theorem jw_214 : (Jvm.Cond.static ({ cls := "java/lang/System", name := "arraycopy", desc := "(Ljava/lang/Object;ILjava/lang/Object;II)V" } : Jvm.MethodName)) ∈ zzW := jw_of (i := 214) (by decide +kernel) (by decide +kernel)
theorem jw_215 : (Jvm.Cond.native ({ cls := "java/lang/System", name := "arraycopy", desc := "(Ljava/lang/Object;ILjava/lang/Object;II)V" } : Jvm.MethodName)) ∈ zzW := jw_of (i := 215) (by decide +kernel) (by decide +kernel)
theorem jw_216 : (Jvm.Cond.methodLink "StreamIdsLaw" (30 : Nat) ({ cls := "StreamIds", name := "face", desc := "(I)I" } : Jvm.MethodName)) ∈ zzW := jw_of (i := 216) (by decide +kernel) (by decide +kernel)
theorem jw_217 : (Jvm.Cond.instanceMethod ({ cls := "StreamIds", name := "face", desc := "(I)I" } : Jvm.MethodName)) ∈ zzW := jw_of (i := 217) (by decide +kernel) (by decide +kernel)
theorem jw_218 : (Jvm.Cond.selects "StreamIds" ({ cls := "StreamIds", name := "face", desc := "(I)I" } : Jvm.MethodName) ({ cls := "StreamIds", name := "face", desc := "(I)I" } : Jvm.MethodName)) ∈ zzW := jw_of (i := 218) (by decide +kernel) (by decide +kernel)
theorem jw_219 : (Jvm.Cond.code ({ cls := "StreamIds", name := "face", desc := "(I)I" } : Jvm.MethodName) prog_1_method_5_code (3 : Nat) (Option.some Jvm.ClassFile.FieldType.int)) ∈ zzW := jw_of (i := 219) (by decide +kernel) (by decide +kernel)
theorem jw_220 : (Jvm.Cond.methodLink "StreamIds" (69 : Nat) ({ cls := "StreamIds", name := "declarationOf", desc := "(I)LStreamIds$Declaration;" } : Jvm.MethodName)) ∈ zzW := jw_of (i := 220) (by decide +kernel) (by decide +kernel)
theorem jw_222 : (Jvm.Cond.instanceMethod ({ cls := "StreamIds", name := "declarationOf", desc := "(I)LStreamIds$Declaration;" } : Jvm.MethodName)) ∈ zzW := jw_of (i := 222) (by decide +kernel) (by decide +kernel)
theorem jw_223 : (Jvm.Cond.code ({ cls := "StreamIds", name := "declarationOf", desc := "(I)LStreamIds$Declaration;" } : Jvm.MethodName) prog_1_method_16_code (2 : Nat) (Option.some (Jvm.ClassFile.FieldType.object "StreamIds$Declaration"))) ∈ zzW := jw_of (i := 223) (by decide +kernel) (by decide +kernel)
theorem jw_224 : (Jvm.Cond.methodLink "StreamIds" (77 : Nat) ({ cls := "StreamIds$Row", name := "enter", desc := "(IILStreamIds$Text;LStreamIds$Text;)I" } : Jvm.MethodName)) ∈ zzW := jw_of (i := 224) (by decide +kernel) (by decide +kernel)
theorem jw_225 : (Jvm.Cond.instanceMethod ({ cls := "StreamIds$Row", name := "enter", desc := "(IILStreamIds$Text;LStreamIds$Text;)I" } : Jvm.MethodName)) ∈ zzW := jw_of (i := 225) (by decide +kernel) (by decide +kernel)
theorem jw_226 : (Jvm.Cond.selects "StreamIds$Row" ({ cls := "StreamIds$Row", name := "enter", desc := "(IILStreamIds$Text;LStreamIds$Text;)I" } : Jvm.MethodName) ({ cls := "StreamIds$Row", name := "enter", desc := "(IILStreamIds$Text;LStreamIds$Text;)I" } : Jvm.MethodName)) ∈ zzW := jw_of (i := 226) (by decide +kernel) (by decide +kernel)
theorem jw_227 : (Jvm.Cond.code ({ cls := "StreamIds$Row", name := "enter", desc := "(IILStreamIds$Text;LStreamIds$Text;)I" } : Jvm.MethodName) prog_6_method_2_code (8 : Nat) (Option.some Jvm.ClassFile.FieldType.int)) ∈ zzW := jw_of (i := 227) (by decide +kernel) (by decide +kernel)
theorem jw_228 : (Jvm.Cond.methodLink "StreamIds$Row" (22 : Nat) ({ cls := "StreamIds$Row", name := "placeOf", desc := "(ILStreamIds$Text;LStreamIds$Text;)I" } : Jvm.MethodName)) ∈ zzW := jw_of (i := 228) (by decide +kernel) (by decide +kernel)
theorem jw_230 : (Jvm.Cond.instanceMethod ({ cls := "StreamIds$Row", name := "placeOf", desc := "(ILStreamIds$Text;LStreamIds$Text;)I" } : Jvm.MethodName)) ∈ zzW := jw_of (i := 230) (by decide +kernel) (by decide +kernel)
theorem jw_231 : (Jvm.Cond.code ({ cls := "StreamIds$Row", name := "placeOf", desc := "(ILStreamIds$Text;LStreamIds$Text;)I" } : Jvm.MethodName) prog_6_method_5_code (5 : Nat) (Option.some Jvm.ClassFile.FieldType.int)) ∈ zzW := jw_of (i := 231) (by decide +kernel) (by decide +kernel)
theorem jw_232 : (Jvm.Cond.methodLink "StreamIds$Row" (37 : Nat) ({ cls := "StreamIds$Entry", name := "compareWith", desc := "(ILStreamIds$Text;LStreamIds$Text;)I" } : Jvm.MethodName)) ∈ zzW := jw_of (i := 232) (by decide +kernel) (by decide +kernel)
theorem jw_233 : (Jvm.Cond.instanceMethod ({ cls := "StreamIds$Entry", name := "compareWith", desc := "(ILStreamIds$Text;LStreamIds$Text;)I" } : Jvm.MethodName)) ∈ zzW := jw_of (i := 233) (by decide +kernel) (by decide +kernel)
theorem jw_234 : (Jvm.Cond.selects "StreamIds$Entry" ({ cls := "StreamIds$Entry", name := "compareWith", desc := "(ILStreamIds$Text;LStreamIds$Text;)I" } : Jvm.MethodName) ({ cls := "StreamIds$Entry", name := "compareWith", desc := "(ILStreamIds$Text;LStreamIds$Text;)I" } : Jvm.MethodName)) ∈ zzW := jw_of (i := 234) (by decide +kernel) (by decide +kernel)
theorem jw_235 : (Jvm.Cond.code ({ cls := "StreamIds$Entry", name := "compareWith", desc := "(ILStreamIds$Text;LStreamIds$Text;)I" } : Jvm.MethodName) prog_4_method_3_code (5 : Nat) (Option.some Jvm.ClassFile.FieldType.int)) ∈ zzW := jw_of (i := 235) (by decide +kernel) (by decide +kernel)
theorem jw_236 : (Jvm.Cond.methodLink "StreamIds$Entry" (32 : Nat) ({ cls := "StreamIds$Text", name := "compareWith", desc := "(LStreamIds$Text;)I" } : Jvm.MethodName)) ∈ zzW := jw_of (i := 236) (by decide +kernel) (by decide +kernel)
theorem jw_237 : (Jvm.Cond.instanceMethod ({ cls := "StreamIds$Text", name := "compareWith", desc := "(LStreamIds$Text;)I" } : Jvm.MethodName)) ∈ zzW := jw_of (i := 237) (by decide +kernel) (by decide +kernel)
theorem jw_238 : (Jvm.Cond.selects "StreamIds$Text" ({ cls := "StreamIds$Text", name := "compareWith", desc := "(LStreamIds$Text;)I" } : Jvm.MethodName) ({ cls := "StreamIds$Text", name := "compareWith", desc := "(LStreamIds$Text;)I" } : Jvm.MethodName)) ∈ zzW := jw_of (i := 238) (by decide +kernel) (by decide +kernel)
theorem jw_239 : (Jvm.Cond.code ({ cls := "StreamIds$Text", name := "compareWith", desc := "(LStreamIds$Text;)I" } : Jvm.MethodName) prog_8_method_5_code (4 : Nat) (Option.some Jvm.ClassFile.FieldType.int)) ∈ zzW := jw_of (i := 239) (by decide +kernel) (by decide +kernel)
theorem jw_240 : (Jvm.Cond.methodLink "StreamIds$Text" (25 : Nat) ({ cls := "java/lang/Math", name := "min", desc := "(II)I" } : Jvm.MethodName)) ∈ zzW := jw_of (i := 240) (by decide +kernel) (by decide +kernel)
theorem jw_241 : (Jvm.Cond.static ({ cls := "java/lang/Math", name := "min", desc := "(II)I" } : Jvm.MethodName)) ∈ zzW := jw_of (i := 241) (by decide +kernel) (by decide +kernel)
theorem jw_242 : (Jvm.Cond.code ({ cls := "java/lang/Math", name := "min", desc := "(II)I" } : Jvm.MethodName) prog_11_method_69_code (2 : Nat) (Option.some Jvm.ClassFile.FieldType.int)) ∈ zzW := jw_of (i := 242) (by decide +kernel) (by decide +kernel)
theorem jw_243 : (Jvm.Cond.methodLink "StreamIds$Row" (26 : Nat) ({ cls := "StreamIds$Row", name := "isAt", desc := "(IILStreamIds$Text;LStreamIds$Text;)Z" } : Jvm.MethodName)) ∈ zzW := jw_of (i := 243) (by decide +kernel) (by decide +kernel)
theorem jw_245 : (Jvm.Cond.instanceMethod ({ cls := "StreamIds$Row", name := "isAt", desc := "(IILStreamIds$Text;LStreamIds$Text;)Z" } : Jvm.MethodName)) ∈ zzW := jw_of (i := 245) (by decide +kernel) (by decide +kernel)
theorem jw_246 : (Jvm.Cond.code ({ cls := "StreamIds$Row", name := "isAt", desc := "(IILStreamIds$Text;LStreamIds$Text;)Z" } : Jvm.MethodName) prog_6_method_6_code (5 : Nat) (Option.some Jvm.ClassFile.FieldType.boolean)) ∈ zzW := jw_of (i := 246) (by decide +kernel) (by decide +kernel)
theorem jw_247 : (Jvm.Cond.methodLink "StreamIds$Row" (30 : Nat) ({ cls := "StreamIds$Entry", name := "become", desc := "(IILStreamIds$Text;LStreamIds$Text;)V" } : Jvm.MethodName)) ∈ zzW := jw_of (i := 247) (by decide +kernel) (by decide +kernel)
theorem jw_248 : (Jvm.Cond.instanceMethod ({ cls := "StreamIds$Entry", name := "become", desc := "(IILStreamIds$Text;LStreamIds$Text;)V" } : Jvm.MethodName)) ∈ zzW := jw_of (i := 248) (by decide +kernel) (by decide +kernel)
theorem jw_249 : (Jvm.Cond.selects "StreamIds$Entry" ({ cls := "StreamIds$Entry", name := "become", desc := "(IILStreamIds$Text;LStreamIds$Text;)V" } : Jvm.MethodName) ({ cls := "StreamIds$Entry", name := "become", desc := "(IILStreamIds$Text;LStreamIds$Text;)V" } : Jvm.MethodName)) ∈ zzW := jw_of (i := 249) (by decide +kernel) (by decide +kernel)
theorem jw_250 : (Jvm.Cond.code ({ cls := "StreamIds$Entry", name := "become", desc := "(IILStreamIds$Text;LStreamIds$Text;)V" } : Jvm.MethodName) prog_4_method_2_code (5 : Nat) (Option.none : Option Jvm.ClassFile.FieldType)) ∈ zzW := jw_of (i := 250) (by decide +kernel) (by decide +kernel)
theorem jw_251 : (Jvm.Cond.methodLink "StreamIds$Entry" (28 : Nat) ({ cls := "StreamIds$Text", name := "become", desc := "(LStreamIds$Text;)V" } : Jvm.MethodName)) ∈ zzW := jw_of (i := 251) (by decide +kernel) (by decide +kernel)
theorem jw_252 : (Jvm.Cond.methodLink "StreamIdsLaw" (34 : Nat) ({ cls := "StreamIds", name := "member", desc := "(III)I" } : Jvm.MethodName)) ∈ zzW := jw_of (i := 252) (by decide +kernel) (by decide +kernel)
theorem jw_253 : (Jvm.Cond.instanceMethod ({ cls := "StreamIds", name := "member", desc := "(III)I" } : Jvm.MethodName)) ∈ zzW := jw_of (i := 253) (by decide +kernel) (by decide +kernel)
theorem jw_254 : (Jvm.Cond.selects "StreamIds" ({ cls := "StreamIds", name := "member", desc := "(III)I" } : Jvm.MethodName) ({ cls := "StreamIds", name := "member", desc := "(III)I" } : Jvm.MethodName)) ∈ zzW := jw_of (i := 254) (by decide +kernel) (by decide +kernel)
theorem jw_255 : (Jvm.Cond.code ({ cls := "StreamIds", name := "member", desc := "(III)I" } : Jvm.MethodName) prog_1_method_6_code (5 : Nat) (Option.some Jvm.ClassFile.FieldType.int)) ∈ zzW := jw_of (i := 255) (by decide +kernel) (by decide +kernel)
theorem jw_256 : (Jvm.Cond.methodLink "StreamIds" (83 : Nat) ({ cls := "StreamIds", name := "isMemberKind", desc := "(I)Z" } : Jvm.MethodName)) ∈ zzW := jw_of (i := 256) (by decide +kernel) (by decide +kernel)
theorem jw_257 : (Jvm.Cond.static ({ cls := "StreamIds", name := "isMemberKind", desc := "(I)Z" } : Jvm.MethodName)) ∈ zzW := jw_of (i := 257) (by decide +kernel) (by decide +kernel)
theorem jw_258 : (Jvm.Cond.code ({ cls := "StreamIds", name := "isMemberKind", desc := "(I)Z" } : Jvm.MethodName) prog_1_method_17_code (1 : Nat) (Option.some Jvm.ClassFile.FieldType.boolean)) ∈ zzW := jw_of (i := 258) (by decide +kernel) (by decide +kernel)
theorem jw_259 : (Jvm.Cond.methodLink "StreamIds" (87 : Nat) ({ cls := "StreamIds", name := "isNameFor", desc := "(I)Z" } : Jvm.MethodName)) ∈ zzW := jw_of (i := 259) (by decide +kernel) (by decide +kernel)
theorem jw_261 : (Jvm.Cond.instanceMethod ({ cls := "StreamIds", name := "isNameFor", desc := "(I)Z" } : Jvm.MethodName)) ∈ zzW := jw_of (i := 261) (by decide +kernel) (by decide +kernel)
theorem jw_262 : (Jvm.Cond.code ({ cls := "StreamIds", name := "isNameFor", desc := "(I)Z" } : Jvm.MethodName) prog_1_method_18_code (2 : Nat) (Option.some Jvm.ClassFile.FieldType.boolean)) ∈ zzW := jw_of (i := 262) (by decide +kernel) (by decide +kernel)
theorem jw_263 : (Jvm.Cond.methodLink "StreamIds" (90 : Nat) ({ cls := "StreamIds", name := "isShapeFor", desc := "(I)Z" } : Jvm.MethodName)) ∈ zzW := jw_of (i := 263) (by decide +kernel) (by decide +kernel)
theorem jw_265 : (Jvm.Cond.instanceMethod ({ cls := "StreamIds", name := "isShapeFor", desc := "(I)Z" } : Jvm.MethodName)) ∈ zzW := jw_of (i := 265) (by decide +kernel) (by decide +kernel)
theorem jw_266 : (Jvm.Cond.code ({ cls := "StreamIds", name := "isShapeFor", desc := "(I)Z" } : Jvm.MethodName) prog_1_method_19_code (2 : Nat) (Option.some Jvm.ClassFile.FieldType.boolean)) ∈ zzW := jw_of (i := 266) (by decide +kernel) (by decide +kernel)
theorem jw_267 : (Jvm.Cond.methodLink "StreamIds" (146 : Nat) ({ cls := "StreamIds$Shapes", name := "isType", desc := "(LStreamIds$Text;)Z" } : Jvm.MethodName)) ∈ zzW := jw_of (i := 267) (by decide +kernel) (by decide +kernel)
theorem jw_268 : (Jvm.Cond.static ({ cls := "StreamIds$Shapes", name := "isType", desc := "(LStreamIds$Text;)Z" } : Jvm.MethodName)) ∈ zzW := jw_of (i := 268) (by decide +kernel) (by decide +kernel)
theorem jw_269 : (Jvm.Cond.code ({ cls := "StreamIds$Shapes", name := "isType", desc := "(LStreamIds$Text;)Z" } : Jvm.MethodName) prog_7_method_2_code (1 : Nat) (Option.some Jvm.ClassFile.FieldType.boolean)) ∈ zzW := jw_of (i := 269) (by decide +kernel) (by decide +kernel)
theorem jw_270 : (Jvm.Cond.methodLink "StreamIds$Shapes" (9 : Nat) ({ cls := "StreamIds$Shapes", name := "endOfType", desc := "(LStreamIds$Text;I)I" } : Jvm.MethodName)) ∈ zzW := jw_of (i := 270) (by decide +kernel) (by decide +kernel)
theorem jw_271 : (Jvm.Cond.static ({ cls := "StreamIds$Shapes", name := "endOfType", desc := "(LStreamIds$Text;I)I" } : Jvm.MethodName)) ∈ zzW := jw_of (i := 271) (by decide +kernel) (by decide +kernel)
theorem jw_272 : (Jvm.Cond.code ({ cls := "StreamIds$Shapes", name := "endOfType", desc := "(LStreamIds$Text;I)I" } : Jvm.MethodName) prog_7_method_5_code (3 : Nat) (Option.some Jvm.ClassFile.FieldType.int)) ∈ zzW := jw_of (i := 272) (by decide +kernel) (by decide +kernel)
theorem jw_273 : (Jvm.Cond.methodLink "StreamIds$Shapes" (21 : Nat) ({ cls := "StreamIds$Text", name := "at", desc := "(I)I" } : Jvm.MethodName)) ∈ zzW := jw_of (i := 273) (by decide +kernel) (by decide +kernel)
theorem jw_274 : (Jvm.Cond.instanceMethod ({ cls := "StreamIds$Text", name := "at", desc := "(I)I" } : Jvm.MethodName)) ∈ zzW := jw_of (i := 274) (by decide +kernel) (by decide +kernel)
theorem jw_275 : (Jvm.Cond.selects "StreamIds$Text" ({ cls := "StreamIds$Text", name := "at", desc := "(I)I" } : Jvm.MethodName) ({ cls := "StreamIds$Text", name := "at", desc := "(I)I" } : Jvm.MethodName)) ∈ zzW := jw_of (i := 275) (by decide +kernel) (by decide +kernel)
theorem jw_276 : (Jvm.Cond.code ({ cls := "StreamIds$Text", name := "at", desc := "(I)I" } : Jvm.MethodName) prog_8_method_2_code (2 : Nat) (Option.some Jvm.ClassFile.FieldType.int)) ∈ zzW := jw_of (i := 276) (by decide +kernel) (by decide +kernel)
theorem jw_277 : (Jvm.Cond.methodLink "StreamIds$Shapes" (28 : Nat) ({ cls := "StreamIds$Shapes", name := "endOfName", desc := "(LStreamIds$Text;I)I" } : Jvm.MethodName)) ∈ zzW := jw_of (i := 277) (by decide +kernel) (by decide +kernel)
theorem jw_278 : (Jvm.Cond.static ({ cls := "StreamIds$Shapes", name := "endOfName", desc := "(LStreamIds$Text;I)I" } : Jvm.MethodName)) ∈ zzW := jw_of (i := 278) (by decide +kernel) (by decide +kernel)
theorem jw_279 : (Jvm.Cond.code ({ cls := "StreamIds$Shapes", name := "endOfName", desc := "(LStreamIds$Text;I)I" } : Jvm.MethodName) prog_7_method_6_code (3 : Nat) (Option.some Jvm.ClassFile.FieldType.int)) ∈ zzW := jw_of (i := 279) (by decide +kernel) (by decide +kernel)
theorem jw_280 : (Jvm.Cond.methodLink "StreamIds$Shapes" (35 : Nat) ({ cls := "StreamIds$Shapes", name := "mayStandInName", desc := "(I)Z" } : Jvm.MethodName)) ∈ zzW := jw_of (i := 280) (by decide +kernel) (by decide +kernel)
theorem jw_281 : (Jvm.Cond.static ({ cls := "StreamIds$Shapes", name := "mayStandInName", desc := "(I)Z" } : Jvm.MethodName)) ∈ zzW := jw_of (i := 281) (by decide +kernel) (by decide +kernel)
theorem jw_282 : (Jvm.Cond.code ({ cls := "StreamIds$Shapes", name := "mayStandInName", desc := "(I)Z" } : Jvm.MethodName) prog_7_method_8_code (1 : Nat) (Option.some Jvm.ClassFile.FieldType.boolean)) ∈ zzW := jw_of (i := 282) (by decide +kernel) (by decide +kernel)
theorem jw_283 : (Jvm.Cond.methodLink "StreamIds$Shapes" (31 : Nat) ({ cls := "StreamIds$Shapes", name := "isSimple", desc := "(I)Z" } : Jvm.MethodName)) ∈ zzW := jw_of (i := 283) (by decide +kernel) (by decide +kernel)
theorem jw_284 : (Jvm.Cond.static ({ cls := "StreamIds$Shapes", name := "isSimple", desc := "(I)Z" } : Jvm.MethodName)) ∈ zzW := jw_of (i := 284) (by decide +kernel) (by decide +kernel)
theorem jw_285 : (Jvm.Cond.code ({ cls := "StreamIds$Shapes", name := "isSimple", desc := "(I)Z" } : Jvm.MethodName) prog_7_method_7_code (1 : Nat) (Option.some Jvm.ClassFile.FieldType.boolean)) ∈ zzW := jw_of (i := 285) (by decide +kernel) (by decide +kernel)
theorem jw_286 : (Jvm.Cond.methodLink "StreamIds" (152 : Nat) ({ cls := "StreamIds$Shapes", name := "isMethod", desc := "(LStreamIds$Text;)Z" } : Jvm.MethodName)) ∈ zzW := jw_of (i := 286) (by decide +kernel) (by decide +kernel)
theorem jw_287 : (Jvm.Cond.static ({ cls := "StreamIds$Shapes", name := "isMethod", desc := "(LStreamIds$Text;)Z" } : Jvm.MethodName)) ∈ zzW := jw_of (i := 287) (by decide +kernel) (by decide +kernel)
theorem jw_288 : (Jvm.Cond.code ({ cls := "StreamIds$Shapes", name := "isMethod", desc := "(LStreamIds$Text;)Z" } : Jvm.MethodName) prog_7_method_3_code (4 : Nat) (Option.some Jvm.ClassFile.FieldType.boolean)) ∈ zzW := jw_of (i := 288) (by decide +kernel) (by decide +kernel)
theorem jw_289 : (Jvm.Cond.methodLink "StreamIds$Shapes" (25 : Nat) ({ cls := "StreamIds$Shapes", name := "endOfTypes", desc := "(LStreamIds$Text;I)I" } : Jvm.MethodName)) ∈ zzW := jw_of (i := 289) (by decide +kernel) (by decide +kernel)
theorem jw_290 : (Jvm.Cond.static ({ cls := "StreamIds$Shapes", name := "endOfTypes", desc := "(LStreamIds$Text;I)I" } : Jvm.MethodName)) ∈ zzW := jw_of (i := 290) (by decide +kernel) (by decide +kernel)
theorem jw_291 : (Jvm.Cond.code ({ cls := "StreamIds$Shapes", name := "endOfTypes", desc := "(LStreamIds$Text;I)I" } : Jvm.MethodName) prog_7_method_4_code (4 : Nat) (Option.some Jvm.ClassFile.FieldType.int)) ∈ zzW := jw_of (i := 291) (by decide +kernel) (by decide +kernel)
theorem jw_292 : (Jvm.Cond.methodLink "StreamIds" (155 : Nat) ({ cls := "StreamIds$Text", name := "at", desc := "(I)I" } : Jvm.MethodName)) ∈ zzW := jw_of (i := 292) (by decide +kernel) (by decide +kernel)
theorem jw_293 : (Jvm.Cond.methodLink "StreamIdsLaw" (39 : Nat) ({ cls := "StreamIds", name := "remove", desc := "(II)I" } : Jvm.MethodName)) ∈ zzW := jw_of (i := 293) (by decide +kernel) (by decide +kernel)
theorem jw_294 : (Jvm.Cond.instanceMethod ({ cls := "StreamIds", name := "remove", desc := "(II)I" } : Jvm.MethodName)) ∈ zzW := jw_of (i := 294) (by decide +kernel) (by decide +kernel)
theorem jw_295 : (Jvm.Cond.selects "StreamIds" ({ cls := "StreamIds", name := "remove", desc := "(II)I" } : Jvm.MethodName) ({ cls := "StreamIds", name := "remove", desc := "(II)I" } : Jvm.MethodName)) ∈ zzW := jw_of (i := 295) (by decide +kernel) (by decide +kernel)
theorem jw_296 : (Jvm.Cond.code ({ cls := "StreamIds", name := "remove", desc := "(II)I" } : Jvm.MethodName) prog_1_method_7_code (4 : Nat) (Option.some Jvm.ClassFile.FieldType.int)) ∈ zzW := jw_of (i := 296) (by decide +kernel) (by decide +kernel)
theorem jw_297 : (Jvm.Cond.methodLink "StreamIds" (96 : Nat) ({ cls := "StreamIds$Row", name := "takeOut", desc := "(ILStreamIds$Text;LStreamIds$Text;)I" } : Jvm.MethodName)) ∈ zzW := jw_of (i := 297) (by decide +kernel) (by decide +kernel)
theorem jw_298 : (Jvm.Cond.instanceMethod ({ cls := "StreamIds$Row", name := "takeOut", desc := "(ILStreamIds$Text;LStreamIds$Text;)I" } : Jvm.MethodName)) ∈ zzW := jw_of (i := 298) (by decide +kernel) (by decide +kernel)
theorem jw_299 : (Jvm.Cond.selects "StreamIds$Row" ({ cls := "StreamIds$Row", name := "takeOut", desc := "(ILStreamIds$Text;LStreamIds$Text;)I" } : Jvm.MethodName) ({ cls := "StreamIds$Row", name := "takeOut", desc := "(ILStreamIds$Text;LStreamIds$Text;)I" } : Jvm.MethodName)) ∈ zzW := jw_of (i := 299) (by decide +kernel) (by decide +kernel)
theorem jw_300 : (Jvm.Cond.code ({ cls := "StreamIds$Row", name := "takeOut", desc := "(ILStreamIds$Text;LStreamIds$Text;)I" } : Jvm.MethodName) prog_6_method_3_code (7 : Nat) (Option.some Jvm.ClassFile.FieldType.int)) ∈ zzW := jw_of (i := 300) (by decide +kernel) (by decide +kernel)
theorem jw_301 : (Jvm.Cond.methodLink "StreamIdsLaw" (43 : Nat) ({ cls := "StreamIds", name := "declare", desc := "(IZJ)I" } : Jvm.MethodName)) ∈ zzW := jw_of (i := 301) (by decide +kernel) (by decide +kernel)
theorem jw_302 : (Jvm.Cond.instanceMethod ({ cls := "StreamIds", name := "declare", desc := "(IZJ)I" } : Jvm.MethodName)) ∈ zzW := jw_of (i := 302) (by decide +kernel) (by decide +kernel)
theorem jw_303 : (Jvm.Cond.selects "StreamIds" ({ cls := "StreamIds", name := "declare", desc := "(IZJ)I" } : Jvm.MethodName) ({ cls := "StreamIds", name := "declare", desc := "(IZJ)I" } : Jvm.MethodName)) ∈ zzW := jw_of (i := 303) (by decide +kernel) (by decide +kernel)
theorem jw_304 : (Jvm.Cond.code ({ cls := "StreamIds", name := "declare", desc := "(IZJ)I" } : Jvm.MethodName) prog_1_method_8_code (6 : Nat) (Option.some Jvm.ClassFile.FieldType.int)) ∈ zzW := jw_of (i := 304) (by decide +kernel) (by decide +kernel)
theorem jw_305 : (Jvm.Cond.methodLink "StreamIdsLaw" (48 : Nat) ({ cls := "StreamIds", name := "id", desc := "(I)J" } : Jvm.MethodName)) ∈ zzW := jw_of (i := 305) (by decide +kernel) (by decide +kernel)
theorem jw_306 : (Jvm.Cond.instanceMethod ({ cls := "StreamIds", name := "id", desc := "(I)J" } : Jvm.MethodName)) ∈ zzW := jw_of (i := 306) (by decide +kernel) (by decide +kernel)
theorem jw_307 : (Jvm.Cond.selects "StreamIds" ({ cls := "StreamIds", name := "id", desc := "(I)J" } : Jvm.MethodName) ({ cls := "StreamIds", name := "id", desc := "(I)J" } : Jvm.MethodName)) ∈ zzW := jw_of (i := 307) (by decide +kernel) (by decide +kernel)
theorem jw_308 : (Jvm.Cond.code ({ cls := "StreamIds", name := "id", desc := "(I)J" } : Jvm.MethodName) prog_1_method_9_code (3 : Nat) (Option.some Jvm.ClassFile.FieldType.long)) ∈ zzW := jw_of (i := 308) (by decide +kernel) (by decide +kernel)
theorem jw_309 : (Jvm.Cond.constantLong "StreamIds" (108 : Nat) (-9000000000000000001 : Int64)) ∈ zzW := jw_of (i := 309) (by decide +kernel) (by decide +kernel)
theorem jw_310 : (Jvm.Cond.methodLink "StreamIds" (113 : Nat) ({ cls := "StreamIds$Layout", name := "write", desc := "(LStreamIds$Declaration;)V" } : Jvm.MethodName)) ∈ zzW := jw_of (i := 310) (by decide +kernel) (by decide +kernel)
theorem jw_311 : (Jvm.Cond.instanceMethod ({ cls := "StreamIds$Layout", name := "write", desc := "(LStreamIds$Declaration;)V" } : Jvm.MethodName)) ∈ zzW := jw_of (i := 311) (by decide +kernel) (by decide +kernel)
theorem jw_312 : (Jvm.Cond.selects "StreamIds$Layout" ({ cls := "StreamIds$Layout", name := "write", desc := "(LStreamIds$Declaration;)V" } : Jvm.MethodName) ({ cls := "StreamIds$Layout", name := "write", desc := "(LStreamIds$Declaration;)V" } : Jvm.MethodName)) ∈ zzW := jw_of (i := 312) (by decide +kernel) (by decide +kernel)
theorem jw_313 : (Jvm.Cond.code ({ cls := "StreamIds$Layout", name := "write", desc := "(LStreamIds$Declaration;)V" } : Jvm.MethodName) prog_5_method_2_code (2 : Nat) (Option.none : Option Jvm.ClassFile.FieldType)) ∈ zzW := jw_of (i := 313) (by decide +kernel) (by decide +kernel)
theorem jw_314 : (Jvm.Cond.methodLink "StreamIds$Layout" (29 : Nat) ({ cls := "StreamIds$Layout", name := "putText", desc := "(LStreamIds$Text;)V" } : Jvm.MethodName)) ∈ zzW := jw_of (i := 314) (by decide +kernel) (by decide +kernel)
theorem jw_316 : (Jvm.Cond.instanceMethod ({ cls := "StreamIds$Layout", name := "putText", desc := "(LStreamIds$Text;)V" } : Jvm.MethodName)) ∈ zzW := jw_of (i := 316) (by decide +kernel) (by decide +kernel)
theorem jw_317 : (Jvm.Cond.code ({ cls := "StreamIds$Layout", name := "putText", desc := "(LStreamIds$Text;)V" } : Jvm.MethodName) prog_5_method_6_code (3 : Nat) (Option.none : Option Jvm.ClassFile.FieldType)) ∈ zzW := jw_of (i := 317) (by decide +kernel) (by decide +kernel)
theorem jw_318 : (Jvm.Cond.methodLink "StreamIds$Layout" (95 : Nat) ({ cls := "StreamIds$Layout", name := "putLength", desc := "(I)V" } : Jvm.MethodName)) ∈ zzW := jw_of (i := 318) (by decide +kernel) (by decide +kernel)
theorem jw_320 : (Jvm.Cond.instanceMethod ({ cls := "StreamIds$Layout", name := "putLength", desc := "(I)V" } : Jvm.MethodName)) ∈ zzW := jw_of (i := 320) (by decide +kernel) (by decide +kernel)
theorem jw_321 : (Jvm.Cond.code ({ cls := "StreamIds$Layout", name := "putLength", desc := "(I)V" } : Jvm.MethodName) prog_5_method_9_code (2 : Nat) (Option.none : Option Jvm.ClassFile.FieldType)) ∈ zzW := jw_of (i := 321) (by decide +kernel) (by decide +kernel)
theorem jw_322 : (Jvm.Cond.methodLink "StreamIds$Layout" (102 : Nat) ({ cls := "StreamIds$Layout", name := "put", desc := "(I)V" } : Jvm.MethodName)) ∈ zzW := jw_of (i := 322) (by decide +kernel) (by decide +kernel)
theorem jw_324 : (Jvm.Cond.instanceMethod ({ cls := "StreamIds$Layout", name := "put", desc := "(I)V" } : Jvm.MethodName)) ∈ zzW := jw_of (i := 324) (by decide +kernel) (by decide +kernel)
theorem jw_325 : (Jvm.Cond.code ({ cls := "StreamIds$Layout", name := "put", desc := "(I)V" } : Jvm.MethodName) prog_5_method_11_code (2 : Nat) (Option.none : Option Jvm.ClassFile.FieldType)) ∈ zzW := jw_of (i := 325) (by decide +kernel) (by decide +kernel)
theorem jw_326 : (Jvm.Cond.methodLink "StreamIds$Layout" (98 : Nat) ({ cls := "StreamIds$Text", name := "at", desc := "(I)I" } : Jvm.MethodName)) ∈ zzW := jw_of (i := 326) (by decide +kernel) (by decide +kernel)
theorem jw_327 : (Jvm.Cond.methodLink "StreamIds$Layout" (33 : Nat) ({ cls := "StreamIds$Declaration", name := "hashedModifiers", desc := "()I" } : Jvm.MethodName)) ∈ zzW := jw_of (i := 327) (by decide +kernel) (by decide +kernel)
theorem jw_328 : (Jvm.Cond.instanceMethod ({ cls := "StreamIds$Declaration", name := "hashedModifiers", desc := "()I" } : Jvm.MethodName)) ∈ zzW := jw_of (i := 328) (by decide +kernel) (by decide +kernel)
theorem jw_329 : (Jvm.Cond.selects "StreamIds$Declaration" ({ cls := "StreamIds$Declaration", name := "hashedModifiers", desc := "()I" } : Jvm.MethodName) ({ cls := "StreamIds$Declaration", name := "hashedModifiers", desc := "()I" } : Jvm.MethodName)) ∈ zzW := jw_of (i := 329) (by decide +kernel) (by decide +kernel)
theorem jw_330 : (Jvm.Cond.code ({ cls := "StreamIds$Declaration", name := "hashedModifiers", desc := "()I" } : Jvm.MethodName) prog_2_method_3_code (2 : Nat) (Option.some Jvm.ClassFile.FieldType.int)) ∈ zzW := jw_of (i := 330) (by decide +kernel) (by decide +kernel)
theorem jw_331 : (Jvm.Cond.methodLink "StreamIds$Declaration" (52 : Nat) ({ cls := "StreamIds$Row", name := "tally", desc := "(I)I" } : Jvm.MethodName)) ∈ zzW := jw_of (i := 331) (by decide +kernel) (by decide +kernel)
theorem jw_332 : (Jvm.Cond.instanceMethod ({ cls := "StreamIds$Row", name := "tally", desc := "(I)I" } : Jvm.MethodName)) ∈ zzW := jw_of (i := 332) (by decide +kernel) (by decide +kernel)
theorem jw_333 : (Jvm.Cond.selects "StreamIds$Row" ({ cls := "StreamIds$Row", name := "tally", desc := "(I)I" } : Jvm.MethodName) ({ cls := "StreamIds$Row", name := "tally", desc := "(I)I" } : Jvm.MethodName)) ∈ zzW := jw_of (i := 333) (by decide +kernel) (by decide +kernel)
theorem jw_334 : (Jvm.Cond.code ({ cls := "StreamIds$Row", name := "tally", desc := "(I)I" } : Jvm.MethodName) prog_6_method_4_code (4 : Nat) (Option.some Jvm.ClassFile.FieldType.int)) ∈ zzW := jw_of (i := 334) (by decide +kernel) (by decide +kernel)
theorem jw_335 : (Jvm.Cond.methodLink "StreamIds$Layout" (37 : Nat) ({ cls := "StreamIds$Layout", name := "putNumber", desc := "(I)V" } : Jvm.MethodName)) ∈ zzW := jw_of (i := 335) (by decide +kernel) (by decide +kernel)
theorem jw_337 : (Jvm.Cond.instanceMethod ({ cls := "StreamIds$Layout", name := "putNumber", desc := "(I)V" } : Jvm.MethodName)) ∈ zzW := jw_of (i := 337) (by decide +kernel) (by decide +kernel)
theorem jw_338 : (Jvm.Cond.code ({ cls := "StreamIds$Layout", name := "putNumber", desc := "(I)V" } : Jvm.MethodName) prog_5_method_10_code (2 : Nat) (Option.none : Option Jvm.ClassFile.FieldType)) ∈ zzW := jw_of (i := 338) (by decide +kernel) (by decide +kernel)
theorem jw_339 : (Jvm.Cond.methodLink "StreamIds$Layout" (45 : Nat) ({ cls := "StreamIds$Layout", name := "putAll", desc := "(LStreamIds$Row;I)V" } : Jvm.MethodName)) ∈ zzW := jw_of (i := 339) (by decide +kernel) (by decide +kernel)
theorem jw_341 : (Jvm.Cond.instanceMethod ({ cls := "StreamIds$Layout", name := "putAll", desc := "(LStreamIds$Row;I)V" } : Jvm.MethodName)) ∈ zzW := jw_of (i := 341) (by decide +kernel) (by decide +kernel)
theorem jw_342 : (Jvm.Cond.code ({ cls := "StreamIds$Layout", name := "putAll", desc := "(LStreamIds$Row;I)V" } : Jvm.MethodName) prog_5_method_4_code (5 : Nat) (Option.none : Option Jvm.ClassFile.FieldType)) ∈ zzW := jw_of (i := 342) (by decide +kernel) (by decide +kernel)
theorem jw_343 : (Jvm.Cond.methodLink "StreamIds$Layout" (66 : Nat) ({ cls := "StreamIds$Entry", name := "isHashed", desc := "()Z" } : Jvm.MethodName)) ∈ zzW := jw_of (i := 343) (by decide +kernel) (by decide +kernel)
theorem jw_344 : (Jvm.Cond.instanceMethod ({ cls := "StreamIds$Entry", name := "isHashed", desc := "()Z" } : Jvm.MethodName)) ∈ zzW := jw_of (i := 344) (by decide +kernel) (by decide +kernel)
theorem jw_345 : (Jvm.Cond.selects "StreamIds$Entry" ({ cls := "StreamIds$Entry", name := "isHashed", desc := "()Z" } : Jvm.MethodName) ({ cls := "StreamIds$Entry", name := "isHashed", desc := "()Z" } : Jvm.MethodName)) ∈ zzW := jw_of (i := 345) (by decide +kernel) (by decide +kernel)
theorem jw_346 : (Jvm.Cond.code ({ cls := "StreamIds$Entry", name := "isHashed", desc := "()Z" } : Jvm.MethodName) prog_4_method_5_code (1 : Nat) (Option.some Jvm.ClassFile.FieldType.boolean)) ∈ zzW := jw_of (i := 346) (by decide +kernel) (by decide +kernel)
theorem jw_347 : (Jvm.Cond.methodLink "StreamIds$Entry" (36 : Nat) ({ cls := "StreamIds$Entry", name := "has", desc := "(I)Z" } : Jvm.MethodName)) ∈ zzW := jw_of (i := 347) (by decide +kernel) (by decide +kernel)
theorem jw_348 : (Jvm.Cond.instanceMethod ({ cls := "StreamIds$Entry", name := "has", desc := "(I)Z" } : Jvm.MethodName)) ∈ zzW := jw_of (i := 348) (by decide +kernel) (by decide +kernel)
theorem jw_349 : (Jvm.Cond.selects "StreamIds$Entry" ({ cls := "StreamIds$Entry", name := "has", desc := "(I)Z" } : Jvm.MethodName) ({ cls := "StreamIds$Entry", name := "has", desc := "(I)Z" } : Jvm.MethodName)) ∈ zzW := jw_of (i := 349) (by decide +kernel) (by decide +kernel)
theorem jw_350 : (Jvm.Cond.code ({ cls := "StreamIds$Entry", name := "has", desc := "(I)Z" } : Jvm.MethodName) prog_4_method_4_code (2 : Nat) (Option.some Jvm.ClassFile.FieldType.boolean)) ∈ zzW := jw_of (i := 350) (by decide +kernel) (by decide +kernel)
theorem jw_351 : (Jvm.Cond.methodLink "StreamIds$Layout" (70 : Nat) ({ cls := "StreamIds$Layout", name := "putEntry", desc := "(LStreamIds$Entry;)V" } : Jvm.MethodName)) ∈ zzW := jw_of (i := 351) (by decide +kernel) (by decide +kernel)
theorem jw_353 : (Jvm.Cond.instanceMethod ({ cls := "StreamIds$Layout", name := "putEntry", desc := "(LStreamIds$Entry;)V" } : Jvm.MethodName)) ∈ zzW := jw_of (i := 353) (by decide +kernel) (by decide +kernel)
theorem jw_354 : (Jvm.Cond.code ({ cls := "StreamIds$Layout", name := "putEntry", desc := "(LStreamIds$Entry;)V" } : Jvm.MethodName) prog_5_method_5_code (2 : Nat) (Option.none : Option Jvm.ClassFile.FieldType)) ∈ zzW := jw_of (i := 354) (by decide +kernel) (by decide +kernel)
theorem jw_356 : (Jvm.Cond.methodLink "StreamIds$Layout" (83 : Nat) ({ cls := "StreamIds$Layout", name := "putConstant", desc := "(Ljava/lang/String;)V" } : Jvm.MethodName)) ∈ zzW := jw_of (i := 356) (by decide +kernel) (by decide +kernel)
theorem jw_358 : (Jvm.Cond.instanceMethod ({ cls := "StreamIds$Layout", name := "putConstant", desc := "(Ljava/lang/String;)V" } : Jvm.MethodName)) ∈ zzW := jw_of (i := 358) (by decide +kernel) (by decide +kernel)
theorem jw_359 : (Jvm.Cond.code ({ cls := "StreamIds$Layout", name := "putConstant", desc := "(Ljava/lang/String;)V" } : Jvm.MethodName) prog_5_method_8_code (3 : Nat) (Option.none : Option Jvm.ClassFile.FieldType)) ∈ zzW := jw_of (i := 359) (by decide +kernel) (by decide +kernel)
theorem jw_360 : (Jvm.Cond.methodLink "StreamIds$Layout" (105 : Nat) ({ cls := "java/lang/String", name := "length", desc := "()I" } : Jvm.MethodName)) ∈ zzW := jw_of (i := 360) (by decide +kernel) (by decide +kernel)
theorem jw_361 : (Jvm.Cond.instanceMethod ({ cls := "java/lang/String", name := "length", desc := "()I" } : Jvm.MethodName)) ∈ zzW := jw_of (i := 361) (by decide +kernel) (by decide +kernel)
theorem jw_362 : (Jvm.Cond.selects "java/lang/String" ({ cls := "java/lang/String", name := "length", desc := "()I" } : Jvm.MethodName) ({ cls := "java/lang/String", name := "length", desc := "()I" } : Jvm.MethodName)) ∈ zzW := jw_of (i := 362) (by decide +kernel) (by decide +kernel)
theorem jw_363 : (Jvm.Cond.code ({ cls := "java/lang/String", name := "length", desc := "()I" } : Jvm.MethodName) prog_12_method_54_code (1 : Nat) (Option.some Jvm.ClassFile.FieldType.int)) ∈ zzW := jw_of (i := 363) (by decide +kernel) (by decide +kernel)
theorem jw_364 : (Jvm.Cond.methodLink "java/lang/String" (335 : Nat) ({ cls := "java/lang/String", name := "coder", desc := "()B" } : Jvm.MethodName)) ∈ zzW := jw_of (i := 364) (by decide +kernel) (by decide +kernel)
theorem jw_365 : (Jvm.Cond.instanceMethod ({ cls := "java/lang/String", name := "coder", desc := "()B" } : Jvm.MethodName)) ∈ zzW := jw_of (i := 365) (by decide +kernel) (by decide +kernel)
theorem jw_366 : (Jvm.Cond.selects "java/lang/String" ({ cls := "java/lang/String", name := "coder", desc := "()B" } : Jvm.MethodName) ({ cls := "java/lang/String", name := "coder", desc := "()B" } : Jvm.MethodName)) ∈ zzW := jw_of (i := 366) (by decide +kernel) (by decide +kernel)
theorem jw_367 : (Jvm.Cond.code ({ cls := "java/lang/String", name := "coder", desc := "()B" } : Jvm.MethodName) prog_12_method_152_code (1 : Nat) (Option.some Jvm.ClassFile.FieldType.byte)) ∈ zzW := jw_of (i := 367) (by decide +kernel) (by decide +kernel)
theorem jw_368 : (Jvm.Cond.fieldLink "java/lang/String" (38 : Nat) "java/lang/String" "COMPACT_STRINGS" "Z") ∈ zzW := jw_of (i := 368) (by decide +kernel) (by decide +kernel)
theorem jw_370 : (Jvm.Cond.methodLink "StreamIds$Layout" (109 : Nat) ({ cls := "java/lang/String", name := "charAt", desc := "(I)C" } : Jvm.MethodName)) ∈ zzW := jw_of (i := 370) (by decide +kernel) (by decide +kernel)
theorem jw_371 : (Jvm.Cond.instanceMethod ({ cls := "java/lang/String", name := "charAt", desc := "(I)C" } : Jvm.MethodName)) ∈ zzW := jw_of (i := 371) (by decide +kernel) (by decide +kernel)
theorem jw_372 : (Jvm.Cond.selects "java/lang/String" ({ cls := "java/lang/String", name := "charAt", desc := "(I)C" } : Jvm.MethodName) ({ cls := "java/lang/String", name := "charAt", desc := "(I)C" } : Jvm.MethodName)) ∈ zzW := jw_of (i := 372) (by decide +kernel) (by decide +kernel)
theorem jw_373 : (Jvm.Cond.code ({ cls := "java/lang/String", name := "charAt", desc := "(I)C" } : Jvm.MethodName) prog_12_method_56_code (2 : Nat) (Option.some Jvm.ClassFile.FieldType.char)) ∈ zzW := jw_of (i := 373) (by decide +kernel) (by decide +kernel)
theorem jw_374 : (Jvm.Cond.methodLink "java/lang/String" (492 : Nat) ({ cls := "java/lang/String", name := "isLatin1", desc := "()Z" } : Jvm.MethodName)) ∈ zzW := jw_of (i := 374) (by decide +kernel) (by decide +kernel)
theorem jw_375 : (Jvm.Cond.instanceMethod ({ cls := "java/lang/String", name := "isLatin1", desc := "()Z" } : Jvm.MethodName)) ∈ zzW := jw_of (i := 375) (by decide +kernel) (by decide +kernel)
theorem jw_376 : (Jvm.Cond.selects "java/lang/String" ({ cls := "java/lang/String", name := "isLatin1", desc := "()Z" } : Jvm.MethodName) ({ cls := "java/lang/String", name := "isLatin1", desc := "()Z" } : Jvm.MethodName)) ∈ zzW := jw_of (i := 376) (by decide +kernel) (by decide +kernel)
theorem jw_377 : (Jvm.Cond.code ({ cls := "java/lang/String", name := "isLatin1", desc := "()Z" } : Jvm.MethodName) prog_12_method_154_code (1 : Nat) (Option.some Jvm.ClassFile.FieldType.boolean)) ∈ zzW := jw_of (i := 377) (by decide +kernel) (by decide +kernel)
theorem jw_378 : (Jvm.Cond.methodLink "java/lang/String" (495 : Nat) ({ cls := "java/lang/StringLatin1", name := "charAt", desc := "([BI)C" } : Jvm.MethodName)) ∈ zzW := jw_of (i := 378) (by decide +kernel) (by decide +kernel)
theorem jw_379 : (Jvm.Cond.static ({ cls := "java/lang/StringLatin1", name := "charAt", desc := "([BI)C" } : Jvm.MethodName)) ∈ zzW := jw_of (i := 379) (by decide +kernel) (by decide +kernel)
theorem jw_380 : (Jvm.Cond.code ({ cls := "java/lang/StringLatin1", name := "charAt", desc := "([BI)C" } : Jvm.MethodName) prog_13_method_2_code (2 : Nat) (Option.some Jvm.ClassFile.FieldType.char)) ∈ zzW := jw_of (i := 380) (by decide +kernel) (by decide +kernel)
theorem jw_381 : (Jvm.Cond.methodLink "java/lang/StringLatin1" (9 : Nat) ({ cls := "java/lang/String", name := "checkIndex", desc := "(II)V" } : Jvm.MethodName)) ∈ zzW := jw_of (i := 381) (by decide +kernel) (by decide +kernel)
theorem jw_382 : (Jvm.Cond.static ({ cls := "java/lang/String", name := "checkIndex", desc := "(II)V" } : Jvm.MethodName)) ∈ zzW := jw_of (i := 382) (by decide +kernel) (by decide +kernel)
theorem jw_383 : (Jvm.Cond.code ({ cls := "java/lang/String", name := "checkIndex", desc := "(II)V" } : Jvm.MethodName) prog_12_method_155_code (2 : Nat) (Option.none : Option Jvm.ClassFile.FieldType)) ∈ zzW := jw_of (i := 383) (by decide +kernel) (by decide +kernel)
theorem jw_384 : (Jvm.Cond.fieldLink "java/lang/String" (1053 : Nat) "jdk/internal/util/Preconditions" "SIOOBE_FORMATTER" "Ljava/util/function/BiFunction;") ∈ zzW := jw_of (i := 384) (by decide +kernel) (by decide +kernel)
theorem jw_386 : (Jvm.Cond.methodLink "java/lang/String" (1059 : Nat) ({ cls := "jdk/internal/util/Preconditions", name := "checkIndex", desc := "(IILjava/util/function/BiFunction;)I" } : Jvm.MethodName)) ∈ zzW := jw_of (i := 386) (by decide +kernel) (by decide +kernel)
theorem jw_387 : (Jvm.Cond.static ({ cls := "jdk/internal/util/Preconditions", name := "checkIndex", desc := "(IILjava/util/function/BiFunction;)I" } : Jvm.MethodName)) ∈ zzW := jw_of (i := 387) (by decide +kernel) (by decide +kernel)
theorem jw_388 : (Jvm.Cond.code ({ cls := "jdk/internal/util/Preconditions", name := "checkIndex", desc := "(IILjava/util/function/BiFunction;)I" } : Jvm.MethodName) prog_16_method_11_code (3 : Nat) (Option.some Jvm.ClassFile.FieldType.int)) ∈ zzW := jw_of (i := 388) (by decide +kernel) (by decide +kernel)
theorem jw_389 : (Jvm.Cond.methodLink "java/lang/String" (498 : Nat) ({ cls := "java/lang/StringUTF16", name := "charAt", desc := "([BI)C" } : Jvm.MethodName)) ∈ zzW := jw_of (i := 389) (by decide +kernel) (by decide +kernel)
theorem jw_390 : (Jvm.Cond.static ({ cls := "java/lang/StringUTF16", name := "charAt", desc := "([BI)C" } : Jvm.MethodName)) ∈ zzW := jw_of (i := 390) (by decide +kernel) (by decide +kernel)
theorem jw_391 : (Jvm.Cond.code ({ cls := "java/lang/StringUTF16", name := "charAt", desc := "([BI)C" } : Jvm.MethodName) prog_14_method_83_code (2 : Nat) (Option.some Jvm.ClassFile.FieldType.char)) ∈ zzW := jw_of (i := 391) (by decide +kernel) (by decide +kernel)
theorem jw_392 : (Jvm.Cond.methodLink "java/lang/StringUTF16" (67 : Nat) ({ cls := "java/lang/StringUTF16", name := "checkIndex", desc := "(I[B)V" } : Jvm.MethodName)) ∈ zzW := jw_of (i := 392) (by decide +kernel) (by decide +kernel)
theorem jw_393 : (Jvm.Cond.static ({ cls := "java/lang/StringUTF16", name := "checkIndex", desc := "(I[B)V" } : Jvm.MethodName)) ∈ zzW := jw_of (i := 393) (by decide +kernel) (by decide +kernel)
theorem jw_394 : (Jvm.Cond.code ({ cls := "java/lang/StringUTF16", name := "checkIndex", desc := "(I[B)V" } : Jvm.MethodName) prog_14_method_91_code (2 : Nat) (Option.none : Option Jvm.ClassFile.FieldType)) ∈ zzW := jw_of (i := 394) (by decide +kernel) (by decide +kernel)
theorem jw_395 : (Jvm.Cond.methodLink "java/lang/StringUTF16" (48 : Nat) ({ cls := "java/lang/StringUTF16", name := "length", desc := "([B)I" } : Jvm.MethodName)) ∈ zzW := jw_of (i := 395) (by decide +kernel) (by decide +kernel)
theorem jw_396 : (Jvm.Cond.static ({ cls := "java/lang/StringUTF16", name := "length", desc := "([B)I" } : Jvm.MethodName)) ∈ zzW := jw_of (i := 396) (by decide +kernel) (by decide +kernel)
theorem jw_397 : (Jvm.Cond.code ({ cls := "java/lang/StringUTF16", name := "length", desc := "([B)I" } : Jvm.MethodName) prog_14_method_6_code (1 : Nat) (Option.some Jvm.ClassFile.FieldType.int)) ∈ zzW := jw_of (i := 397) (by decide +kernel) (by decide +kernel)
theorem jw_398 : (Jvm.Cond.methodLink "java/lang/StringUTF16" (414 : Nat) ({ cls := "java/lang/String", name := "checkIndex", desc := "(II)V" } : Jvm.MethodName)) ∈ zzW := jw_of (i := 398) (by decide +kernel) (by decide +kernel)
theorem jw_399 : (Jvm.Cond.methodLink "java/lang/StringUTF16" (71 : Nat) ({ cls := "java/lang/StringUTF16", name := "getChar", desc := "([BI)C" } : Jvm.MethodName)) ∈ zzW := jw_of (i := 399) (by decide +kernel) (by decide +kernel)
theorem jw_400 : (Jvm.Cond.static ({ cls := "java/lang/StringUTF16", name := "getChar", desc := "([BI)C" } : Jvm.MethodName)) ∈ zzW := jw_of (i := 400) (by decide +kernel) (by decide +kernel)
theorem jw_401 : (Jvm.Cond.code ({ cls := "java/lang/StringUTF16", name := "getChar", desc := "([BI)C" } : Jvm.MethodName) prog_14_method_5_code (2 : Nat) (Option.some Jvm.ClassFile.FieldType.char)) ∈ zzW := jw_of (i := 401) (by decide +kernel) (by decide +kernel)
theorem jw_402 : (Jvm.Cond.fieldLink "java/lang/StringUTF16" (44 : Nat) "java/lang/StringUTF16" "$assertionsDisabled" "Z") ∈ zzW := jw_of (i := 402) (by decide +kernel) (by decide +kernel)
theorem jw_404 : (Jvm.Cond.fieldLink "java/lang/StringUTF16" (59 : Nat) "java/lang/StringUTF16" "HI_BYTE_SHIFT" "I") ∈ zzW := jw_of (i := 404) (by decide +kernel) (by decide +kernel)
theorem jw_406 : (Jvm.Cond.fieldLink "java/lang/StringUTF16" (63 : Nat) "java/lang/StringUTF16" "LO_BYTE_SHIFT" "I") ∈ zzW := jw_of (i := 406) (by decide +kernel) (by decide +kernel)
theorem jw_410 : (Jvm.Cond.methodLink "StreamIds$Layout" (89 : Nat) ({ cls := "StreamIds$Layout", name := "putDotted", desc := "(LStreamIds$Text;)V" } : Jvm.MethodName)) ∈ zzW := jw_of (i := 410) (by decide +kernel) (by decide +kernel)
theorem jw_412 : (Jvm.Cond.instanceMethod ({ cls := "StreamIds$Layout", name := "putDotted", desc := "(LStreamIds$Text;)V" } : Jvm.MethodName)) ∈ zzW := jw_of (i := 412) (by decide +kernel) (by decide +kernel)
theorem jw_413 : (Jvm.Cond.code ({ cls := "StreamIds$Layout", name := "putDotted", desc := "(LStreamIds$Text;)V" } : Jvm.MethodName) prog_5_method_7_code (3 : Nat) (Option.none : Option Jvm.ClassFile.FieldType)) ∈ zzW := jw_of (i := 413) (by decide +kernel) (by decide +kernel)
theorem jw_414 : (Jvm.Cond.methodLink "StreamIds" (117 : Nat) ({ cls := "StreamIds$Digest", name := "take", desc := "(LStreamIds$Layout;)V" } : Jvm.MethodName)) ∈ zzW := jw_of (i := 414) (by decide +kernel) (by decide +kernel)
theorem jw_415 : (Jvm.Cond.instanceMethod ({ cls := "StreamIds$Digest", name := "take", desc := "(LStreamIds$Layout;)V" } : Jvm.MethodName)) ∈ zzW := jw_of (i := 415) (by decide +kernel) (by decide +kernel)
theorem jw_416 : (Jvm.Cond.selects "StreamIds$Digest" ({ cls := "StreamIds$Digest", name := "take", desc := "(LStreamIds$Layout;)V" } : Jvm.MethodName) ({ cls := "StreamIds$Digest", name := "take", desc := "(LStreamIds$Layout;)V" } : Jvm.MethodName)) ∈ zzW := jw_of (i := 416) (by decide +kernel) (by decide +kernel)
theorem jw_417 : (Jvm.Cond.code ({ cls := "StreamIds$Digest", name := "take", desc := "(LStreamIds$Layout;)V" } : Jvm.MethodName) prog_3_method_2_code (4 : Nat) (Option.none : Option Jvm.ClassFile.FieldType)) ∈ zzW := jw_of (i := 417) (by decide +kernel) (by decide +kernel)
theorem jw_420 : (Jvm.Cond.methodLink "StreamIds$Digest" (21 : Nat) ({ cls := "java/lang/System", name := "arraycopy", desc := "(Ljava/lang/Object;ILjava/lang/Object;II)V" } : Jvm.MethodName)) ∈ zzW := jw_of (i := 420) (by decide +kernel) (by decide +kernel)
theorem jw_421 : (Jvm.Cond.methodLink "StreamIds$Digest" (33 : Nat) ({ cls := "StreamIds$Digest", name := "fillWords", desc := "(LStreamIds$Layout;II)V" } : Jvm.MethodName)) ∈ zzW := jw_of (i := 421) (by decide +kernel) (by decide +kernel)
theorem jw_423 : (Jvm.Cond.instanceMethod ({ cls := "StreamIds$Digest", name := "fillWords", desc := "(LStreamIds$Layout;II)V" } : Jvm.MethodName)) ∈ zzW := jw_of (i := 423) (by decide +kernel) (by decide +kernel)
theorem jw_424 : (Jvm.Cond.code ({ cls := "StreamIds$Digest", name := "fillWords", desc := "(LStreamIds$Layout;II)V" } : Jvm.MethodName) prog_3_method_4_code (7 : Nat) (Option.none : Option Jvm.ClassFile.FieldType)) ∈ zzW := jw_of (i := 424) (by decide +kernel) (by decide +kernel)
theorem jw_425 : (Jvm.Cond.methodLink "StreamIds$Digest" (46 : Nat) ({ cls := "StreamIds$Digest", name := "paddedAt", desc := "(LStreamIds$Layout;II)I" } : Jvm.MethodName)) ∈ zzW := jw_of (i := 425) (by decide +kernel) (by decide +kernel)
theorem jw_426 : (Jvm.Cond.static ({ cls := "StreamIds$Digest", name := "paddedAt", desc := "(LStreamIds$Layout;II)I" } : Jvm.MethodName)) ∈ zzW := jw_of (i := 426) (by decide +kernel) (by decide +kernel)
theorem jw_427 : (Jvm.Cond.code ({ cls := "StreamIds$Digest", name := "paddedAt", desc := "(LStreamIds$Layout;II)I" } : Jvm.MethodName) prog_3_method_5_code (4 : Nat) (Option.some Jvm.ClassFile.FieldType.int)) ∈ zzW := jw_of (i := 427) (by decide +kernel) (by decide +kernel)
theorem jw_428 : (Jvm.Cond.methodLink "StreamIds$Digest" (54 : Nat) ({ cls := "StreamIds$Layout", name := "at", desc := "(I)I" } : Jvm.MethodName)) ∈ zzW := jw_of (i := 428) (by decide +kernel) (by decide +kernel)
theorem jw_429 : (Jvm.Cond.instanceMethod ({ cls := "StreamIds$Layout", name := "at", desc := "(I)I" } : Jvm.MethodName)) ∈ zzW := jw_of (i := 429) (by decide +kernel) (by decide +kernel)
theorem jw_430 : (Jvm.Cond.selects "StreamIds$Layout" ({ cls := "StreamIds$Layout", name := "at", desc := "(I)I" } : Jvm.MethodName) ({ cls := "StreamIds$Layout", name := "at", desc := "(I)I" } : Jvm.MethodName)) ∈ zzW := jw_of (i := 430) (by decide +kernel) (by decide +kernel)
theorem jw_431 : (Jvm.Cond.code ({ cls := "StreamIds$Layout", name := "at", desc := "(I)I" } : Jvm.MethodName) prog_5_method_3_code (2 : Nat) (Option.some Jvm.ClassFile.FieldType.int)) ∈ zzW := jw_of (i := 431) (by decide +kernel) (by decide +kernel)
theorem jw_432 : (Jvm.Cond.methodLink "StreamIds$Digest" (50 : Nat) ({ cls := "StreamIds$Digest", name := "turned", desc := "(II)I" } : Jvm.MethodName)) ∈ zzW := jw_of (i := 432) (by decide +kernel) (by decide +kernel)
theorem jw_433 : (Jvm.Cond.static ({ cls := "StreamIds$Digest", name := "turned", desc := "(II)I" } : Jvm.MethodName)) ∈ zzW := jw_of (i := 433) (by decide +kernel) (by decide +kernel)
theorem jw_434 : (Jvm.Cond.code ({ cls := "StreamIds$Digest", name := "turned", desc := "(II)I" } : Jvm.MethodName) prog_3_method_8_code (2 : Nat) (Option.some Jvm.ClassFile.FieldType.int)) ∈ zzW := jw_of (i := 434) (by decide +kernel) (by decide +kernel)
theorem jw_435 : (Jvm.Cond.methodLink "StreamIds$Digest" (37 : Nat) ({ cls := "StreamIds$Digest", name := "mixWords", desc := "()V" } : Jvm.MethodName)) ∈ zzW := jw_of (i := 435) (by decide +kernel) (by decide +kernel)
theorem jw_437 : (Jvm.Cond.instanceMethod ({ cls := "StreamIds$Digest", name := "mixWords", desc := "()V" } : Jvm.MethodName)) ∈ zzW := jw_of (i := 437) (by decide +kernel) (by decide +kernel)
theorem jw_438 : (Jvm.Cond.code ({ cls := "StreamIds$Digest", name := "mixWords", desc := "()V" } : Jvm.MethodName) prog_3_method_6_code (8 : Nat) (Option.none : Option Jvm.ClassFile.FieldType)) ∈ zzW := jw_of (i := 438) (by decide +kernel) (by decide +kernel)
theorem jw_439 : (Jvm.Cond.methodLink "StreamIds$Digest" (57 : Nat) ({ cls := "StreamIds$Digest", name := "chosen", desc := "(IIII)I" } : Jvm.MethodName)) ∈ zzW := jw_of (i := 439) (by decide +kernel) (by decide +kernel)
theorem jw_440 : (Jvm.Cond.static ({ cls := "StreamIds$Digest", name := "chosen", desc := "(IIII)I" } : Jvm.MethodName)) ∈ zzW := jw_of (i := 440) (by decide +kernel) (by decide +kernel)
theorem jw_441 : (Jvm.Cond.code ({ cls := "StreamIds$Digest", name := "chosen", desc := "(IIII)I" } : Jvm.MethodName) prog_3_method_7_code (4 : Nat) (Option.some Jvm.ClassFile.FieldType.int)) ∈ zzW := jw_of (i := 441) (by decide +kernel) (by decide +kernel)
theorem jw_444 : (Jvm.Cond.methodLink "StreamIds" (121 : Nat) ({ cls := "StreamIds$Digest", name := "firstEightReversed", desc := "()J" } : Jvm.MethodName)) ∈ zzW := jw_of (i := 444) (by decide +kernel) (by decide +kernel)
theorem jw_445 : (Jvm.Cond.instanceMethod ({ cls := "StreamIds$Digest", name := "firstEightReversed", desc := "()J" } : Jvm.MethodName)) ∈ zzW := jw_of (i := 445) (by decide +kernel) (by decide +kernel)
theorem jw_446 : (Jvm.Cond.selects "StreamIds$Digest" ({ cls := "StreamIds$Digest", name := "firstEightReversed", desc := "()J" } : Jvm.MethodName) ({ cls := "StreamIds$Digest", name := "firstEightReversed", desc := "()J" } : Jvm.MethodName)) ∈ zzW := jw_of (i := 446) (by decide +kernel) (by decide +kernel)
theorem jw_447 : (Jvm.Cond.code ({ cls := "StreamIds$Digest", name := "firstEightReversed", desc := "()J" } : Jvm.MethodName) prog_3_method_3_code (5 : Nat) (Option.some Jvm.ClassFile.FieldType.long)) ∈ zzW := jw_of (i := 447) (by decide +kernel) (by decide +kernel)
theorem jw_448 : (Jvm.Cond.methodLink "StreamIds$Digest" (40 : Nat) ({ cls := "StreamIds$Digest", name := "reversed", desc := "(I)I" } : Jvm.MethodName)) ∈ zzW := jw_of (i := 448) (by decide +kernel) (by decide +kernel)
theorem jw_449 : (Jvm.Cond.static ({ cls := "StreamIds$Digest", name := "reversed", desc := "(I)I" } : Jvm.MethodName)) ∈ zzW := jw_of (i := 449) (by decide +kernel) (by decide +kernel)
theorem jw_450 : (Jvm.Cond.code ({ cls := "StreamIds$Digest", name := "reversed", desc := "(I)I" } : Jvm.MethodName) prog_3_method_9_code (1 : Nat) (Option.some Jvm.ClassFile.FieldType.int)) ∈ zzW := jw_of (i := 450) (by decide +kernel) (by decide +kernel)
theorem jw_451 : (Jvm.Cond.constant "StreamIds$Digest" (64 : Nat) (65280 : Int32)) ∈ zzW := jw_of (i := 451) (by decide +kernel) (by decide +kernel)
theorem jw_452 : (Jvm.Cond.constantLong "StreamIds$Digest" (44 : Nat) (4294967295 : Int64)) ∈ zzW := jw_of (i := 452) (by decide +kernel) (by decide +kernel)
theorem jw_453 : (Jvm.Cond.methodLink "StreamIdsLaw" (53 : Nat) ({ cls := "StreamIds", name := "hash", desc := "(II)J" } : Jvm.MethodName)) ∈ zzW := jw_of (i := 453) (by decide +kernel) (by decide +kernel)
theorem jw_454 : (Jvm.Cond.instanceMethod ({ cls := "StreamIds", name := "hash", desc := "(II)J" } : Jvm.MethodName)) ∈ zzW := jw_of (i := 454) (by decide +kernel) (by decide +kernel)
theorem jw_455 : (Jvm.Cond.selects "StreamIds" ({ cls := "StreamIds", name := "hash", desc := "(II)J" } : Jvm.MethodName) ({ cls := "StreamIds", name := "hash", desc := "(II)J" } : Jvm.MethodName)) ∈ zzW := jw_of (i := 455) (by decide +kernel) (by decide +kernel)
theorem jw_456 : (Jvm.Cond.code ({ cls := "StreamIds", name := "hash", desc := "(II)J" } : Jvm.MethodName) prog_1_method_10_code (4 : Nat) (Option.some Jvm.ClassFile.FieldType.long)) ∈ zzW := jw_of (i := 456) (by decide +kernel) (by decide +kernel)
theorem jw_457 : (Jvm.Cond.methodLink "StreamIdsLaw" (58 : Nat) ({ cls := "StreamIds", name := "size", desc := "(I)I" } : Jvm.MethodName)) ∈ zzW := jw_of (i := 457) (by decide +kernel) (by decide +kernel)
theorem jw_458 : (Jvm.Cond.instanceMethod ({ cls := "StreamIds", name := "size", desc := "(I)I" } : Jvm.MethodName)) ∈ zzW := jw_of (i := 458) (by decide +kernel) (by decide +kernel)
theorem jw_459 : (Jvm.Cond.selects "StreamIds" ({ cls := "StreamIds", name := "size", desc := "(I)I" } : Jvm.MethodName) ({ cls := "StreamIds", name := "size", desc := "(I)I" } : Jvm.MethodName)) ∈ zzW := jw_of (i := 459) (by decide +kernel) (by decide +kernel)
theorem jw_460 : (Jvm.Cond.code ({ cls := "StreamIds", name := "size", desc := "(I)I" } : Jvm.MethodName) prog_1_method_11_code (3 : Nat) (Option.some Jvm.ClassFile.FieldType.int)) ∈ zzW := jw_of (i := 460) (by decide +kernel) (by decide +kernel)
theorem jw_461 : (Jvm.Cond.methodLink "StreamIdsLaw" (62 : Nat) ({ cls := "StreamIds", name := "byteAt", desc := "(II)I" } : Jvm.MethodName)) ∈ zzW := jw_of (i := 461) (by decide +kernel) (by decide +kernel)
theorem jw_462 : (Jvm.Cond.instanceMethod ({ cls := "StreamIds", name := "byteAt", desc := "(II)I" } : Jvm.MethodName)) ∈ zzW := jw_of (i := 462) (by decide +kernel) (by decide +kernel)
theorem jw_463 : (Jvm.Cond.selects "StreamIds" ({ cls := "StreamIds", name := "byteAt", desc := "(II)I" } : Jvm.MethodName) ({ cls := "StreamIds", name := "byteAt", desc := "(II)I" } : Jvm.MethodName)) ∈ zzW := jw_of (i := 463) (by decide +kernel) (by decide +kernel)
theorem jw_464 : (Jvm.Cond.code ({ cls := "StreamIds", name := "byteAt", desc := "(II)I" } : Jvm.MethodName) prog_1_method_12_code (4 : Nat) (Option.some Jvm.ClassFile.FieldType.int)) ∈ zzW := jw_of (i := 464) (by decide +kernel) (by decide +kernel)
theorem jw_465 : (Jvm.Cond.methodLink "StreamIds" (130 : Nat) ({ cls := "StreamIds$Layout", name := "at", desc := "(I)I" } : Jvm.MethodName)) ∈ zzW := jw_of (i := 465) (by decide +kernel) (by decide +kernel)
theorem jw_466 : (Jvm.Cond.methodLink "StreamIdsLaw" (66 : Nat) ({ cls := "StreamIds", name := "part", desc := "(II)I" } : Jvm.MethodName)) ∈ zzW := jw_of (i := 466) (by decide +kernel) (by decide +kernel)
theorem jw_467 : (Jvm.Cond.instanceMethod ({ cls := "StreamIds", name := "part", desc := "(II)I" } : Jvm.MethodName)) ∈ zzW := jw_of (i := 467) (by decide +kernel) (by decide +kernel)
theorem jw_468 : (Jvm.Cond.selects "StreamIds" ({ cls := "StreamIds", name := "part", desc := "(II)I" } : Jvm.MethodName) ({ cls := "StreamIds", name := "part", desc := "(II)I" } : Jvm.MethodName)) ∈ zzW := jw_of (i := 468) (by decide +kernel) (by decide +kernel)
theorem jw_469 : (Jvm.Cond.code ({ cls := "StreamIds", name := "part", desc := "(II)I" } : Jvm.MethodName) prog_1_method_13_code (4 : Nat) (Option.some Jvm.ClassFile.FieldType.int)) ∈ zzW := jw_of (i := 469) (by decide +kernel) (by decide +kernel)
theorem jw_470 : (Jvm.Cond.methodLink "StreamIdsLaw" (70 : Nat) ({ cls := "StreamIds", name := "count", desc := "(II)I" } : Jvm.MethodName)) ∈ zzW := jw_of (i := 470) (by decide +kernel) (by decide +kernel)
theorem jw_471 : (Jvm.Cond.instanceMethod ({ cls := "StreamIds", name := "count", desc := "(II)I" } : Jvm.MethodName)) ∈ zzW := jw_of (i := 471) (by decide +kernel) (by decide +kernel)
theorem jw_472 : (Jvm.Cond.selects "StreamIds" ({ cls := "StreamIds", name := "count", desc := "(II)I" } : Jvm.MethodName) ({ cls := "StreamIds", name := "count", desc := "(II)I" } : Jvm.MethodName)) ∈ zzW := jw_of (i := 472) (by decide +kernel) (by decide +kernel)
theorem jw_473 : (Jvm.Cond.code ({ cls := "StreamIds", name := "count", desc := "(II)I" } : Jvm.MethodName) prog_1_method_14_code (4 : Nat) (Option.some Jvm.ClassFile.FieldType.int)) ∈ zzW := jw_of (i := 473) (by decide +kernel) (by decide +kernel)
theorem jw_474 : (Jvm.Cond.methodLink "StreamIds" (140 : Nat) ({ cls := "StreamIds$Row", name := "tally", desc := "(I)I" } : Jvm.MethodName)) ∈ zzW := jw_of (i := 474) (by decide +kernel) (by decide +kernel)
theorem jw_475 : (Jvm.Cond.classLink "StreamIdsLaw" (10 : Nat) "StreamIdsModel") ∈ zzW := jw_of (i := 475) (by decide +kernel) (by decide +kernel)
theorem jw_476 : (Jvm.Cond.instantiable "StreamIdsModel" (17 : Nat)) ∈ zzW := jw_of (i := 476) (by decide +kernel) (by decide +kernel)
theorem jw_477 : (Jvm.Cond.methodLink "StreamIdsLaw" (12 : Nat) ({ cls := "StreamIdsModel", name := "<init>", desc := "()V" } : Jvm.MethodName)) ∈ zzW := jw_of (i := 477) (by decide +kernel) (by decide +kernel)
theorem jw_478 : (Jvm.Cond.instanceMethod ({ cls := "StreamIdsModel", name := "<init>", desc := "()V" } : Jvm.MethodName)) ∈ zzW := jw_of (i := 478) (by decide +kernel) (by decide +kernel)
theorem jw_479 : (Jvm.Cond.code ({ cls := "StreamIdsModel", name := "<init>", desc := "()V" } : Jvm.MethodName) prog_10_method_1_code (1 : Nat) (Option.none : Option Jvm.ClassFile.FieldType)) ∈ zzW := jw_of (i := 479) (by decide +kernel) (by decide +kernel)
theorem jw_480 : (Jvm.Cond.methodLink "StreamIdsModel" (1 : Nat) ({ cls := "java/lang/Object", name := "<init>", desc := "()V" } : Jvm.MethodName)) ∈ zzW := jw_of (i := 480) (by decide +kernel) (by decide +kernel)
theorem jw_481 : (Jvm.Cond.fieldLink "StreamIdsModel" (7 : Nat) "StreamIdsModel" "sign" "[I") ∈ zzW := jw_of (i := 481) (by decide +kernel) (by decide +kernel)
theorem jw_482 : (Jvm.Cond.fieldLink "StreamIdsModel" (13 : Nat) "StreamIdsModel" "length" "[I") ∈ zzW := jw_of (i := 482) (by decide +kernel) (by decide +kernel)
theorem jw_483 : (Jvm.Cond.fieldLink "StreamIdsModel" (16 : Nat) "StreamIdsModel" "there" "[Z") ∈ zzW := jw_of (i := 483) (by decide +kernel) (by decide +kernel)
theorem jw_484 : (Jvm.Cond.fieldLink "StreamIdsModel" (20 : Nat) "StreamIdsModel" "modifiers" "[I") ∈ zzW := jw_of (i := 484) (by decide +kernel) (by decide +kernel)
theorem jw_485 : (Jvm.Cond.fieldLink "StreamIdsModel" (23 : Nat) "StreamIdsModel" "faces" "[I") ∈ zzW := jw_of (i := 485) (by decide +kernel) (by decide +kernel)
theorem jw_486 : (Jvm.Cond.fieldLink "StreamIdsModel" (26 : Nat) "StreamIdsModel" "members" "[I") ∈ zzW := jw_of (i := 486) (by decide +kernel) (by decide +kernel)
theorem jw_487 : (Jvm.Cond.fieldLink "StreamIdsModel" (29 : Nat) "StreamIdsModel" "declared" "[Z") ∈ zzW := jw_of (i := 487) (by decide +kernel) (by decide +kernel)
theorem jw_488 : (Jvm.Cond.fieldLink "StreamIdsModel" (32 : Nat) "StreamIdsModel" "given" "[J") ∈ zzW := jw_of (i := 488) (by decide +kernel) (by decide +kernel)
theorem jw_489 : (Jvm.Cond.fieldLink "StreamIdsModel" (36 : Nat) "StreamIdsModel" "kind" "[I") ∈ zzW := jw_of (i := 489) (by decide +kernel) (by decide +kernel)
theorem jw_490 : (Jvm.Cond.fieldLink "StreamIdsModel" (39 : Nat) "StreamIdsModel" "flags" "[I") ∈ zzW := jw_of (i := 490) (by decide +kernel) (by decide +kernel)
theorem jw_491 : (Jvm.Cond.fieldLink "StreamIdsModel" (42 : Nat) "StreamIdsModel" "bytes" "[I") ∈ zzW := jw_of (i := 491) (by decide +kernel) (by decide +kernel)
theorem jw_492 : (Jvm.Cond.fieldLink "StreamIdsModel" (92 : Nat) "StreamIdsModel" "size" "I") ∈ zzW := jw_of (i := 492) (by decide +kernel) (by decide +kernel)
theorem jw_493 : (Jvm.Cond.fieldLink "StreamIdsModel" (45 : Nat) "StreamIdsModel" "part" "[I") ∈ zzW := jw_of (i := 493) (by decide +kernel) (by decide +kernel)
theorem jw_494 : (Jvm.Cond.fieldLink "StreamIdsModel" (48 : Nat) "StreamIdsModel" "h" "[I") ∈ zzW := jw_of (i := 494) (by decide +kernel) (by decide +kernel)
theorem jw_495 : (Jvm.Cond.fieldLink "StreamIdsModel" (51 : Nat) "StreamIdsModel" "w" "[I") ∈ zzW := jw_of (i := 495) (by decide +kernel) (by decide +kernel)
theorem jw_496 : (Jvm.Cond.fieldLink "StreamIdsModel" (62 : Nat) "StreamIdsModel" "at" "I") ∈ zzW := jw_of (i := 496) (by decide +kernel) (by decide +kernel)
theorem jw_497 : (Jvm.Cond.fieldLink "StreamIdsModel" (58 : Nat) "StreamIdsModel" "end" "I") ∈ zzW := jw_of (i := 497) (by decide +kernel) (by decide +kernel)
theorem jw_498 : (Jvm.Cond.laysFinal "StreamIdsModel" "StreamIdsModel" "sign" "[I") ∈ zzW := jw_of (i := 498) (by decide +kernel) (by decide +kernel)
theorem jw_500 : (Jvm.Cond.laysFinal "StreamIdsModel" "StreamIdsModel" "length" "[I") ∈ zzW := jw_of (i := 500) (by decide +kernel) (by decide +kernel)
theorem jw_502 : (Jvm.Cond.laysFinal "StreamIdsModel" "StreamIdsModel" "there" "[Z") ∈ zzW := jw_of (i := 502) (by decide +kernel) (by decide +kernel)
theorem jw_504 : (Jvm.Cond.laysFinal "StreamIdsModel" "StreamIdsModel" "modifiers" "[I") ∈ zzW := jw_of (i := 504) (by decide +kernel) (by decide +kernel)
theorem jw_506 : (Jvm.Cond.laysFinal "StreamIdsModel" "StreamIdsModel" "faces" "[I") ∈ zzW := jw_of (i := 506) (by decide +kernel) (by decide +kernel)
theorem jw_508 : (Jvm.Cond.laysFinal "StreamIdsModel" "StreamIdsModel" "members" "[I") ∈ zzW := jw_of (i := 508) (by decide +kernel) (by decide +kernel)
theorem jw_510 : (Jvm.Cond.laysFinal "StreamIdsModel" "StreamIdsModel" "declared" "[Z") ∈ zzW := jw_of (i := 510) (by decide +kernel) (by decide +kernel)
theorem jw_512 : (Jvm.Cond.laysFinal "StreamIdsModel" "StreamIdsModel" "given" "[J") ∈ zzW := jw_of (i := 512) (by decide +kernel) (by decide +kernel)
theorem jw_514 : (Jvm.Cond.laysFinal "StreamIdsModel" "StreamIdsModel" "kind" "[I") ∈ zzW := jw_of (i := 514) (by decide +kernel) (by decide +kernel)
theorem jw_516 : (Jvm.Cond.laysFinal "StreamIdsModel" "StreamIdsModel" "flags" "[I") ∈ zzW := jw_of (i := 516) (by decide +kernel) (by decide +kernel)
theorem jw_518 : (Jvm.Cond.laysFinal "StreamIdsModel" "StreamIdsModel" "bytes" "[I") ∈ zzW := jw_of (i := 518) (by decide +kernel) (by decide +kernel)
theorem jw_520 : (Jvm.Cond.lays "StreamIdsModel" "StreamIdsModel" "size" "I") ∈ zzW := jw_of (i := 520) (by decide +kernel) (by decide +kernel)
theorem jw_522 : (Jvm.Cond.laysFinal "StreamIdsModel" "StreamIdsModel" "part" "[I") ∈ zzW := jw_of (i := 522) (by decide +kernel) (by decide +kernel)
theorem jw_524 : (Jvm.Cond.laysFinal "StreamIdsModel" "StreamIdsModel" "h" "[I") ∈ zzW := jw_of (i := 524) (by decide +kernel) (by decide +kernel)
theorem jw_526 : (Jvm.Cond.laysFinal "StreamIdsModel" "StreamIdsModel" "w" "[I") ∈ zzW := jw_of (i := 526) (by decide +kernel) (by decide +kernel)
theorem jw_528 : (Jvm.Cond.lays "StreamIdsModel" "StreamIdsModel" "at" "I") ∈ zzW := jw_of (i := 528) (by decide +kernel) (by decide +kernel)
theorem jw_530 : (Jvm.Cond.lays "StreamIdsModel" "StreamIdsModel" "end" "I") ∈ zzW := jw_of (i := 530) (by decide +kernel) (by decide +kernel)
theorem jw_533 : (Jvm.Cond.arrayClass Jvm.ClassFile.FieldType.boolean) ∈ zzW := jw_of (i := 533) (by decide +kernel) (by decide +kernel)
theorem jw_534 : (Jvm.Cond.arrayClass Jvm.ClassFile.FieldType.long) ∈ zzW := jw_of (i := 534) (by decide +kernel) (by decide +kernel)
theorem jw_535 : (Jvm.Cond.methodLink "StreamIdsLaw" (19 : Nat) ({ cls := "StreamIdsModel", name := "type", desc := "(IJ)I" } : Jvm.MethodName)) ∈ zzW := jw_of (i := 535) (by decide +kernel) (by decide +kernel)
theorem jw_536 : (Jvm.Cond.instanceMethod ({ cls := "StreamIdsModel", name := "type", desc := "(IJ)I" } : Jvm.MethodName)) ∈ zzW := jw_of (i := 536) (by decide +kernel) (by decide +kernel)
theorem jw_537 : (Jvm.Cond.selects "StreamIdsModel" ({ cls := "StreamIdsModel", name := "type", desc := "(IJ)I" } : Jvm.MethodName) ({ cls := "StreamIdsModel", name := "type", desc := "(IJ)I" } : Jvm.MethodName)) ∈ zzW := jw_of (i := 537) (by decide +kernel) (by decide +kernel)
theorem jw_538 : (Jvm.Cond.code ({ cls := "StreamIdsModel", name := "type", desc := "(IJ)I" } : Jvm.MethodName) prog_10_method_4_code (7 : Nat) (Option.some Jvm.ClassFile.FieldType.int)) ∈ zzW := jw_of (i := 538) (by decide +kernel) (by decide +kernel)
theorem jw_539 : (Jvm.Cond.methodLink "StreamIdsModel" (54 : Nat) ({ cls := "StreamIdsModel", name := "out", desc := "(II)Z" } : Jvm.MethodName)) ∈ zzW := jw_of (i := 539) (by decide +kernel) (by decide +kernel)
theorem jw_541 : (Jvm.Cond.instanceMethod ({ cls := "StreamIdsModel", name := "out", desc := "(II)Z" } : Jvm.MethodName)) ∈ zzW := jw_of (i := 541) (by decide +kernel) (by decide +kernel)
theorem jw_542 : (Jvm.Cond.code ({ cls := "StreamIdsModel", name := "out", desc := "(II)Z" } : Jvm.MethodName) prog_10_method_2_code (3 : Nat) (Option.some Jvm.ClassFile.FieldType.boolean)) ∈ zzW := jw_of (i := 542) (by decide +kernel) (by decide +kernel)
theorem jw_543 : (Jvm.Cond.methodLink "StreamIdsLaw" (24 : Nat) ({ cls := "StreamIdsModel", name := "clear", desc := "(I)I" } : Jvm.MethodName)) ∈ zzW := jw_of (i := 543) (by decide +kernel) (by decide +kernel)
theorem jw_544 : (Jvm.Cond.instanceMethod ({ cls := "StreamIdsModel", name := "clear", desc := "(I)I" } : Jvm.MethodName)) ∈ zzW := jw_of (i := 544) (by decide +kernel) (by decide +kernel)
theorem jw_545 : (Jvm.Cond.selects "StreamIdsModel" ({ cls := "StreamIdsModel", name := "clear", desc := "(I)I" } : Jvm.MethodName) ({ cls := "StreamIdsModel", name := "clear", desc := "(I)I" } : Jvm.MethodName)) ∈ zzW := jw_of (i := 545) (by decide +kernel) (by decide +kernel)
theorem jw_546 : (Jvm.Cond.code ({ cls := "StreamIdsModel", name := "clear", desc := "(I)I" } : Jvm.MethodName) prog_10_method_5_code (3 : Nat) (Option.some Jvm.ClassFile.FieldType.int)) ∈ zzW := jw_of (i := 546) (by decide +kernel) (by decide +kernel)
theorem jw_547 : (Jvm.Cond.methodLink "StreamIdsLaw" (29 : Nat) ({ cls := "StreamIdsModel", name := "define", desc := "(II)I" } : Jvm.MethodName)) ∈ zzW := jw_of (i := 547) (by decide +kernel) (by decide +kernel)
theorem jw_548 : (Jvm.Cond.instanceMethod ({ cls := "StreamIdsModel", name := "define", desc := "(II)I" } : Jvm.MethodName)) ∈ zzW := jw_of (i := 548) (by decide +kernel) (by decide +kernel)
theorem jw_549 : (Jvm.Cond.selects "StreamIdsModel" ({ cls := "StreamIdsModel", name := "define", desc := "(II)I" } : Jvm.MethodName) ({ cls := "StreamIdsModel", name := "define", desc := "(II)I" } : Jvm.MethodName)) ∈ zzW := jw_of (i := 549) (by decide +kernel) (by decide +kernel)
theorem jw_550 : (Jvm.Cond.code ({ cls := "StreamIdsModel", name := "define", desc := "(II)I" } : Jvm.MethodName) prog_10_method_11_code (3 : Nat) (Option.some Jvm.ClassFile.FieldType.int)) ∈ zzW := jw_of (i := 550) (by decide +kernel) (by decide +kernel)
theorem jw_551 : (Jvm.Cond.constant "StreamIdsModel" (73 : Nat) (65535 : Int32)) ∈ zzW := jw_of (i := 551) (by decide +kernel) (by decide +kernel)
theorem jw_552 : (Jvm.Cond.methodLink "StreamIdsModel" (74 : Nat) ({ cls := "StreamIdsModel", name := "copy", desc := "(II)V" } : Jvm.MethodName)) ∈ zzW := jw_of (i := 552) (by decide +kernel) (by decide +kernel)
theorem jw_554 : (Jvm.Cond.instanceMethod ({ cls := "StreamIdsModel", name := "copy", desc := "(II)V" } : Jvm.MethodName)) ∈ zzW := jw_of (i := 554) (by decide +kernel) (by decide +kernel)
theorem jw_555 : (Jvm.Cond.code ({ cls := "StreamIdsModel", name := "copy", desc := "(II)V" } : Jvm.MethodName) prog_10_method_6_code (4 : Nat) (Option.none : Option Jvm.ClassFile.FieldType)) ∈ zzW := jw_of (i := 555) (by decide +kernel) (by decide +kernel)
theorem jw_556 : (Jvm.Cond.methodLink "StreamIdsLaw" (33 : Nat) ({ cls := "StreamIdsModel", name := "face", desc := "(I)I" } : Jvm.MethodName)) ∈ zzW := jw_of (i := 556) (by decide +kernel) (by decide +kernel)
theorem jw_557 : (Jvm.Cond.instanceMethod ({ cls := "StreamIdsModel", name := "face", desc := "(I)I" } : Jvm.MethodName)) ∈ zzW := jw_of (i := 557) (by decide +kernel) (by decide +kernel)
theorem jw_558 : (Jvm.Cond.selects "StreamIdsModel" ({ cls := "StreamIdsModel", name := "face", desc := "(I)I" } : Jvm.MethodName) ({ cls := "StreamIdsModel", name := "face", desc := "(I)I" } : Jvm.MethodName)) ∈ zzW := jw_of (i := 558) (by decide +kernel) (by decide +kernel)
theorem jw_559 : (Jvm.Cond.code ({ cls := "StreamIdsModel", name := "face", desc := "(I)I" } : Jvm.MethodName) prog_10_method_12_code (3 : Nat) (Option.some Jvm.ClassFile.FieldType.int)) ∈ zzW := jw_of (i := 559) (by decide +kernel) (by decide +kernel)
theorem jw_560 : (Jvm.Cond.methodLink "StreamIdsModel" (78 : Nat) ({ cls := "StreamIdsModel", name := "none", desc := "(I)Z" } : Jvm.MethodName)) ∈ zzW := jw_of (i := 560) (by decide +kernel) (by decide +kernel)
theorem jw_562 : (Jvm.Cond.instanceMethod ({ cls := "StreamIdsModel", name := "none", desc := "(I)Z" } : Jvm.MethodName)) ∈ zzW := jw_of (i := 562) (by decide +kernel) (by decide +kernel)
theorem jw_563 : (Jvm.Cond.code ({ cls := "StreamIdsModel", name := "none", desc := "(I)Z" } : Jvm.MethodName) prog_10_method_3_code (2 : Nat) (Option.some Jvm.ClassFile.FieldType.boolean)) ∈ zzW := jw_of (i := 563) (by decide +kernel) (by decide +kernel)
theorem jw_564 : (Jvm.Cond.methodLink "StreamIdsModel" (82 : Nat) ({ cls := "StreamIdsModel", name := "compare", desc := "(II)I" } : Jvm.MethodName)) ∈ zzW := jw_of (i := 564) (by decide +kernel) (by decide +kernel)
theorem jw_566 : (Jvm.Cond.instanceMethod ({ cls := "StreamIdsModel", name := "compare", desc := "(II)I" } : Jvm.MethodName)) ∈ zzW := jw_of (i := 566) (by decide +kernel) (by decide +kernel)
theorem jw_567 : (Jvm.Cond.code ({ cls := "StreamIdsModel", name := "compare", desc := "(II)I" } : Jvm.MethodName) prog_10_method_7_code (6 : Nat) (Option.some Jvm.ClassFile.FieldType.int)) ∈ zzW := jw_of (i := 567) (by decide +kernel) (by decide +kernel)
theorem jw_568 : (Jvm.Cond.methodLink "StreamIdsLaw" (38 : Nat) ({ cls := "StreamIdsModel", name := "member", desc := "(III)I" } : Jvm.MethodName)) ∈ zzW := jw_of (i := 568) (by decide +kernel) (by decide +kernel)
theorem jw_569 : (Jvm.Cond.instanceMethod ({ cls := "StreamIdsModel", name := "member", desc := "(III)I" } : Jvm.MethodName)) ∈ zzW := jw_of (i := 569) (by decide +kernel) (by decide +kernel)
theorem jw_570 : (Jvm.Cond.selects "StreamIdsModel" ({ cls := "StreamIdsModel", name := "member", desc := "(III)I" } : Jvm.MethodName) ({ cls := "StreamIdsModel", name := "member", desc := "(III)I" } : Jvm.MethodName)) ∈ zzW := jw_of (i := 570) (by decide +kernel) (by decide +kernel)
theorem jw_571 : (Jvm.Cond.code ({ cls := "StreamIdsModel", name := "member", desc := "(III)I" } : Jvm.MethodName) prog_10_method_14_code (5 : Nat) (Option.some Jvm.ClassFile.FieldType.int)) ∈ zzW := jw_of (i := 571) (by decide +kernel) (by decide +kernel)
theorem jw_572 : (Jvm.Cond.methodLink "StreamIdsModel" (86 : Nat) ({ cls := "StreamIdsModel", name := "goodShape", desc := "(I)Z" } : Jvm.MethodName)) ∈ zzW := jw_of (i := 572) (by decide +kernel) (by decide +kernel)
theorem jw_574 : (Jvm.Cond.instanceMethod ({ cls := "StreamIdsModel", name := "goodShape", desc := "(I)Z" } : Jvm.MethodName)) ∈ zzW := jw_of (i := 574) (by decide +kernel) (by decide +kernel)
theorem jw_575 : (Jvm.Cond.code ({ cls := "StreamIdsModel", name := "goodShape", desc := "(I)Z" } : Jvm.MethodName) prog_10_method_10_code (2 : Nat) (Option.some Jvm.ClassFile.FieldType.boolean)) ∈ zzW := jw_of (i := 575) (by decide +kernel) (by decide +kernel)
theorem jw_576 : (Jvm.Cond.methodLink "StreamIdsModel" (69 : Nat) ({ cls := "StreamIdsModel", name := "passType", desc := "()Z" } : Jvm.MethodName)) ∈ zzW := jw_of (i := 576) (by decide +kernel) (by decide +kernel)
theorem jw_578 : (Jvm.Cond.instanceMethod ({ cls := "StreamIdsModel", name := "passType", desc := "()Z" } : Jvm.MethodName)) ∈ zzW := jw_of (i := 578) (by decide +kernel) (by decide +kernel)
theorem jw_579 : (Jvm.Cond.code ({ cls := "StreamIdsModel", name := "passType", desc := "()Z" } : Jvm.MethodName) prog_10_method_9_code (6 : Nat) (Option.some Jvm.ClassFile.FieldType.boolean)) ∈ zzW := jw_of (i := 579) (by decide +kernel) (by decide +kernel)
theorem jw_580 : (Jvm.Cond.methodLink "StreamIdsModel" (65 : Nat) ({ cls := "StreamIdsModel", name := "signAt", desc := "(I)I" } : Jvm.MethodName)) ∈ zzW := jw_of (i := 580) (by decide +kernel) (by decide +kernel)
theorem jw_582 : (Jvm.Cond.instanceMethod ({ cls := "StreamIdsModel", name := "signAt", desc := "(I)I" } : Jvm.MethodName)) ∈ zzW := jw_of (i := 582) (by decide +kernel) (by decide +kernel)
theorem jw_583 : (Jvm.Cond.code ({ cls := "StreamIdsModel", name := "signAt", desc := "(I)I" } : Jvm.MethodName) prog_10_method_8_code (2 : Nat) (Option.some Jvm.ClassFile.FieldType.int)) ∈ zzW := jw_of (i := 583) (by decide +kernel) (by decide +kernel)
theorem jw_584 : (Jvm.Cond.methodLink "StreamIdsModel" (89 : Nat) ({ cls := "StreamIdsModel", name := "find", desc := "(II)I" } : Jvm.MethodName)) ∈ zzW := jw_of (i := 584) (by decide +kernel) (by decide +kernel)
theorem jw_586 : (Jvm.Cond.instanceMethod ({ cls := "StreamIdsModel", name := "find", desc := "(II)I" } : Jvm.MethodName)) ∈ zzW := jw_of (i := 586) (by decide +kernel) (by decide +kernel)
theorem jw_587 : (Jvm.Cond.code ({ cls := "StreamIdsModel", name := "find", desc := "(II)I" } : Jvm.MethodName) prog_10_method_13_code (6 : Nat) (Option.some Jvm.ClassFile.FieldType.int)) ∈ zzW := jw_of (i := 587) (by decide +kernel) (by decide +kernel)
theorem jw_588 : (Jvm.Cond.methodLink "StreamIdsLaw" (42 : Nat) ({ cls := "StreamIdsModel", name := "remove", desc := "(II)I" } : Jvm.MethodName)) ∈ zzW := jw_of (i := 588) (by decide +kernel) (by decide +kernel)
theorem jw_589 : (Jvm.Cond.instanceMethod ({ cls := "StreamIdsModel", name := "remove", desc := "(II)I" } : Jvm.MethodName)) ∈ zzW := jw_of (i := 589) (by decide +kernel) (by decide +kernel)
theorem jw_590 : (Jvm.Cond.selects "StreamIdsModel" ({ cls := "StreamIdsModel", name := "remove", desc := "(II)I" } : Jvm.MethodName) ({ cls := "StreamIdsModel", name := "remove", desc := "(II)I" } : Jvm.MethodName)) ∈ zzW := jw_of (i := 590) (by decide +kernel) (by decide +kernel)
theorem jw_591 : (Jvm.Cond.code ({ cls := "StreamIdsModel", name := "remove", desc := "(II)I" } : Jvm.MethodName) prog_10_method_15_code (5 : Nat) (Option.some Jvm.ClassFile.FieldType.int)) ∈ zzW := jw_of (i := 591) (by decide +kernel) (by decide +kernel)
theorem jw_592 : (Jvm.Cond.methodLink "StreamIdsLaw" (47 : Nat) ({ cls := "StreamIdsModel", name := "declare", desc := "(IZJ)I" } : Jvm.MethodName)) ∈ zzW := jw_of (i := 592) (by decide +kernel) (by decide +kernel)
theorem jw_593 : (Jvm.Cond.instanceMethod ({ cls := "StreamIdsModel", name := "declare", desc := "(IZJ)I" } : Jvm.MethodName)) ∈ zzW := jw_of (i := 593) (by decide +kernel) (by decide +kernel)
theorem jw_594 : (Jvm.Cond.selects "StreamIdsModel" ({ cls := "StreamIdsModel", name := "declare", desc := "(IZJ)I" } : Jvm.MethodName) ({ cls := "StreamIdsModel", name := "declare", desc := "(IZJ)I" } : Jvm.MethodName)) ∈ zzW := jw_of (i := 594) (by decide +kernel) (by decide +kernel)
theorem jw_595 : (Jvm.Cond.code ({ cls := "StreamIdsModel", name := "declare", desc := "(IZJ)I" } : Jvm.MethodName) prog_10_method_16_code (5 : Nat) (Option.some Jvm.ClassFile.FieldType.int)) ∈ zzW := jw_of (i := 595) (by decide +kernel) (by decide +kernel)
theorem jw_596 : (Jvm.Cond.methodLink "StreamIdsLaw" (52 : Nat) ({ cls := "StreamIdsModel", name := "id", desc := "(I)J" } : Jvm.MethodName)) ∈ zzW := jw_of (i := 596) (by decide +kernel) (by decide +kernel)
theorem jw_597 : (Jvm.Cond.instanceMethod ({ cls := "StreamIdsModel", name := "id", desc := "(I)J" } : Jvm.MethodName)) ∈ zzW := jw_of (i := 597) (by decide +kernel) (by decide +kernel)
theorem jw_598 : (Jvm.Cond.selects "StreamIdsModel" ({ cls := "StreamIdsModel", name := "id", desc := "(I)J" } : Jvm.MethodName) ({ cls := "StreamIdsModel", name := "id", desc := "(I)J" } : Jvm.MethodName)) ∈ zzW := jw_of (i := 598) (by decide +kernel) (by decide +kernel)
theorem jw_599 : (Jvm.Cond.code ({ cls := "StreamIdsModel", name := "id", desc := "(I)J" } : Jvm.MethodName) prog_10_method_32_code (5 : Nat) (Option.some Jvm.ClassFile.FieldType.long)) ∈ zzW := jw_of (i := 599) (by decide +kernel) (by decide +kernel)
theorem jw_600 : (Jvm.Cond.constantLong "StreamIdsModel" (151 : Nat) (-9000000000000000001 : Int64)) ∈ zzW := jw_of (i := 600) (by decide +kernel) (by decide +kernel)
theorem jw_601 : (Jvm.Cond.methodLink "StreamIdsModel" (153 : Nat) ({ cls := "StreamIdsModel", name := "digest", desc := "(I)V" } : Jvm.MethodName)) ∈ zzW := jw_of (i := 601) (by decide +kernel) (by decide +kernel)
theorem jw_603 : (Jvm.Cond.instanceMethod ({ cls := "StreamIdsModel", name := "digest", desc := "(I)V" } : Jvm.MethodName)) ∈ zzW := jw_of (i := 603) (by decide +kernel) (by decide +kernel)
theorem jw_604 : (Jvm.Cond.code ({ cls := "StreamIdsModel", name := "digest", desc := "(I)V" } : Jvm.MethodName) prog_10_method_31_code (4 : Nat) (Option.none : Option Jvm.ClassFile.FieldType)) ∈ zzW := jw_of (i := 604) (by decide +kernel) (by decide +kernel)
theorem jw_605 : (Jvm.Cond.methodLink "StreamIdsModel" (140 : Nat) ({ cls := "StreamIdsModel", name := "build", desc := "(I)V" } : Jvm.MethodName)) ∈ zzW := jw_of (i := 605) (by decide +kernel) (by decide +kernel)
theorem jw_607 : (Jvm.Cond.instanceMethod ({ cls := "StreamIdsModel", name := "build", desc := "(I)V" } : Jvm.MethodName)) ∈ zzW := jw_of (i := 607) (by decide +kernel) (by decide +kernel)
theorem jw_608 : (Jvm.Cond.code ({ cls := "StreamIdsModel", name := "build", desc := "(I)V" } : Jvm.MethodName) prog_10_method_26_code (5 : Nat) (Option.none : Option Jvm.ClassFile.FieldType)) ∈ zzW := jw_of (i := 608) (by decide +kernel) (by decide +kernel)
theorem jw_609 : (Jvm.Cond.methodLink "StreamIdsModel" (110 : Nat) ({ cls := "StreamIdsModel", name := "utf", desc := "(IZ)V" } : Jvm.MethodName)) ∈ zzW := jw_of (i := 609) (by decide +kernel) (by decide +kernel)
theorem jw_611 : (Jvm.Cond.instanceMethod ({ cls := "StreamIdsModel", name := "utf", desc := "(IZ)V" } : Jvm.MethodName)) ∈ zzW := jw_of (i := 611) (by decide +kernel) (by decide +kernel)
theorem jw_612 : (Jvm.Cond.code ({ cls := "StreamIdsModel", name := "utf", desc := "(IZ)V" } : Jvm.MethodName) prog_10_method_19_code (5 : Nat) (Option.none : Option Jvm.ClassFile.FieldType)) ∈ zzW := jw_of (i := 612) (by decide +kernel) (by decide +kernel)
theorem jw_613 : (Jvm.Cond.methodLink "StreamIdsModel" (95 : Nat) ({ cls := "StreamIdsModel", name := "put", desc := "(I)V" } : Jvm.MethodName)) ∈ zzW := jw_of (i := 613) (by decide +kernel) (by decide +kernel)
theorem jw_615 : (Jvm.Cond.instanceMethod ({ cls := "StreamIdsModel", name := "put", desc := "(I)V" } : Jvm.MethodName)) ∈ zzW := jw_of (i := 615) (by decide +kernel) (by decide +kernel)
theorem jw_616 : (Jvm.Cond.code ({ cls := "StreamIdsModel", name := "put", desc := "(I)V" } : Jvm.MethodName) prog_10_method_17_code (2 : Nat) (Option.none : Option Jvm.ClassFile.FieldType)) ∈ zzW := jw_of (i := 616) (by decide +kernel) (by decide +kernel)
theorem jw_617 : (Jvm.Cond.methodLink "StreamIdsModel" (117 : Nat) ({ cls := "StreamIdsModel", name := "counted", desc := "(II)I" } : Jvm.MethodName)) ∈ zzW := jw_of (i := 617) (by decide +kernel) (by decide +kernel)
theorem jw_619 : (Jvm.Cond.instanceMethod ({ cls := "StreamIdsModel", name := "counted", desc := "(II)I" } : Jvm.MethodName)) ∈ zzW := jw_of (i := 619) (by decide +kernel) (by decide +kernel)
theorem jw_620 : (Jvm.Cond.code ({ cls := "StreamIdsModel", name := "counted", desc := "(II)I" } : Jvm.MethodName) prog_10_method_24_code (5 : Nat) (Option.some Jvm.ClassFile.FieldType.int)) ∈ zzW := jw_of (i := 620) (by decide +kernel) (by decide +kernel)
theorem jw_621 : (Jvm.Cond.methodLink "StreamIdsModel" (114 : Nat) ({ cls := "StreamIdsModel", name := "number", desc := "(I)V" } : Jvm.MethodName)) ∈ zzW := jw_of (i := 621) (by decide +kernel) (by decide +kernel)
theorem jw_623 : (Jvm.Cond.instanceMethod ({ cls := "StreamIdsModel", name := "number", desc := "(I)V" } : Jvm.MethodName)) ∈ zzW := jw_of (i := 623) (by decide +kernel) (by decide +kernel)
theorem jw_624 : (Jvm.Cond.code ({ cls := "StreamIdsModel", name := "number", desc := "(I)V" } : Jvm.MethodName) prog_10_method_18_code (3 : Nat) (Option.none : Option Jvm.ClassFile.FieldType)) ∈ zzW := jw_of (i := 624) (by decide +kernel) (by decide +kernel)
theorem jw_625 : (Jvm.Cond.methodLink "StreamIdsModel" (120 : Nat) ({ cls := "StreamIdsModel", name := "nextFace", desc := "(II)I" } : Jvm.MethodName)) ∈ zzW := jw_of (i := 625) (by decide +kernel) (by decide +kernel)
theorem jw_627 : (Jvm.Cond.instanceMethod ({ cls := "StreamIdsModel", name := "nextFace", desc := "(II)I" } : Jvm.MethodName)) ∈ zzW := jw_of (i := 627) (by decide +kernel) (by decide +kernel)
theorem jw_628 : (Jvm.Cond.code ({ cls := "StreamIdsModel", name := "nextFace", desc := "(II)I" } : Jvm.MethodName) prog_10_method_23_code (5 : Nat) (Option.some Jvm.ClassFile.FieldType.int)) ∈ zzW := jw_of (i := 628) (by decide +kernel) (by decide +kernel)
theorem jw_629 : (Jvm.Cond.methodLink "StreamIdsModel" (123 : Nat) ({ cls := "StreamIdsModel", name := "writeMembers", desc := "(II)V" } : Jvm.MethodName)) ∈ zzW := jw_of (i := 629) (by decide +kernel) (by decide +kernel)
theorem jw_631 : (Jvm.Cond.instanceMethod ({ cls := "StreamIdsModel", name := "writeMembers", desc := "(II)V" } : Jvm.MethodName)) ∈ zzW := jw_of (i := 631) (by decide +kernel) (by decide +kernel)
theorem jw_632 : (Jvm.Cond.code ({ cls := "StreamIdsModel", name := "writeMembers", desc := "(II)V" } : Jvm.MethodName) prog_10_method_25_code (6 : Nat) (Option.none : Option Jvm.ClassFile.FieldType)) ∈ zzW := jw_of (i := 632) (by decide +kernel) (by decide +kernel)
theorem jw_633 : (Jvm.Cond.methodLink "StreamIdsModel" (103 : Nat) ({ cls := "StreamIdsModel", name := "following", desc := "(III)I" } : Jvm.MethodName)) ∈ zzW := jw_of (i := 633) (by decide +kernel) (by decide +kernel)
theorem jw_635 : (Jvm.Cond.instanceMethod ({ cls := "StreamIdsModel", name := "following", desc := "(III)I" } : Jvm.MethodName)) ∈ zzW := jw_of (i := 635) (by decide +kernel) (by decide +kernel)
theorem jw_636 : (Jvm.Cond.code ({ cls := "StreamIdsModel", name := "following", desc := "(III)I" } : Jvm.MethodName) prog_10_method_22_code (6 : Nat) (Option.some Jvm.ClassFile.FieldType.int)) ∈ zzW := jw_of (i := 636) (by decide +kernel) (by decide +kernel)
theorem jw_637 : (Jvm.Cond.methodLink "StreamIdsModel" (99 : Nat) ({ cls := "StreamIdsModel", name := "orderOf", desc := "(III)I" } : Jvm.MethodName)) ∈ zzW := jw_of (i := 637) (by decide +kernel) (by decide +kernel)
theorem jw_639 : (Jvm.Cond.instanceMethod ({ cls := "StreamIdsModel", name := "orderOf", desc := "(III)I" } : Jvm.MethodName)) ∈ zzW := jw_of (i := 639) (by decide +kernel) (by decide +kernel)
theorem jw_640 : (Jvm.Cond.code ({ cls := "StreamIdsModel", name := "orderOf", desc := "(III)I" } : Jvm.MethodName) prog_10_method_21_code (5 : Nat) (Option.some Jvm.ClassFile.FieldType.int)) ∈ zzW := jw_of (i := 640) (by decide +kernel) (by decide +kernel)
theorem jw_641 : (Jvm.Cond.methodLink "StreamIdsModel" (106 : Nat) ({ cls := "StreamIdsModel", name := "initName", desc := "(Z)V" } : Jvm.MethodName)) ∈ zzW := jw_of (i := 641) (by decide +kernel) (by decide +kernel)
theorem jw_643 : (Jvm.Cond.instanceMethod ({ cls := "StreamIdsModel", name := "initName", desc := "(Z)V" } : Jvm.MethodName)) ∈ zzW := jw_of (i := 643) (by decide +kernel) (by decide +kernel)
theorem jw_644 : (Jvm.Cond.code ({ cls := "StreamIdsModel", name := "initName", desc := "(Z)V" } : Jvm.MethodName) prog_10_method_20_code (2 : Nat) (Option.none : Option Jvm.ClassFile.FieldType)) ∈ zzW := jw_of (i := 644) (by decide +kernel) (by decide +kernel)
theorem jw_645 : (Jvm.Cond.constant "StreamIdsModel" (143 : Nat) (1732584193 : Int32)) ∈ zzW := jw_of (i := 645) (by decide +kernel) (by decide +kernel)
theorem jw_646 : (Jvm.Cond.constant "StreamIdsModel" (144 : Nat) (-271733879 : Int32)) ∈ zzW := jw_of (i := 646) (by decide +kernel) (by decide +kernel)
theorem jw_647 : (Jvm.Cond.constant "StreamIdsModel" (145 : Nat) (-1732584194 : Int32)) ∈ zzW := jw_of (i := 647) (by decide +kernel) (by decide +kernel)
theorem jw_648 : (Jvm.Cond.constant "StreamIdsModel" (146 : Nat) (271733878 : Int32)) ∈ zzW := jw_of (i := 648) (by decide +kernel) (by decide +kernel)
theorem jw_649 : (Jvm.Cond.constant "StreamIdsModel" (147 : Nat) (-1009589776 : Int32)) ∈ zzW := jw_of (i := 649) (by decide +kernel) (by decide +kernel)
theorem jw_650 : (Jvm.Cond.methodLink "StreamIdsModel" (148 : Nat) ({ cls := "StreamIdsModel", name := "block", desc := "(I)V" } : Jvm.MethodName)) ∈ zzW := jw_of (i := 650) (by decide +kernel) (by decide +kernel)
theorem jw_652 : (Jvm.Cond.instanceMethod ({ cls := "StreamIdsModel", name := "block", desc := "(I)V" } : Jvm.MethodName)) ∈ zzW := jw_of (i := 652) (by decide +kernel) (by decide +kernel)
theorem jw_653 : (Jvm.Cond.code ({ cls := "StreamIdsModel", name := "block", desc := "(I)V" } : Jvm.MethodName) prog_10_method_30_code (9 : Nat) (Option.none : Option Jvm.ClassFile.FieldType)) ∈ zzW := jw_of (i := 653) (by decide +kernel) (by decide +kernel)
theorem jw_654 : (Jvm.Cond.methodLink "StreamIdsModel" (130 : Nat) ({ cls := "StreamIdsModel", name := "turned", desc := "(II)I" } : Jvm.MethodName)) ∈ zzW := jw_of (i := 654) (by decide +kernel) (by decide +kernel)
theorem jw_656 : (Jvm.Cond.instanceMethod ({ cls := "StreamIdsModel", name := "turned", desc := "(II)I" } : Jvm.MethodName)) ∈ zzW := jw_of (i := 656) (by decide +kernel) (by decide +kernel)
theorem jw_657 : (Jvm.Cond.code ({ cls := "StreamIdsModel", name := "turned", desc := "(II)I" } : Jvm.MethodName) prog_10_method_27_code (3 : Nat) (Option.some Jvm.ClassFile.FieldType.int)) ∈ zzW := jw_of (i := 657) (by decide +kernel) (by decide +kernel)
theorem jw_658 : (Jvm.Cond.methodLink "StreamIdsModel" (133 : Nat) ({ cls := "StreamIdsModel", name := "mixed", desc := "(IIII)I" } : Jvm.MethodName)) ∈ zzW := jw_of (i := 658) (by decide +kernel) (by decide +kernel)
theorem jw_660 : (Jvm.Cond.instanceMethod ({ cls := "StreamIdsModel", name := "mixed", desc := "(IIII)I" } : Jvm.MethodName)) ∈ zzW := jw_of (i := 660) (by decide +kernel) (by decide +kernel)
theorem jw_661 : (Jvm.Cond.code ({ cls := "StreamIdsModel", name := "mixed", desc := "(IIII)I" } : Jvm.MethodName) prog_10_method_28_code (5 : Nat) (Option.some Jvm.ClassFile.FieldType.int)) ∈ zzW := jw_of (i := 661) (by decide +kernel) (by decide +kernel)
theorem jw_662 : (Jvm.Cond.methodLink "StreamIdsModel" (137 : Nat) ({ cls := "StreamIdsModel", name := "constant", desc := "(I)I" } : Jvm.MethodName)) ∈ zzW := jw_of (i := 662) (by decide +kernel) (by decide +kernel)
theorem jw_664 : (Jvm.Cond.instanceMethod ({ cls := "StreamIdsModel", name := "constant", desc := "(I)I" } : Jvm.MethodName)) ∈ zzW := jw_of (i := 664) (by decide +kernel) (by decide +kernel)
theorem jw_665 : (Jvm.Cond.code ({ cls := "StreamIdsModel", name := "constant", desc := "(I)I" } : Jvm.MethodName) prog_10_method_29_code (2 : Nat) (Option.some Jvm.ClassFile.FieldType.int)) ∈ zzW := jw_of (i := 665) (by decide +kernel) (by decide +kernel)
theorem jw_666 : (Jvm.Cond.constant "StreamIdsModel" (126 : Nat) (1518500249 : Int32)) ∈ zzW := jw_of (i := 666) (by decide +kernel) (by decide +kernel)
theorem jw_667 : (Jvm.Cond.constant "StreamIdsModel" (127 : Nat) (1859775393 : Int32)) ∈ zzW := jw_of (i := 667) (by decide +kernel) (by decide +kernel)
theorem jw_668 : (Jvm.Cond.constant "StreamIdsModel" (128 : Nat) (-1894007588 : Int32)) ∈ zzW := jw_of (i := 668) (by decide +kernel) (by decide +kernel)
theorem jw_669 : (Jvm.Cond.constant "StreamIdsModel" (129 : Nat) (-899497514 : Int32)) ∈ zzW := jw_of (i := 669) (by decide +kernel) (by decide +kernel)
theorem jw_670 : (Jvm.Cond.methodLink "StreamIdsLaw" (57 : Nat) ({ cls := "StreamIdsModel", name := "hash", desc := "(II)J" } : Jvm.MethodName)) ∈ zzW := jw_of (i := 670) (by decide +kernel) (by decide +kernel)
theorem jw_671 : (Jvm.Cond.instanceMethod ({ cls := "StreamIdsModel", name := "hash", desc := "(II)J" } : Jvm.MethodName)) ∈ zzW := jw_of (i := 671) (by decide +kernel) (by decide +kernel)
theorem jw_672 : (Jvm.Cond.selects "StreamIdsModel" ({ cls := "StreamIdsModel", name := "hash", desc := "(II)J" } : Jvm.MethodName) ({ cls := "StreamIdsModel", name := "hash", desc := "(II)J" } : Jvm.MethodName)) ∈ zzW := jw_of (i := 672) (by decide +kernel) (by decide +kernel)
theorem jw_673 : (Jvm.Cond.code ({ cls := "StreamIdsModel", name := "hash", desc := "(II)J" } : Jvm.MethodName) prog_10_method_33_code (3 : Nat) (Option.some Jvm.ClassFile.FieldType.long)) ∈ zzW := jw_of (i := 673) (by decide +kernel) (by decide +kernel)
theorem jw_674 : (Jvm.Cond.methodLink "StreamIdsLaw" (61 : Nat) ({ cls := "StreamIdsModel", name := "size", desc := "(I)I" } : Jvm.MethodName)) ∈ zzW := jw_of (i := 674) (by decide +kernel) (by decide +kernel)
theorem jw_675 : (Jvm.Cond.instanceMethod ({ cls := "StreamIdsModel", name := "size", desc := "(I)I" } : Jvm.MethodName)) ∈ zzW := jw_of (i := 675) (by decide +kernel) (by decide +kernel)
theorem jw_676 : (Jvm.Cond.selects "StreamIdsModel" ({ cls := "StreamIdsModel", name := "size", desc := "(I)I" } : Jvm.MethodName) ({ cls := "StreamIdsModel", name := "size", desc := "(I)I" } : Jvm.MethodName)) ∈ zzW := jw_of (i := 676) (by decide +kernel) (by decide +kernel)
theorem jw_677 : (Jvm.Cond.code ({ cls := "StreamIdsModel", name := "size", desc := "(I)I" } : Jvm.MethodName) prog_10_method_34_code (2 : Nat) (Option.some Jvm.ClassFile.FieldType.int)) ∈ zzW := jw_of (i := 677) (by decide +kernel) (by decide +kernel)
theorem jw_678 : (Jvm.Cond.methodLink "StreamIdsLaw" (65 : Nat) ({ cls := "StreamIdsModel", name := "byteAt", desc := "(II)I" } : Jvm.MethodName)) ∈ zzW := jw_of (i := 678) (by decide +kernel) (by decide +kernel)
theorem jw_679 : (Jvm.Cond.instanceMethod ({ cls := "StreamIdsModel", name := "byteAt", desc := "(II)I" } : Jvm.MethodName)) ∈ zzW := jw_of (i := 679) (by decide +kernel) (by decide +kernel)
theorem jw_680 : (Jvm.Cond.selects "StreamIdsModel" ({ cls := "StreamIdsModel", name := "byteAt", desc := "(II)I" } : Jvm.MethodName) ({ cls := "StreamIdsModel", name := "byteAt", desc := "(II)I" } : Jvm.MethodName)) ∈ zzW := jw_of (i := 680) (by decide +kernel) (by decide +kernel)
theorem jw_681 : (Jvm.Cond.code ({ cls := "StreamIdsModel", name := "byteAt", desc := "(II)I" } : Jvm.MethodName) prog_10_method_35_code (3 : Nat) (Option.some Jvm.ClassFile.FieldType.int)) ∈ zzW := jw_of (i := 681) (by decide +kernel) (by decide +kernel)
theorem jw_682 : (Jvm.Cond.methodLink "StreamIdsLaw" (69 : Nat) ({ cls := "StreamIdsModel", name := "part", desc := "(II)I" } : Jvm.MethodName)) ∈ zzW := jw_of (i := 682) (by decide +kernel) (by decide +kernel)
theorem jw_683 : (Jvm.Cond.instanceMethod ({ cls := "StreamIdsModel", name := "part", desc := "(II)I" } : Jvm.MethodName)) ∈ zzW := jw_of (i := 683) (by decide +kernel) (by decide +kernel)
theorem jw_684 : (Jvm.Cond.selects "StreamIdsModel" ({ cls := "StreamIdsModel", name := "part", desc := "(II)I" } : Jvm.MethodName) ({ cls := "StreamIdsModel", name := "part", desc := "(II)I" } : Jvm.MethodName)) ∈ zzW := jw_of (i := 684) (by decide +kernel) (by decide +kernel)
theorem jw_685 : (Jvm.Cond.code ({ cls := "StreamIdsModel", name := "part", desc := "(II)I" } : Jvm.MethodName) prog_10_method_36_code (3 : Nat) (Option.some Jvm.ClassFile.FieldType.int)) ∈ zzW := jw_of (i := 685) (by decide +kernel) (by decide +kernel)
theorem jw_686 : (Jvm.Cond.methodLink "StreamIdsLaw" (73 : Nat) ({ cls := "StreamIdsModel", name := "count", desc := "(II)I" } : Jvm.MethodName)) ∈ zzW := jw_of (i := 686) (by decide +kernel) (by decide +kernel)
theorem jw_687 : (Jvm.Cond.instanceMethod ({ cls := "StreamIdsModel", name := "count", desc := "(II)I" } : Jvm.MethodName)) ∈ zzW := jw_of (i := 687) (by decide +kernel) (by decide +kernel)
theorem jw_688 : (Jvm.Cond.selects "StreamIdsModel" ({ cls := "StreamIdsModel", name := "count", desc := "(II)I" } : Jvm.MethodName) ({ cls := "StreamIdsModel", name := "count", desc := "(II)I" } : Jvm.MethodName)) ∈ zzW := jw_of (i := 688) (by decide +kernel) (by decide +kernel)
theorem jw_689 : (Jvm.Cond.code ({ cls := "StreamIdsModel", name := "count", desc := "(II)I" } : Jvm.MethodName) prog_10_method_37_code (3 : Nat) (Option.some Jvm.ClassFile.FieldType.int)) ∈ zzW := jw_of (i := 689) (by decide +kernel) (by decide +kernel)
theorem jw_690 : (Jvm.Cond.constantLong "StreamIdsLaw" (13 : Nat) (4294967295 : Int64)) ∈ zzW := jw_of (i := 690) (by decide +kernel) (by decide +kernel)
theorem jw_691 : (Jvm.Cond.fieldLink "java/lang/String" (9 : Nat) "java/lang/String" "value" "[B") ∈ zzW := jw_of (i := 691) (by decide +kernel) (by decide +kernel)
theorem jw_692 : (Jvm.Cond.fieldLink "java/lang/String" (15 : Nat) "java/lang/String" "coder" "B") ∈ zzW := jw_of (i := 692) (by decide +kernel) (by decide +kernel)
theorem jws_0 : Cond.selects "StreamIds" (⟨"StreamIds", "bufferOf", "(I)LStreamIds$Text;"⟩) (⟨"StreamIds", "bufferOf", "(I)LStreamIds$Text;"⟩) ∈ zzW := jw_sel (i := 0) (by decide +kernel) (by decide +kernel)
theorem jws_1 : Cond.selects "StreamIds" (⟨"StreamIds", "declarationOf", "(I)LStreamIds$Declaration;"⟩) (⟨"StreamIds", "declarationOf", "(I)LStreamIds$Declaration;"⟩) ∈ zzW := jw_sel (i := 1) (by decide +kernel) (by decide +kernel)
theorem jws_2 : Cond.selects "StreamIds$Row" (⟨"StreamIds$Row", "placeOf", "(ILStreamIds$Text;LStreamIds$Text;)I"⟩) (⟨"StreamIds$Row", "placeOf", "(ILStreamIds$Text;LStreamIds$Text;)I"⟩) ∈ zzW := jw_sel (i := 2) (by decide +kernel) (by decide +kernel)
theorem jws_3 : Cond.selects "StreamIds$Row" (⟨"StreamIds$Row", "isAt", "(IILStreamIds$Text;LStreamIds$Text;)Z"⟩) (⟨"StreamIds$Row", "isAt", "(IILStreamIds$Text;LStreamIds$Text;)Z"⟩) ∈ zzW := jw_sel (i := 3) (by decide +kernel) (by decide +kernel)
theorem jws_4 : Cond.selects "StreamIds" (⟨"StreamIds", "isNameFor", "(I)Z"⟩) (⟨"StreamIds", "isNameFor", "(I)Z"⟩) ∈ zzW := jw_sel (i := 4) (by decide +kernel) (by decide +kernel)
theorem jws_5 : Cond.selects "StreamIds" (⟨"StreamIds", "isShapeFor", "(I)Z"⟩) (⟨"StreamIds", "isShapeFor", "(I)Z"⟩) ∈ zzW := jw_sel (i := 5) (by decide +kernel) (by decide +kernel)
theorem jws_6 : Cond.selects "StreamIds$Layout" (⟨"StreamIds$Layout", "putText", "(LStreamIds$Text;)V"⟩) (⟨"StreamIds$Layout", "putText", "(LStreamIds$Text;)V"⟩) ∈ zzW := jw_sel (i := 6) (by decide +kernel) (by decide +kernel)
theorem jws_7 : Cond.selects "StreamIds$Layout" (⟨"StreamIds$Layout", "putLength", "(I)V"⟩) (⟨"StreamIds$Layout", "putLength", "(I)V"⟩) ∈ zzW := jw_sel (i := 7) (by decide +kernel) (by decide +kernel)
theorem jws_8 : Cond.selects "StreamIds$Layout" (⟨"StreamIds$Layout", "put", "(I)V"⟩) (⟨"StreamIds$Layout", "put", "(I)V"⟩) ∈ zzW := jw_sel (i := 8) (by decide +kernel) (by decide +kernel)
theorem jws_9 : Cond.selects "StreamIds$Layout" (⟨"StreamIds$Layout", "putNumber", "(I)V"⟩) (⟨"StreamIds$Layout", "putNumber", "(I)V"⟩) ∈ zzW := jw_sel (i := 9) (by decide +kernel) (by decide +kernel)
theorem jws_10 : Cond.selects "StreamIds$Layout" (⟨"StreamIds$Layout", "putAll", "(LStreamIds$Row;I)V"⟩) (⟨"StreamIds$Layout", "putAll", "(LStreamIds$Row;I)V"⟩) ∈ zzW := jw_sel (i := 10) (by decide +kernel) (by decide +kernel)
theorem jws_11 : Cond.selects "StreamIds$Layout" (⟨"StreamIds$Layout", "putEntry", "(LStreamIds$Entry;)V"⟩) (⟨"StreamIds$Layout", "putEntry", "(LStreamIds$Entry;)V"⟩) ∈ zzW := jw_sel (i := 11) (by decide +kernel) (by decide +kernel)
theorem jws_12 : Cond.selects "StreamIds$Layout" (⟨"StreamIds$Layout", "putConstant", "(Ljava/lang/String;)V"⟩) (⟨"StreamIds$Layout", "putConstant", "(Ljava/lang/String;)V"⟩) ∈ zzW := jw_sel (i := 12) (by decide +kernel) (by decide +kernel)
theorem jws_13 : Cond.selects "StreamIds$Layout" (⟨"StreamIds$Layout", "putDotted", "(LStreamIds$Text;)V"⟩) (⟨"StreamIds$Layout", "putDotted", "(LStreamIds$Text;)V"⟩) ∈ zzW := jw_sel (i := 13) (by decide +kernel) (by decide +kernel)
theorem jws_14 : Cond.selects "StreamIds$Digest" (⟨"StreamIds$Digest", "fillWords", "(LStreamIds$Layout;II)V"⟩) (⟨"StreamIds$Digest", "fillWords", "(LStreamIds$Layout;II)V"⟩) ∈ zzW := jw_sel (i := 14) (by decide +kernel) (by decide +kernel)
theorem jws_15 : Cond.selects "StreamIds$Digest" (⟨"StreamIds$Digest", "mixWords", "()V"⟩) (⟨"StreamIds$Digest", "mixWords", "()V"⟩) ∈ zzW := jw_sel (i := 15) (by decide +kernel) (by decide +kernel)
theorem jws_16 : Cond.selects "StreamIdsModel" (⟨"StreamIdsModel", "out", "(II)Z"⟩) (⟨"StreamIdsModel", "out", "(II)Z"⟩) ∈ zzW := jw_sel (i := 16) (by decide +kernel) (by decide +kernel)
theorem jws_17 : Cond.selects "StreamIdsModel" (⟨"StreamIdsModel", "copy", "(II)V"⟩) (⟨"StreamIdsModel", "copy", "(II)V"⟩) ∈ zzW := jw_sel (i := 17) (by decide +kernel) (by decide +kernel)
theorem jws_18 : Cond.selects "StreamIdsModel" (⟨"StreamIdsModel", "none", "(I)Z"⟩) (⟨"StreamIdsModel", "none", "(I)Z"⟩) ∈ zzW := jw_sel (i := 18) (by decide +kernel) (by decide +kernel)
theorem jws_19 : Cond.selects "StreamIdsModel" (⟨"StreamIdsModel", "compare", "(II)I"⟩) (⟨"StreamIdsModel", "compare", "(II)I"⟩) ∈ zzW := jw_sel (i := 19) (by decide +kernel) (by decide +kernel)
theorem jws_20 : Cond.selects "StreamIdsModel" (⟨"StreamIdsModel", "goodShape", "(I)Z"⟩) (⟨"StreamIdsModel", "goodShape", "(I)Z"⟩) ∈ zzW := jw_sel (i := 20) (by decide +kernel) (by decide +kernel)
theorem jws_21 : Cond.selects "StreamIdsModel" (⟨"StreamIdsModel", "passType", "()Z"⟩) (⟨"StreamIdsModel", "passType", "()Z"⟩) ∈ zzW := jw_sel (i := 21) (by decide +kernel) (by decide +kernel)
theorem jws_22 : Cond.selects "StreamIdsModel" (⟨"StreamIdsModel", "signAt", "(I)I"⟩) (⟨"StreamIdsModel", "signAt", "(I)I"⟩) ∈ zzW := jw_sel (i := 22) (by decide +kernel) (by decide +kernel)
theorem jws_23 : Cond.selects "StreamIdsModel" (⟨"StreamIdsModel", "find", "(II)I"⟩) (⟨"StreamIdsModel", "find", "(II)I"⟩) ∈ zzW := jw_sel (i := 23) (by decide +kernel) (by decide +kernel)
theorem jws_24 : Cond.selects "StreamIdsModel" (⟨"StreamIdsModel", "digest", "(I)V"⟩) (⟨"StreamIdsModel", "digest", "(I)V"⟩) ∈ zzW := jw_sel (i := 24) (by decide +kernel) (by decide +kernel)
theorem jws_25 : Cond.selects "StreamIdsModel" (⟨"StreamIdsModel", "build", "(I)V"⟩) (⟨"StreamIdsModel", "build", "(I)V"⟩) ∈ zzW := jw_sel (i := 25) (by decide +kernel) (by decide +kernel)
theorem jws_26 : Cond.selects "StreamIdsModel" (⟨"StreamIdsModel", "utf", "(IZ)V"⟩) (⟨"StreamIdsModel", "utf", "(IZ)V"⟩) ∈ zzW := jw_sel (i := 26) (by decide +kernel) (by decide +kernel)
theorem jws_27 : Cond.selects "StreamIdsModel" (⟨"StreamIdsModel", "put", "(I)V"⟩) (⟨"StreamIdsModel", "put", "(I)V"⟩) ∈ zzW := jw_sel (i := 27) (by decide +kernel) (by decide +kernel)
theorem jws_28 : Cond.selects "StreamIdsModel" (⟨"StreamIdsModel", "counted", "(II)I"⟩) (⟨"StreamIdsModel", "counted", "(II)I"⟩) ∈ zzW := jw_sel (i := 28) (by decide +kernel) (by decide +kernel)
theorem jws_29 : Cond.selects "StreamIdsModel" (⟨"StreamIdsModel", "number", "(I)V"⟩) (⟨"StreamIdsModel", "number", "(I)V"⟩) ∈ zzW := jw_sel (i := 29) (by decide +kernel) (by decide +kernel)
theorem jws_30 : Cond.selects "StreamIdsModel" (⟨"StreamIdsModel", "nextFace", "(II)I"⟩) (⟨"StreamIdsModel", "nextFace", "(II)I"⟩) ∈ zzW := jw_sel (i := 30) (by decide +kernel) (by decide +kernel)
theorem jws_31 : Cond.selects "StreamIdsModel" (⟨"StreamIdsModel", "writeMembers", "(II)V"⟩) (⟨"StreamIdsModel", "writeMembers", "(II)V"⟩) ∈ zzW := jw_sel (i := 31) (by decide +kernel) (by decide +kernel)
theorem jws_32 : Cond.selects "StreamIdsModel" (⟨"StreamIdsModel", "following", "(III)I"⟩) (⟨"StreamIdsModel", "following", "(III)I"⟩) ∈ zzW := jw_sel (i := 32) (by decide +kernel) (by decide +kernel)
theorem jws_33 : Cond.selects "StreamIdsModel" (⟨"StreamIdsModel", "orderOf", "(III)I"⟩) (⟨"StreamIdsModel", "orderOf", "(III)I"⟩) ∈ zzW := jw_sel (i := 33) (by decide +kernel) (by decide +kernel)
theorem jws_34 : Cond.selects "StreamIdsModel" (⟨"StreamIdsModel", "initName", "(Z)V"⟩) (⟨"StreamIdsModel", "initName", "(Z)V"⟩) ∈ zzW := jw_sel (i := 34) (by decide +kernel) (by decide +kernel)
theorem jws_35 : Cond.selects "StreamIdsModel" (⟨"StreamIdsModel", "block", "(I)V"⟩) (⟨"StreamIdsModel", "block", "(I)V"⟩) ∈ zzW := jw_sel (i := 35) (by decide +kernel) (by decide +kernel)
theorem jws_36 : Cond.selects "StreamIdsModel" (⟨"StreamIdsModel", "turned", "(II)I"⟩) (⟨"StreamIdsModel", "turned", "(II)I"⟩) ∈ zzW := jw_sel (i := 36) (by decide +kernel) (by decide +kernel)
theorem jws_37 : Cond.selects "StreamIdsModel" (⟨"StreamIdsModel", "mixed", "(IIII)I"⟩) (⟨"StreamIdsModel", "mixed", "(IIII)I"⟩) ∈ zzW := jw_sel (i := 37) (by decide +kernel) (by decide +kernel)
theorem jws_38 : Cond.selects "StreamIdsModel" (⟨"StreamIdsModel", "constant", "(I)I"⟩) (⟨"StreamIdsModel", "constant", "(I)I"⟩) ∈ zzW := jw_sel (i := 38) (by decide +kernel) (by decide +kernel)
def jT_S : u_T := fun k => match k with
  | 0 => ("StreamIds", "name", "LStreamIds$Text;", true)
  | 1 => ("StreamIds", "shape", "LStreamIds$Text;", true)
  | 2 => ("StreamIds", "declarations", "[LStreamIds$Declaration;", true)
  | 3 => ("StreamIds", "layout", "LStreamIds$Layout;", true)
  | _ => ("StreamIds", "digest", "LStreamIds$Digest;", true)
def jt_S : Nat → FieldType := fun k => match k with
  | 0 => .object "StreamIds$Text"
  | 1 => .object "StreamIds$Text"
  | 2 => .array (.object "StreamIds$Declaration")
  | 3 => .object "StreamIds$Layout"
  | _ => .object "StreamIds$Digest"
theorem jn_S : ∀ a, a < 5 → ∀ b, b < 5 → a ≠ b → (jT_S a).2.1 ≠ (jT_S b).2.1 := by decide +kernel
theorem jt_S_ok : ∀ k, k < 5 → parseFieldDescriptor (jT_S k).2.2.1 = some (jt_S k) := by decide +kernel
theorem ju_S : ∀ w ∈ u_ws "StreamIds" jT_S 5, w ∈ zzW := by
  intro w hw
  obtain ⟨k, hk, rfl⟩ := List.mem_map.mp hw
  have hk := List.mem_range.mp hk
  match k, hk with
  | 0, _ => exact jw_164
  | 1, _ => exact jw_166
  | 2, _ => exact jw_168
  | 3, _ => exact jw_170
  | 4, _ => exact jw_172
  | k + 5, h => exact absurd h (by omega)
def jT_T : u_T := fun k => match k with
  | 0 => ("StreamIds$Text", "signs", "[B", true)
  | _ => ("StreamIds$Text", "length", "I", false)
def jt_T : Nat → FieldType := fun k => match k with
  | 0 => .array .byte
  | _ => .int
theorem jn_T : ∀ a, a < 2 → ∀ b, b < 2 → a ≠ b → (jT_T a).2.1 ≠ (jT_T b).2.1 := by decide +kernel
theorem jt_T_ok : ∀ k, k < 2 → parseFieldDescriptor (jT_T k).2.2.1 = some (jt_T k) := by decide +kernel
theorem ju_T : ∀ w ∈ u_ws "StreamIds$Text" jT_T 2, w ∈ zzW := by
  intro w hw
  obtain ⟨k, hk, rfl⟩ := List.mem_map.mp hw
  have hk := List.mem_range.mp hk
  match k, hk with
  | 0, _ => exact jw_35
  | 1, _ => exact jw_37
  | k + 2, h => exact absurd h (by omega)
def jT_L : u_T := fun k => match k with
  | 0 => ("StreamIds$Layout", "bytes", "[B", true)
  | 1 => ("StreamIds$Layout", "length", "I", false)
  | _ => ("StreamIds$Layout", "begins", "[I", true)
def jt_L : Nat → FieldType := fun k => match k with
  | 0 => .array .byte
  | 1 => .int
  | _ => .array .int
theorem jn_L : ∀ a, a < 3 → ∀ b, b < 3 → a ≠ b → (jT_L a).2.1 ≠ (jT_L b).2.1 := by decide +kernel
theorem jt_L_ok : ∀ k, k < 3 → parseFieldDescriptor (jT_L k).2.2.1 = some (jt_L k) := by decide +kernel
theorem ju_L : ∀ w ∈ u_ws "StreamIds$Layout" jT_L 3, w ∈ zzW := by
  intro w hw
  obtain ⟨k, hk, rfl⟩ := List.mem_map.mp hw
  have hk := List.mem_range.mp hk
  match k, hk with
  | 0, _ => exact jw_55
  | 1, _ => exact jw_57
  | 2, _ => exact jw_59
  | k + 3, h => exact absurd h (by omega)
def jT_G : u_T := fun k => match k with
  | 0 => ("StreamIds$Digest", "numbers", "[I", true)
  | _ => ("StreamIds$Digest", "words", "[I", true)
def jt_G : Nat → FieldType := fun k => match k with
  | 0 => .array .int
  | _ => .array .int
theorem jn_G : ∀ a, a < 2 → ∀ b, b < 2 → a ≠ b → (jT_G a).2.1 ≠ (jT_G b).2.1 := by decide +kernel
theorem jt_G_ok : ∀ k, k < 2 → parseFieldDescriptor (jT_G k).2.2.1 = some (jt_G k) := by decide +kernel
theorem ju_G : ∀ w ∈ u_ws "StreamIds$Digest" jT_G 2, w ∈ zzW := by
  intro w hw
  obtain ⟨k, hk, rfl⟩ := List.mem_map.mp hw
  have hk := List.mem_range.mp hk
  match k, hk with
  | 0, _ => exact jw_72
  | 1, _ => exact jw_74
  | k + 2, h => exact absurd h (by omega)
def jT_D : u_T := fun k => match k with
  | 0 => ("StreamIds$Declaration", "isThere", "Z", false)
  | 1 => ("StreamIds$Declaration", "name", "LStreamIds$Text;", true)
  | 2 => ("StreamIds$Declaration", "modifiers", "I", false)
  | 3 => ("StreamIds$Declaration", "faces", "LStreamIds$Row;", true)
  | 4 => ("StreamIds$Declaration", "members", "LStreamIds$Row;", true)
  | 5 => ("StreamIds$Declaration", "hasOwnId", "Z", false)
  | _ => ("StreamIds$Declaration", "ownId", "J", false)
def jt_D : Nat → FieldType := fun k => match k with
  | 0 => .boolean
  | 1 => .object "StreamIds$Text"
  | 2 => .int
  | 3 => .object "StreamIds$Row"
  | 4 => .object "StreamIds$Row"
  | 5 => .boolean
  | _ => .long
theorem jn_D : ∀ a, a < 7 → ∀ b, b < 7 → a ≠ b → (jT_D a).2.1 ≠ (jT_D b).2.1 := by decide +kernel
theorem jt_D_ok : ∀ k, k < 7 → parseFieldDescriptor (jT_D k).2.2.1 = some (jt_D k) := by decide +kernel
theorem ju_D : ∀ w ∈ u_ws "StreamIds$Declaration" jT_D 7, w ∈ zzW := by
  intro w hw
  obtain ⟨k, hk, rfl⟩ := List.mem_map.mp hw
  have hk := List.mem_range.mp hk
  match k, hk with
  | 0, _ => exact jw_144
  | 1, _ => exact jw_146
  | 2, _ => exact jw_148
  | 3, _ => exact jw_150
  | 4, _ => exact jw_152
  | 5, _ => exact jw_154
  | 6, _ => exact jw_156
  | k + 7, h => exact absurd h (by omega)
def jT_R : u_T := fun k => match k with
  | 0 => ("StreamIds$Row", "entries", "[LStreamIds$Entry;", true)
  | _ => ("StreamIds$Row", "used", "I", false)
def jt_R : Nat → FieldType := fun k => match k with
  | 0 => .array (.object "StreamIds$Entry")
  | _ => .int
theorem jn_R : ∀ a, a < 2 → ∀ b, b < 2 → a ≠ b → (jT_R a).2.1 ≠ (jT_R b).2.1 := by decide +kernel
theorem jt_R_ok : ∀ k, k < 2 → parseFieldDescriptor (jT_R k).2.2.1 = some (jt_R k) := by decide +kernel
theorem ju_R : ∀ w ∈ u_ws "StreamIds$Row" jT_R 2, w ∈ zzW := by
  intro w hw
  obtain ⟨k, hk, rfl⟩ := List.mem_map.mp hw
  have hk := List.mem_range.mp hk
  match k, hk with
  | 0, _ => exact jw_123
  | 1, _ => exact jw_125
  | k + 2, h => exact absurd h (by omega)
def jT_E : u_T := fun k => match k with
  | 0 => ("StreamIds$Entry", "kind", "I", false)
  | 1 => ("StreamIds$Entry", "modifiers", "I", false)
  | 2 => ("StreamIds$Entry", "name", "LStreamIds$Text;", true)
  | _ => ("StreamIds$Entry", "shape", "LStreamIds$Text;", true)
def jt_E : Nat → FieldType := fun k => match k with
  | 0 => .int
  | 1 => .int
  | 2 => .object "StreamIds$Text"
  | _ => .object "StreamIds$Text"
theorem jn_E : ∀ a, a < 4 → ∀ b, b < 4 → a ≠ b → (jT_E a).2.1 ≠ (jT_E b).2.1 := by decide +kernel
theorem jt_E_ok : ∀ k, k < 4 → parseFieldDescriptor (jT_E k).2.2.1 = some (jt_E k) := by decide +kernel
theorem ju_E : ∀ w ∈ u_ws "StreamIds$Entry" jT_E 4, w ∈ zzW := by
  intro w hw
  obtain ⟨k, hk, rfl⟩ := List.mem_map.mp hw
  have hk := List.mem_range.mp hk
  match k, hk with
  | 0, _ => exact jw_108
  | 1, _ => exact jw_110
  | 2, _ => exact jw_112
  | 3, _ => exact jw_114
  | k + 4, h => exact absurd h (by omega)
def jT_M : u_T := fun k => match k with
  | 0 => ("StreamIdsModel", "sign", "[I", true)
  | 1 => ("StreamIdsModel", "length", "[I", true)
  | 2 => ("StreamIdsModel", "there", "[Z", true)
  | 3 => ("StreamIdsModel", "modifiers", "[I", true)
  | 4 => ("StreamIdsModel", "faces", "[I", true)
  | 5 => ("StreamIdsModel", "members", "[I", true)
  | 6 => ("StreamIdsModel", "declared", "[Z", true)
  | 7 => ("StreamIdsModel", "given", "[J", true)
  | 8 => ("StreamIdsModel", "kind", "[I", true)
  | 9 => ("StreamIdsModel", "flags", "[I", true)
  | 10 => ("StreamIdsModel", "bytes", "[I", true)
  | 11 => ("StreamIdsModel", "size", "I", false)
  | 12 => ("StreamIdsModel", "part", "[I", true)
  | 13 => ("StreamIdsModel", "h", "[I", true)
  | 14 => ("StreamIdsModel", "w", "[I", true)
  | 15 => ("StreamIdsModel", "at", "I", false)
  | _ => ("StreamIdsModel", "end", "I", false)
def jt_M : Nat → FieldType := fun k => match k with
  | 0 => .array .int
  | 1 => .array .int
  | 2 => .array .boolean
  | 3 => .array .int
  | 4 => .array .int
  | 5 => .array .int
  | 6 => .array .boolean
  | 7 => .array .long
  | 8 => .array .int
  | 9 => .array .int
  | 10 => .array .int
  | 11 => .int
  | 12 => .array .int
  | 13 => .array .int
  | 14 => .array .int
  | 15 => .int
  | _ => .int
theorem jn_M : ∀ a, a < 17 → ∀ b, b < 17 → a ≠ b → (jT_M a).2.1 ≠ (jT_M b).2.1 := by decide +kernel
theorem jt_M_ok : ∀ k, k < 17 → parseFieldDescriptor (jT_M k).2.2.1 = some (jt_M k) := by decide +kernel
theorem ju_M : ∀ w ∈ u_ws "StreamIdsModel" jT_M 17, w ∈ zzW := by
  intro w hw
  obtain ⟨k, hk, rfl⟩ := List.mem_map.mp hw
  have hk := List.mem_range.mp hk
  match k, hk with
  | 0, _ => exact jw_498
  | 1, _ => exact jw_500
  | 2, _ => exact jw_502
  | 3, _ => exact jw_504
  | 4, _ => exact jw_506
  | 5, _ => exact jw_508
  | 6, _ => exact jw_510
  | 7, _ => exact jw_512
  | 8, _ => exact jw_514
  | 9, _ => exact jw_516
  | 10, _ => exact jw_518
  | 11, _ => exact jw_520
  | 12, _ => exact jw_522
  | 13, _ => exact jw_524
  | 14, _ => exact jw_526
  | 15, _ => exact jw_528
  | 16, _ => exact jw_530
  | k + 17, h => exact absurd h (by omega)
abbrev vwCl : List vw_C := [("StreamIds", jT_S, 5), ("StreamIds$Text", jT_T, 2), ("StreamIds$Layout", jT_L, 3), ("StreamIds$Digest", jT_G, 2), ("StreamIds$Declaration", jT_D, 7), ("StreamIds$Row", jT_R, 2), ("StreamIds$Entry", jT_E, 4), ("StreamIdsModel", jT_M, 17)]
def zzTy : List FieldType := [.byte, .int, .boolean, .long, (.object "StreamIds$Entry"), (.object "StreamIds$Declaration")]
def zzNF : List (String × Nat × String × String × String × String) := [("StreamIds$Shapes", 15, "StreamIds$Text", "length", "I", "StreamIds"), ("StreamIds", 48, "StreamIds$Text", "length", "I", "StreamIds"), ("StreamIds$Layout", 92, "StreamIds$Text", "length", "I", "StreamIds"), ("StreamIds$Digest", 27, "StreamIds$Layout", "length", "I", "StreamIds"), ("StreamIds", 129, "StreamIds$Layout", "length", "I", "StreamIds"), ("StreamIds", 134, "StreamIds$Layout", "begins", "[I", "StreamIds"), ("StreamIds", 125, "StreamIds$Digest", "numbers", "[I", "StreamIds"), ("StreamIds$Row", 34, "StreamIds$Entry", "kind", "I", "StreamIds"), ("StreamIds$Layout", 61, "StreamIds$Entry", "kind", "I", "StreamIds"), ("StreamIds$Layout", 75, "StreamIds$Entry", "modifiers", "I", "StreamIds"), ("StreamIds$Layout", 74, "StreamIds$Entry", "name", "LStreamIds$Text;", "StreamIds"), ("StreamIds$Layout", 78, "StreamIds$Entry", "shape", "LStreamIds$Text;", "StreamIds"), ("StreamIds$Layout", 57, "StreamIds$Row", "entries", "[LStreamIds$Entry;", "StreamIds"), ("StreamIds$Declaration", 49, "StreamIds$Row", "used", "I", "StreamIds"), ("StreamIds$Layout", 52, "StreamIds$Row", "used", "I", "StreamIds"), ("StreamIds", 137, "StreamIds$Row", "used", "I", "StreamIds"), ("StreamIds", 143, "StreamIds$Declaration", "isThere", "Z", "StreamIds"), ("StreamIds$Layout", 23, "StreamIds$Declaration", "name", "LStreamIds$Text;", "StreamIds"), ("StreamIds", 110, "StreamIds$Declaration", "modifiers", "I", "StreamIds"), ("StreamIds$Layout", 41, "StreamIds$Declaration", "faces", "LStreamIds$Row;", "StreamIds"), ("StreamIds", 73, "StreamIds$Declaration", "faces", "LStreamIds$Row;", "StreamIds"), ("StreamIds$Layout", 49, "StreamIds$Declaration", "members", "LStreamIds$Row;", "StreamIds"), ("StreamIds", 93, "StreamIds$Declaration", "members", "LStreamIds$Row;", "StreamIds"), ("StreamIds", 100, "StreamIds$Declaration", "hasOwnId", "Z", "StreamIds"), ("StreamIds", 104, "StreamIds$Declaration", "ownId", "J", "StreamIds"), ("StreamIds$Digest", 18, "StreamIds", "HASH_BEGIN", "[I", "StreamIds"), ("StreamIds$Digest", 61, "StreamIds", "ROUND_NUMBERS", "[I", "StreamIds")]
def zzNM : List (String × Nat × MethodName × String) := [("StreamIds", 11, ⟨"StreamIds$Text", "<init>", "()V"⟩, "StreamIds"), ("StreamIds", 27, ⟨"StreamIds$Layout", "<init>", "()V"⟩, "StreamIds"), ("StreamIds", 34, ⟨"StreamIds$Digest", "<init>", "()V"⟩, "StreamIds"), ("StreamIds", 39, ⟨"StreamIds$Declaration", "<init>", "()V"⟩, "StreamIds"), ("StreamIds$Declaration", 17, ⟨"StreamIds$Text", "<init>", "()V"⟩, "StreamIds"), ("StreamIds$Row", 21, ⟨"StreamIds$Entry", "<init>", "()V"⟩, "StreamIds"), ("StreamIds$Entry", 20, ⟨"StreamIds$Text", "<init>", "()V"⟩, "StreamIds")]
def zzT : List (String × String × List Int32) := [("StreamIds", "HASH_BEGIN", [1732584193, -271733879, -1732584194, 271733878, -1009589776]), ("StreamIds", "ROUND_NUMBERS", [1518500249, 1859775393, -1894007588, -899497514])]
def zzAO : List String := ["StreamIds$Declaration", "StreamIds$Entry"]
def zzX : List (String × Nat × String) := [("StreamIds$Layout", 81, "<clinit>"), ("StreamIds$Layout", 87, "()V"), ("StreamIds$Layout", 88, "<init>")]
def zzXl : List Nat := [8, 3, 6]
def zzXb : List (List Int32) := [[60, 99, 108, 105, 110, 105, 116, 62], [40, 41, 86], [60, 105, 110, 105, 116, 62]]
def zzI : List (String × String × String × Int32) := [("java/lang/String", "COMPACT_STRINGS", "Z", 1)]
