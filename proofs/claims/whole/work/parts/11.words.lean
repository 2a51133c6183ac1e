/-! the methods, and where their words stand in the tables (written by wip/whole/gen/gen11.py) -/
theorem am_sel {q : MethodName × Nat} (h : q ∈ lw_privs) : Cond.selects q.1.cls q.1 q.1 ∈ am_gt := am_gi (List.mem_append_left _ (List.mem_map.mpr ⟨q, h, rfl⟩)) rfl
theorem am_pv_1 {q : MethodName × Nat} (h : q ∈ lw_privs_1) : q ∈ lw_privs := List.mem_append_left _ h
theorem am_pv_2 {q : MethodName × Nat} (h : q ∈ lw_privs_2) : q ∈ lw_privs := List.mem_append_right _ (List.mem_append_left _ h)
theorem am_pv_3 {q : MethodName × Nat} (h : q ∈ lw_privs_3) : q ∈ lw_privs := List.mem_append_right _ (List.mem_append_right _ (List.mem_append_left _ h))
theorem am_pv_4 {q : MethodName × Nat} (h : q ∈ lw_privs_4) : q ∈ lw_privs := List.mem_append_right _ (List.mem_append_right _ (List.mem_append_right _ (List.mem_append_left _ h)))
theorem am_pv_5 {q : MethodName × Nat} (h : q ∈ lw_privs_5) : q ∈ lw_privs := List.mem_append_right _ (List.mem_append_right _ (List.mem_append_right _ (List.mem_append_right _ (List.mem_append_left _ h))))
theorem am_pv_6 {q : MethodName × Nat} (h : q ∈ lw_privs_6) : q ∈ lw_privs := List.mem_append_right _ (List.mem_append_right _ (List.mem_append_right _ (List.mem_append_right _ (List.mem_append_right _ (List.mem_append_left _ h)))))
theorem am_pv_7 {q : MethodName × Nat} (h : q ∈ lw_privs_7) : q ∈ lw_privs := List.mem_append_right _ (List.mem_append_right _ (List.mem_append_right _ (List.mem_append_right _ (List.mem_append_right _ (List.mem_append_right _ (List.mem_append_left _ h))))))
theorem am_pv_8 {q : MethodName × Nat} (h : q ∈ lw_privs_8) : q ∈ lw_privs := List.mem_append_right _ (List.mem_append_right _ (List.mem_append_right _ (List.mem_append_right _ (List.mem_append_right _ (List.mem_append_right _ (List.mem_append_right _ (List.mem_append_left _ h)))))))
theorem am_pv_9 {q : MethodName × Nat} (h : q ∈ lw_privs_9) : q ∈ lw_privs := List.mem_append_right _ (List.mem_append_right _ (List.mem_append_right _ (List.mem_append_right _ (List.mem_append_right _ (List.mem_append_right _ (List.mem_append_right _ (List.mem_append_right _ (List.mem_append_left _ h))))))))
theorem am_pv_10 {q : MethodName × Nat} (h : q ∈ lw_privs_10) : q ∈ lw_privs := List.mem_append_right _ (List.mem_append_right _ (List.mem_append_right _ (List.mem_append_right _ (List.mem_append_right _ (List.mem_append_right _ (List.mem_append_right _ (List.mem_append_right _ (List.mem_append_right _ (h)))))))))
abbrev b_U_init : ByteArray := prog_1_method_1_code
abbrev y_U_init : MethodName := ⟨"UnseenRing", "<init>", "()V"⟩
theorem ini_U : Cond.initialized "UnseenRing" ∈ am_gt := am_gi (tb_1 (List.mem_of_getElem? (i := 1) rfl)) rfl
theorem ce_U_init : am_callee y_U_init b_U_init 2 (none) 0 := ⟨am_gi (tb_1 (List.mem_of_getElem? (i := 26) rfl)) rfl, ini_U, ⟨by decide, by decide, by decide +kernel⟩, by decide⟩
theorem in_U_init : y_U_init.name = "<init>" ∧ Cond.instanceMethod y_U_init ∈ am_gt := ⟨rfl, am_gi (tb_1 (List.mem_of_getElem? (i := 25) rfl)) rfl⟩
abbrev b_Tokens_init : ByteArray := prog_11_method_1_code
abbrev y_Tokens_init : MethodName := ⟨"UnseenRing$Tokens", "<init>", "()V"⟩
theorem ini_Tokens : Cond.initialized "UnseenRing$Tokens" ∈ am_gt := am_gi (tb_1 (List.mem_of_getElem? (i := 2) rfl)) rfl
theorem ce_Tokens_init : am_callee y_Tokens_init b_Tokens_init 6 (none) 0 := ⟨am_gi (tb_1 (List.mem_of_getElem? (i := 36) rfl)) rfl, ini_Tokens, ⟨by decide, by decide, by decide +kernel⟩, by decide⟩
theorem in_Tokens_init : y_Tokens_init.name = "<init>" ∧ Cond.instanceMethod y_Tokens_init ∈ am_gt := ⟨rfl, am_gi (tb_1 (List.mem_of_getElem? (i := 35) rfl)) rfl⟩
abbrev b_String_length : ByteArray := prog_17_method_54_code
abbrev y_String_length : MethodName := ⟨"java/lang/String", "length", "()I"⟩
theorem ini_String : Cond.initialized "java/lang/String" ∈ am_gt := am_gi (tb_1 (List.mem_of_getElem? (i := 3) rfl)) rfl
theorem ce_String_length : am_callee y_String_length b_String_length 1 (some .int) 0 := ⟨am_gi (tb_1 (List.mem_of_getElem? (i := 42) rfl)) rfl, ini_String, ⟨by decide, by decide, by decide +kernel⟩, by decide⟩
theorem in_String_length : Cond.instanceMethod y_String_length ∈ am_gt ∧ Cond.selects y_String_length.cls y_String_length y_String_length ∈ am_gt := ⟨am_gi (tb_1 (List.mem_of_getElem? (i := 40) rfl)) rfl, am_gi (tb_1 (List.mem_of_getElem? (i := 41) rfl)) rfl⟩
abbrev b_String_coder : ByteArray := prog_17_method_152_code
abbrev y_String_coder : MethodName := ⟨"java/lang/String", "coder", "()B"⟩
theorem ce_String_coder : am_callee y_String_coder b_String_coder 1 (some .byte) 0 := ⟨am_gi (tb_1 (List.mem_of_getElem? (i := 46) rfl)) rfl, ini_String, ⟨by decide, by decide, by decide +kernel⟩, by decide⟩
theorem in_String_coder : Cond.instanceMethod y_String_coder ∈ am_gt ∧ Cond.selects y_String_coder.cls y_String_coder y_String_coder ∈ am_gt := ⟨am_gi (tb_1 (List.mem_of_getElem? (i := 44) rfl)) rfl, am_gi (tb_1 (List.mem_of_getElem? (i := 45) rfl)) rfl⟩
abbrev b_String_charAt : ByteArray := prog_17_method_56_code
abbrev y_String_charAt : MethodName := ⟨"java/lang/String", "charAt", "(I)C"⟩
theorem ce_String_charAt : am_callee y_String_charAt b_String_charAt 2 (some .char) 1 := ⟨am_gi (tb_1 (List.mem_of_getElem? (i := 52) rfl)) rfl, ini_String, ⟨by decide, by decide, by decide +kernel⟩, by decide⟩
theorem in_String_charAt : Cond.instanceMethod y_String_charAt ∈ am_gt ∧ Cond.selects y_String_charAt.cls y_String_charAt y_String_charAt ∈ am_gt := ⟨am_gi (tb_1 (List.mem_of_getElem? (i := 50) rfl)) rfl, am_gi (tb_1 (List.mem_of_getElem? (i := 51) rfl)) rfl⟩
abbrev b_String_isLatin1 : ByteArray := prog_17_method_154_code
abbrev y_String_isLatin1 : MethodName := ⟨"java/lang/String", "isLatin1", "()Z"⟩
theorem ce_String_isLatin1 : am_callee y_String_isLatin1 b_String_isLatin1 1 (some .boolean) 0 := ⟨am_gi (tb_1 (List.mem_of_getElem? (i := 56) rfl)) rfl, ini_String, ⟨by decide, by decide, by decide +kernel⟩, by decide⟩
theorem in_String_isLatin1 : Cond.instanceMethod y_String_isLatin1 ∈ am_gt ∧ Cond.selects y_String_isLatin1.cls y_String_isLatin1 y_String_isLatin1 ∈ am_gt := ⟨am_gi (tb_1 (List.mem_of_getElem? (i := 54) rfl)) rfl, am_gi (tb_1 (List.mem_of_getElem? (i := 55) rfl)) rfl⟩
abbrev b_StringLatin1_charAt : ByteArray := prog_18_method_2_code
abbrev y_StringLatin1_charAt : MethodName := ⟨"java/lang/StringLatin1", "charAt", "([BI)C"⟩
theorem ini_StringLatin1 : Cond.initialized "java/lang/StringLatin1" ∈ am_gt := am_gi (tb_1 (List.mem_of_getElem? (i := 4) rfl)) rfl
theorem ce_StringLatin1_charAt : am_callee y_StringLatin1_charAt b_StringLatin1_charAt 2 (some .char) 2 := ⟨am_gi (tb_1 (List.mem_of_getElem? (i := 59) rfl)) rfl, ini_StringLatin1, ⟨by decide, by decide, by decide +kernel⟩, by decide⟩
theorem st_StringLatin1_charAt : Cond.static y_StringLatin1_charAt ∈ am_gt := am_gi (tb_1 (List.mem_of_getElem? (i := 58) rfl)) rfl
abbrev b_String_checkIndex : ByteArray := prog_17_method_155_code
abbrev y_String_checkIndex : MethodName := ⟨"java/lang/String", "checkIndex", "(II)V"⟩
theorem ce_String_checkIndex : am_callee y_String_checkIndex b_String_checkIndex 2 (none) 2 := ⟨am_gi (tb_1 (List.mem_of_getElem? (i := 62) rfl)) rfl, ini_String, ⟨by decide, by decide, by decide +kernel⟩, by decide⟩
theorem st_String_checkIndex : Cond.static y_String_checkIndex ∈ am_gt := am_gi (tb_1 (List.mem_of_getElem? (i := 61) rfl)) rfl
abbrev b_Preconditions_checkIndex : ByteArray := prog_22_method_11_code
abbrev y_Preconditions_checkIndex : MethodName := ⟨"jdk/internal/util/Preconditions", "checkIndex", "(IILjava/util/function/BiFunction;)I"⟩
theorem ini_Preconditions : Cond.initialized "jdk/internal/util/Preconditions" ∈ am_gt := am_gi (tb_1 (List.mem_of_getElem? (i := 5) rfl)) rfl
theorem ce_Preconditions_checkIndex : am_callee y_Preconditions_checkIndex b_Preconditions_checkIndex 3 (some .int) 3 := ⟨am_gi (tb_1 (List.mem_of_getElem? (i := 67) rfl)) rfl, ini_Preconditions, ⟨by decide, by decide, by decide +kernel⟩, by decide⟩
theorem st_Preconditions_checkIndex : Cond.static y_Preconditions_checkIndex ∈ am_gt := am_gi (tb_1 (List.mem_of_getElem? (i := 66) rfl)) rfl
abbrev b_StringUTF16_charAt : ByteArray := prog_19_method_83_code
abbrev y_StringUTF16_charAt : MethodName := ⟨"java/lang/StringUTF16", "charAt", "([BI)C"⟩
theorem ini_StringUTF16 : Cond.initialized "java/lang/StringUTF16" ∈ am_gt := am_gi (tb_1 (List.mem_of_getElem? (i := 6) rfl)) rfl
theorem ce_StringUTF16_charAt : am_callee y_StringUTF16_charAt b_StringUTF16_charAt 2 (some .char) 2 := ⟨am_gi (tb_1 (List.mem_of_getElem? (i := 70) rfl)) rfl, ini_StringUTF16, ⟨by decide, by decide, by decide +kernel⟩, by decide⟩
theorem st_StringUTF16_charAt : Cond.static y_StringUTF16_charAt ∈ am_gt := am_gi (tb_1 (List.mem_of_getElem? (i := 69) rfl)) rfl
abbrev b_StringUTF16_checkIndex : ByteArray := prog_19_method_91_code
abbrev y_StringUTF16_checkIndex : MethodName := ⟨"java/lang/StringUTF16", "checkIndex", "(I[B)V"⟩
theorem ce_StringUTF16_checkIndex : am_callee y_StringUTF16_checkIndex b_StringUTF16_checkIndex 2 (none) 2 := ⟨am_gi (tb_1 (List.mem_of_getElem? (i := 73) rfl)) rfl, ini_StringUTF16, ⟨by decide, by decide, by decide +kernel⟩, by decide⟩
theorem st_StringUTF16_checkIndex : Cond.static y_StringUTF16_checkIndex ∈ am_gt := am_gi (tb_1 (List.mem_of_getElem? (i := 72) rfl)) rfl
abbrev b_StringUTF16_length : ByteArray := prog_19_method_6_code
abbrev y_StringUTF16_length : MethodName := ⟨"java/lang/StringUTF16", "length", "([B)I"⟩
theorem ce_StringUTF16_length : am_callee y_StringUTF16_length b_StringUTF16_length 1 (some .int) 1 := ⟨am_gi (tb_1 (List.mem_of_getElem? (i := 76) rfl)) rfl, ini_StringUTF16, ⟨by decide, by decide, by decide +kernel⟩, by decide⟩
theorem st_StringUTF16_length : Cond.static y_StringUTF16_length ∈ am_gt := am_gi (tb_1 (List.mem_of_getElem? (i := 75) rfl)) rfl
abbrev b_StringUTF16_getChar : ByteArray := prog_19_method_5_code
abbrev y_StringUTF16_getChar : MethodName := ⟨"java/lang/StringUTF16", "getChar", "([BI)C"⟩
theorem ce_StringUTF16_getChar : am_callee y_StringUTF16_getChar b_StringUTF16_getChar 2 (some .char) 2 := ⟨am_gi (tb_1 (List.mem_of_getElem? (i := 80) rfl)) rfl, ini_StringUTF16, ⟨by decide, by decide, by decide +kernel⟩, by decide⟩
theorem st_StringUTF16_getChar : Cond.static y_StringUTF16_getChar ∈ am_gt := am_gi (tb_1 (List.mem_of_getElem? (i := 79) rfl)) rfl
abbrev b_Tokens_withLetter : ByteArray := prog_11_method_19_code
abbrev y_Tokens_withLetter : MethodName := ⟨"UnseenRing$Tokens", "withLetter", "(JI)J"⟩
theorem ce_Tokens_withLetter : am_callee y_Tokens_withLetter b_Tokens_withLetter 3 (some .long) 2 := ⟨am_gi (tb_1 (List.mem_of_getElem? (i := 89) rfl)) rfl, ini_Tokens, ⟨by decide, by decide, by decide +kernel⟩, by decide⟩
theorem st_Tokens_withLetter : Cond.static y_Tokens_withLetter ∈ am_gt := am_gi (tb_1 (List.mem_of_getElem? (i := 88) rfl)) rfl
abbrev b_SquareReader_init : ByteArray := prog_10_method_1_code
abbrev y_SquareReader_init : MethodName := ⟨"UnseenRing$SquareReader", "<init>", "()V"⟩
theorem ini_SquareReader : Cond.initialized "UnseenRing$SquareReader" ∈ am_gt := am_gi (tb_1 (List.mem_of_getElem? (i := 7) rfl)) rfl
theorem ce_SquareReader_init : am_callee y_SquareReader_init b_SquareReader_init 1 (none) 0 := ⟨am_gi (tb_1 (List.mem_of_getElem? (i := 142) rfl)) rfl, ini_SquareReader, ⟨by decide, by decide, by decide +kernel⟩, by decide⟩
theorem in_SquareReader_init : y_SquareReader_init.name = "<init>" ∧ Cond.instanceMethod y_SquareReader_init ∈ am_gt := ⟨rfl, am_gi (tb_1 (List.mem_of_getElem? (i := 141) rfl)) rfl⟩
abbrev b_DaysReader_init : ByteArray := prog_4_method_1_code
abbrev y_DaysReader_init : MethodName := ⟨"UnseenRing$DaysReader", "<init>", "()V"⟩
theorem ini_DaysReader : Cond.initialized "UnseenRing$DaysReader" ∈ am_gt := am_gi (tb_1 (List.mem_of_getElem? (i := 8) rfl)) rfl
theorem ce_DaysReader_init : am_callee y_DaysReader_init b_DaysReader_init 1 (none) 0 := ⟨am_gi (tb_1 (List.mem_of_getElem? (i := 158) rfl)) rfl, ini_DaysReader, ⟨by decide, by decide, by decide +kernel⟩, by decide⟩
theorem in_DaysReader_init : y_DaysReader_init.name = "<init>" ∧ Cond.instanceMethod y_DaysReader_init ∈ am_gt := ⟨rfl, am_gi (tb_1 (List.mem_of_getElem? (i := 157) rfl)) rfl⟩
abbrev b_Life_init : ByteArray := prog_6_method_1_code
abbrev y_Life_init : MethodName := ⟨"UnseenRing$Life", "<init>", "()V"⟩
theorem ini_Life : Cond.initialized "UnseenRing$Life" ∈ am_gt := am_gi (tb_1 (List.mem_of_getElem? (i := 9) rfl)) rfl
theorem ce_Life_init : am_callee y_Life_init b_Life_init 1 (none) 0 := ⟨am_gi (tb_1 (List.mem_of_getElem? (i := 173) rfl)) rfl, ini_Life, ⟨by decide, by decide, by decide +kernel⟩, by decide⟩
theorem in_Life_init : y_Life_init.name = "<init>" ∧ Cond.instanceMethod y_Life_init ∈ am_gt := ⟨rfl, am_gi (tb_1 (List.mem_of_getElem? (i := 172) rfl)) rfl⟩
abbrev b_Rows_init : ByteArray := prog_8_method_1_code
abbrev y_Rows_init : MethodName := ⟨"UnseenRing$Rows", "<init>", "()V"⟩
theorem ini_Rows : Cond.initialized "UnseenRing$Rows" ∈ am_gt := am_gi (tb_1 (List.mem_of_getElem? (i := 10) rfl)) rfl
theorem ce_Rows_init : am_callee y_Rows_init b_Rows_init 1 (none) 0 := ⟨am_gi (tb_1 (List.mem_of_getElem? (i := 218) rfl)) rfl, ini_Rows, ⟨by decide, by decide, by decide +kernel⟩, by decide⟩
theorem in_Rows_init : y_Rows_init.name = "<init>" ∧ Cond.instanceMethod y_Rows_init ∈ am_gt := ⟨rfl, am_gi (tb_1 (List.mem_of_getElem? (i := 217) rfl)) rfl⟩
abbrev b_Placings_init : ByteArray := prog_7_method_1_code
abbrev y_Placings_init : MethodName := ⟨"UnseenRing$Placings", "<init>", "()V"⟩
theorem ini_Placings : Cond.initialized "UnseenRing$Placings" ∈ am_gt := am_gi (tb_1 (List.mem_of_getElem? (i := 11) rfl)) rfl
theorem ce_Placings_init : am_callee y_Placings_init b_Placings_init 1 (none) 0 := ⟨am_gi (tb_2 (List.mem_of_getElem? (i := 3) rfl)) rfl, ini_Placings, ⟨by decide, by decide, by decide +kernel⟩, by decide⟩
theorem in_Placings_init : y_Placings_init.name = "<init>" ∧ Cond.instanceMethod y_Placings_init ∈ am_gt := ⟨rfl, am_gi (tb_2 (List.mem_of_getElem? (i := 2) rfl)) rfl⟩
abbrev b_Covering_init : ByteArray := prog_2_method_1_code
abbrev y_Covering_init : MethodName := ⟨"UnseenRing$Covering", "<init>", "()V"⟩
theorem ini_Covering : Cond.initialized "UnseenRing$Covering" ∈ am_gt := am_gi (tb_1 (List.mem_of_getElem? (i := 12) rfl)) rfl
theorem ce_Covering_init : am_callee y_Covering_init b_Covering_init 1 (none) 0 := ⟨am_gi (tb_2 (List.mem_of_getElem? (i := 19) rfl)) rfl, ini_Covering, ⟨by decide, by decide, by decide +kernel⟩, by decide⟩
theorem in_Covering_init : y_Covering_init.name = "<init>" ∧ Cond.instanceMethod y_Covering_init ∈ am_gt := ⟨rfl, am_gi (tb_2 (List.mem_of_getElem? (i := 18) rfl)) rfl⟩
abbrev b_Knowing_init : ByteArray := prog_5_method_1_code
abbrev y_Knowing_init : MethodName := ⟨"UnseenRing$Knowing", "<init>", "()V"⟩
theorem ini_Knowing : Cond.initialized "UnseenRing$Knowing" ∈ am_gt := am_gi (tb_1 (List.mem_of_getElem? (i := 13) rfl)) rfl
theorem ce_Knowing_init : am_callee y_Knowing_init b_Knowing_init 1 (none) 0 := ⟨am_gi (tb_2 (List.mem_of_getElem? (i := 38) rfl)) rfl, ini_Knowing, ⟨by decide, by decide, by decide +kernel⟩, by decide⟩
theorem in_Knowing_init : y_Knowing_init.name = "<init>" ∧ Cond.instanceMethod y_Knowing_init ∈ am_gt := ⟨rfl, am_gi (tb_2 (List.mem_of_getElem? (i := 37) rfl)) rfl⟩
abbrev b_Square_init : ByteArray := prog_9_method_1_code
abbrev y_Square_init : MethodName := ⟨"UnseenRing$Square", "<init>", "()V"⟩
theorem ini_Square : Cond.initialized "UnseenRing$Square" ∈ am_gt := am_gi (tb_1 (List.mem_of_getElem? (i := 14) rfl)) rfl
theorem ce_Square_init : am_callee y_Square_init b_Square_init 1 (none) 0 := ⟨am_gi (tb_2 (List.mem_of_getElem? (i := 53) rfl)) rfl, ini_Square, ⟨by decide, by decide, by decide +kernel⟩, by decide⟩
theorem in_Square_init : y_Square_init.name = "<init>" ∧ Cond.instanceMethod y_Square_init ∈ am_gt := ⟨rfl, am_gi (tb_2 (List.mem_of_getElem? (i := 52) rfl)) rfl⟩
abbrev b_Days_init : ByteArray := prog_3_method_1_code
abbrev y_Days_init : MethodName := ⟨"UnseenRing$Days", "<init>", "()V"⟩
theorem ini_Days : Cond.initialized "UnseenRing$Days" ∈ am_gt := am_gi (tb_1 (List.mem_of_getElem? (i := 15) rfl)) rfl
theorem ce_Days_init : am_callee y_Days_init b_Days_init 1 (none) 0 := ⟨am_gi (tb_2 (List.mem_of_getElem? (i := 59) rfl)) rfl, ini_Days, ⟨by decide, by decide, by decide +kernel⟩, by decide⟩
theorem in_Days_init : y_Days_init.name = "<init>" ∧ Cond.instanceMethod y_Days_init ∈ am_gt := ⟨rfl, am_gi (tb_2 (List.mem_of_getElem? (i := 58) rfl)) rfl⟩
abbrev b_Tray_init : ByteArray := prog_12_method_1_code
abbrev y_Tray_init : MethodName := ⟨"UnseenRing$Tray", "<init>", "()V"⟩
theorem ini_Tray : Cond.initialized "UnseenRing$Tray" ∈ am_gt := am_gi (tb_1 (List.mem_of_getElem? (i := 16) rfl)) rfl
theorem ce_Tray_init : am_callee y_Tray_init b_Tray_init 1 (none) 0 := ⟨am_gi (tb_2 (List.mem_of_getElem? (i := 187) rfl)) rfl, ini_Tray, ⟨by decide, by decide, by decide +kernel⟩, by decide⟩
theorem in_Tray_init : y_Tray_init.name = "<init>" ∧ Cond.instanceMethod y_Tray_init ∈ am_gt := ⟨rfl, am_gi (tb_2 (List.mem_of_getElem? (i := 186) rfl)) rfl⟩
abbrev b_U_status : ByteArray := prog_1_method_2_code
abbrev y_U_status : MethodName := ⟨"UnseenRing", "status", "()I"⟩
theorem ce_U_status : am_callee y_U_status b_U_status 1 (some .int) 0 := ⟨am_gi (tb_3 (List.mem_of_getElem? (i := 20) rfl)) rfl, ini_U, ⟨by decide, by decide, by decide +kernel⟩, by decide⟩
theorem in_U_status : Cond.instanceMethod y_U_status ∈ am_gt ∧ Cond.selects y_U_status.cls y_U_status y_U_status ∈ am_gt := ⟨am_gi (tb_3 (List.mem_of_getElem? (i := 18) rfl)) rfl, am_gi (tb_3 (List.mem_of_getElem? (i := 19) rfl)) rfl⟩
abbrev b_U_top : ByteArray := prog_1_method_3_code
abbrev y_U_top : MethodName := ⟨"UnseenRing", "top", "()J"⟩
theorem ce_U_top : am_callee y_U_top b_U_top 1 (some .long) 0 := ⟨am_gi (tb_3 (List.mem_of_getElem? (i := 24) rfl)) rfl, ini_U, ⟨by decide, by decide, by decide +kernel⟩, by decide⟩
theorem in_U_top : Cond.instanceMethod y_U_top ∈ am_gt ∧ Cond.selects y_U_top.cls y_U_top y_U_top ∈ am_gt := ⟨am_gi (tb_3 (List.mem_of_getElem? (i := 22) rfl)) rfl, am_gi (tb_3 (List.mem_of_getElem? (i := 23) rfl)) rfl⟩
abbrev b_U_bottom : ByteArray := prog_1_method_4_code
abbrev y_U_bottom : MethodName := ⟨"UnseenRing", "bottom", "()J"⟩
theorem ce_U_bottom : am_callee y_U_bottom b_U_bottom 1 (some .long) 0 := ⟨am_gi (tb_3 (List.mem_of_getElem? (i := 28) rfl)) rfl, ini_U, ⟨by decide, by decide, by decide +kernel⟩, by decide⟩
theorem in_U_bottom : Cond.instanceMethod y_U_bottom ∈ am_gt ∧ Cond.selects y_U_bottom.cls y_U_bottom y_U_bottom ∈ am_gt := ⟨am_gi (tb_3 (List.mem_of_getElem? (i := 26) rfl)) rfl, am_gi (tb_3 (List.mem_of_getElem? (i := 27) rfl)) rfl⟩
abbrev b_U_tray : ByteArray := prog_1_method_5_code
abbrev y_U_tray : MethodName := ⟨"UnseenRing", "tray", "(III)Z"⟩
theorem ce_U_tray : am_callee y_U_tray b_U_tray 4 (some .boolean) 3 := ⟨am_gi (tb_3 (List.mem_of_getElem? (i := 32) rfl)) rfl, ini_U, ⟨by decide, by decide, by decide +kernel⟩, by decide⟩
theorem in_U_tray : Cond.instanceMethod y_U_tray ∈ am_gt ∧ Cond.selects y_U_tray.cls y_U_tray y_U_tray ∈ am_gt := ⟨am_gi (tb_3 (List.mem_of_getElem? (i := 30) rfl)) rfl, am_gi (tb_3 (List.mem_of_getElem? (i := 31) rfl)) rfl⟩
abbrev b_U_isTray : ByteArray := prog_1_method_9_code
abbrev y_U_isTray : MethodName := ⟨"UnseenRing", "isTray", "(I)Z"⟩
theorem ce_U_isTray : am_callee y_U_isTray b_U_isTray 1 (some .boolean) 1 := ⟨am_gi (tb_3 (List.mem_of_getElem? (i := 35) rfl)) rfl, ini_U, ⟨by decide, by decide, by decide +kernel⟩, by decide⟩
theorem st_U_isTray : Cond.static y_U_isTray ∈ am_gt := am_gi (tb_3 (List.mem_of_getElem? (i := 34) rfl)) rfl
abbrev b_U_within : ByteArray := prog_1_method_72_code
abbrev y_U_within : MethodName := ⟨"UnseenRing", "within", "(III)Z"⟩
theorem ce_U_within : am_callee y_U_within b_U_within 3 (some .boolean) 3 := ⟨am_gi (tb_3 (List.mem_of_getElem? (i := 38) rfl)) rfl, ini_U, ⟨by decide, by decide, by decide +kernel⟩, by decide⟩
theorem st_U_within : Cond.static y_U_within ∈ am_gt := am_gi (tb_3 (List.mem_of_getElem? (i := 37) rfl)) rfl
abbrev b_U_settled : ByteArray := prog_1_method_63_code
abbrev y_U_settled : MethodName := ⟨"UnseenRing", "settled", "(I)Z"⟩
theorem ce_U_settled : am_callee y_U_settled b_U_settled 2 (some .boolean) 1 := ⟨am_gi (tb_3 (List.mem_of_getElem? (i := 42) rfl)) rfl, ini_U, ⟨by decide, by decide, by decide +kernel⟩, by decide⟩
theorem in_U_settled : Cond.instanceMethod y_U_settled ∈ am_gt ∧ Cond.selects y_U_settled.cls y_U_settled y_U_settled ∈ am_gt := ⟨am_gi (tb_3 (List.mem_of_getElem? (i := 41) rfl)) rfl, am_sel (q := (y_U_settled, 18)) (am_pv_1 (List.mem_of_getElem? (i := 0) rfl))⟩
abbrev b_Tray_lay : ByteArray := prog_12_method_3_code
abbrev y_Tray_lay : MethodName := ⟨"UnseenRing$Tray", "lay", "(II)V"⟩
theorem ce_Tray_lay : am_callee y_Tray_lay b_Tray_lay 3 (none) 2 := ⟨am_gi (tb_3 (List.mem_of_getElem? (i := 46) rfl)) rfl, ini_Tray, ⟨by decide, by decide, by decide +kernel⟩, by decide⟩
theorem in_Tray_lay : Cond.instanceMethod y_Tray_lay ∈ am_gt ∧ Cond.selects y_Tray_lay.cls y_Tray_lay y_Tray_lay ∈ am_gt := ⟨am_gi (tb_3 (List.mem_of_getElem? (i := 44) rfl)) rfl, am_gi (tb_3 (List.mem_of_getElem? (i := 45) rfl)) rfl⟩
abbrev b_Arrays_fillJ : ByteArray := prog_21_method_101_code
abbrev y_Arrays_fillJ : MethodName := ⟨"java/util/Arrays", "fill", "([JJ)V"⟩
theorem ini_Arrays : Cond.initialized "java/util/Arrays" ∈ am_gt := am_gi (tb_1 (List.mem_of_getElem? (i := 18) rfl)) rfl
theorem ce_Arrays_fillJ : am_callee y_Arrays_fillJ b_Arrays_fillJ 5 (none) 2 := ⟨am_gi (tb_3 (List.mem_of_getElem? (i := 49) rfl)) rfl, ini_Arrays, ⟨by decide, by decide, by decide +kernel⟩, by decide⟩
theorem st_Arrays_fillJ : Cond.static y_Arrays_fillJ ∈ am_gt := am_gi (tb_3 (List.mem_of_getElem? (i := 48) rfl)) rfl
abbrev b_U_write : ByteArray := prog_1_method_6_code
abbrev y_U_write : MethodName := ⟨"UnseenRing", "write", "(IIJ)Z"⟩
theorem ce_U_write : am_callee y_U_write b_U_write 6 (some .boolean) 3 := ⟨am_gi (tb_3 (List.mem_of_getElem? (i := 53) rfl)) rfl, ini_U, ⟨by decide, by decide, by decide +kernel⟩, by decide⟩
theorem in_U_write : Cond.instanceMethod y_U_write ∈ am_gt ∧ Cond.selects y_U_write.cls y_U_write y_U_write ∈ am_gt := ⟨am_gi (tb_3 (List.mem_of_getElem? (i := 51) rfl)) rfl, am_gi (tb_3 (List.mem_of_getElem? (i := 52) rfl)) rfl⟩
abbrev b_U_placeStatus : ByteArray := prog_1_method_10_code
abbrev y_U_placeStatus : MethodName := ⟨"UnseenRing", "placeStatus", "(II)I"⟩
theorem ce_U_placeStatus : am_callee y_U_placeStatus b_U_placeStatus 4 (some .int) 2 := ⟨am_gi (tb_3 (List.mem_of_getElem? (i := 57) rfl)) rfl, ini_U, ⟨by decide, by decide, by decide +kernel⟩, by decide⟩
theorem in_U_placeStatus : Cond.instanceMethod y_U_placeStatus ∈ am_gt ∧ Cond.selects y_U_placeStatus.cls y_U_placeStatus y_U_placeStatus ∈ am_gt := ⟨am_gi (tb_3 (List.mem_of_getElem? (i := 56) rfl)) rfl, am_sel (q := (y_U_placeStatus, 18)) (am_pv_1 (List.mem_of_getElem? (i := 1) rfl))⟩
abbrev b_U_trayStatus : ByteArray := prog_1_method_11_code
abbrev y_U_trayStatus : MethodName := ⟨"UnseenRing", "trayStatus", "(II)I"⟩
theorem ce_U_trayStatus : am_callee y_U_trayStatus b_U_trayStatus 3 (some .int) 2 := ⟨am_gi (tb_3 (List.mem_of_getElem? (i := 61) rfl)) rfl, ini_U, ⟨by decide, by decide, by decide +kernel⟩, by decide⟩
theorem in_U_trayStatus : Cond.instanceMethod y_U_trayStatus ∈ am_gt ∧ Cond.selects y_U_trayStatus.cls y_U_trayStatus y_U_trayStatus ∈ am_gt := ⟨am_gi (tb_3 (List.mem_of_getElem? (i := 60) rfl)) rfl, am_sel (q := (y_U_trayStatus, 18)) (am_pv_1 (List.mem_of_getElem? (i := 2) rfl))⟩
abbrev b_Tray_isMissing : ByteArray := prog_12_method_2_code
abbrev y_Tray_isMissing : MethodName := ⟨"UnseenRing$Tray", "isMissing", "()Z"⟩
theorem ce_Tray_isMissing : am_callee y_Tray_isMissing b_Tray_isMissing 1 (some .boolean) 0 := ⟨am_gi (tb_3 (List.mem_of_getElem? (i := 65) rfl)) rfl, ini_Tray, ⟨by decide, by decide, by decide +kernel⟩, by decide⟩
theorem in_Tray_isMissing : Cond.instanceMethod y_Tray_isMissing ∈ am_gt ∧ Cond.selects y_Tray_isMissing.cls y_Tray_isMissing y_Tray_isMissing ∈ am_gt := ⟨am_gi (tb_3 (List.mem_of_getElem? (i := 63) rfl)) rfl, am_gi (tb_3 (List.mem_of_getElem? (i := 64) rfl)) rfl⟩
abbrev b_Tray_put : ByteArray := prog_12_method_4_code
abbrev y_Tray_put : MethodName := ⟨"UnseenRing$Tray", "put", "(IJ)V"⟩
theorem ce_Tray_put : am_callee y_Tray_put b_Tray_put 4 (none) 2 := ⟨am_gi (tb_3 (List.mem_of_getElem? (i := 69) rfl)) rfl, ini_Tray, ⟨by decide, by decide, by decide +kernel⟩, by decide⟩
theorem in_Tray_put : Cond.instanceMethod y_Tray_put ∈ am_gt ∧ Cond.selects y_Tray_put.cls y_Tray_put y_Tray_put ∈ am_gt := ⟨am_gi (tb_3 (List.mem_of_getElem? (i := 67) rfl)) rfl, am_gi (tb_3 (List.mem_of_getElem? (i := 68) rfl)) rfl⟩
abbrev b_Tray_cut : ByteArray := prog_12_method_6_code
abbrev y_Tray_cut : MethodName := ⟨"UnseenRing$Tray", "cut", "(J)J"⟩
theorem ce_Tray_cut : am_callee y_Tray_cut b_Tray_cut 3 (some .long) 1 := ⟨am_gi (tb_3 (List.mem_of_getElem? (i := 74) rfl)) rfl, ini_Tray, ⟨by decide, by decide, by decide +kernel⟩, by decide⟩
theorem in_Tray_cut : Cond.instanceMethod y_Tray_cut ∈ am_gt ∧ Cond.selects y_Tray_cut.cls y_Tray_cut y_Tray_cut ∈ am_gt := ⟨am_gi (tb_3 (List.mem_of_getElem? (i := 73) rfl)) rfl, am_sel (q := (y_Tray_cut, 3)) (am_pv_1 (List.mem_of_getElem? (i := 3) rfl))⟩
abbrev b_U_read : ByteArray := prog_1_method_7_code
abbrev y_U_read : MethodName := ⟨"UnseenRing", "read", "(II)J"⟩
theorem ce_U_read : am_callee y_U_read b_U_read 4 (some .long) 2 := ⟨am_gi (tb_3 (List.mem_of_getElem? (i := 78) rfl)) rfl, ini_U, ⟨by decide, by decide, by decide +kernel⟩, by decide⟩
theorem in_U_read : Cond.instanceMethod y_U_read ∈ am_gt ∧ Cond.selects y_U_read.cls y_U_read y_U_read ∈ am_gt := ⟨am_gi (tb_3 (List.mem_of_getElem? (i := 76) rfl)) rfl, am_gi (tb_3 (List.mem_of_getElem? (i := 77) rfl)) rfl⟩
abbrev b_U_refused : ByteArray := prog_1_method_64_code
abbrev y_U_refused : MethodName := ⟨"UnseenRing", "refused", "(I)I"⟩
theorem ce_U_refused : am_callee y_U_refused b_U_refused 2 (some .int) 1 := ⟨am_gi (tb_3 (List.mem_of_getElem? (i := 82) rfl)) rfl, ini_U, ⟨by decide, by decide, by decide +kernel⟩, by decide⟩
theorem in_U_refused : Cond.instanceMethod y_U_refused ∈ am_gt ∧ Cond.selects y_U_refused.cls y_U_refused y_U_refused ∈ am_gt := ⟨am_gi (tb_3 (List.mem_of_getElem? (i := 81) rfl)) rfl, am_sel (q := (y_U_refused, 18)) (am_pv_1 (List.mem_of_getElem? (i := 4) rfl))⟩
abbrev b_Tray_numberAt : ByteArray := prog_12_method_5_code
abbrev y_Tray_numberAt : MethodName := ⟨"UnseenRing$Tray", "numberAt", "(I)J"⟩
theorem ce_Tray_numberAt : am_callee y_Tray_numberAt b_Tray_numberAt 2 (some .long) 1 := ⟨am_gi (tb_3 (List.mem_of_getElem? (i := 86) rfl)) rfl, ini_Tray, ⟨by decide, by decide, by decide +kernel⟩, by decide⟩
theorem in_Tray_numberAt : Cond.instanceMethod y_Tray_numberAt ∈ am_gt ∧ Cond.selects y_Tray_numberAt.cls y_Tray_numberAt y_Tray_numberAt ∈ am_gt := ⟨am_gi (tb_3 (List.mem_of_getElem? (i := 84) rfl)) rfl, am_gi (tb_3 (List.mem_of_getElem? (i := 85) rfl)) rfl⟩
abbrev b_U_pour : ByteArray := prog_1_method_8_code
abbrev y_U_pour : MethodName := ⟨"UnseenRing", "pour", "(IIIII)Z"⟩
theorem ce_U_pour : am_callee y_U_pour b_U_pour 8 (some .boolean) 5 := ⟨am_gi (tb_3 (List.mem_of_getElem? (i := 91) rfl)) rfl, ini_U, ⟨by decide, by decide, by decide +kernel⟩, by decide⟩
theorem in_U_pour : Cond.instanceMethod y_U_pour ∈ am_gt ∧ Cond.selects y_U_pour.cls y_U_pour y_U_pour ∈ am_gt := ⟨am_gi (tb_3 (List.mem_of_getElem? (i := 89) rfl)) rfl, am_gi (tb_3 (List.mem_of_getElem? (i := 90) rfl)) rfl⟩
abbrev b_U_feed : ByteArray := prog_1_method_12_code
abbrev y_U_feed : MethodName := ⟨"UnseenRing", "feed", "(IIIII)I"⟩
theorem ce_U_feed : am_callee y_U_feed b_U_feed 6 (some .int) 5 := ⟨am_gi (tb_3 (List.mem_of_getElem? (i := 98) rfl)) rfl, ini_U, ⟨by decide, by decide, by decide +kernel⟩, by decide⟩
theorem in_U_feed : Cond.instanceMethod y_U_feed ∈ am_gt ∧ Cond.selects y_U_feed.cls y_U_feed y_U_feed ∈ am_gt := ⟨am_gi (tb_3 (List.mem_of_getElem? (i := 96) rfl)) rfl, am_gi (tb_3 (List.mem_of_getElem? (i := 97) rfl)) rfl⟩
abbrev b_Tokens_hasRoom : ByteArray := prog_11_method_2_code
abbrev y_Tokens_hasRoom : MethodName := ⟨"UnseenRing$Tokens", "hasRoom", "()Z"⟩
theorem ce_Tokens_hasRoom : am_callee y_Tokens_hasRoom b_Tokens_hasRoom 1 (some .boolean) 0 := ⟨am_gi (tb_3 (List.mem_of_getElem? (i := 102) rfl)) rfl, ini_Tokens, ⟨by decide, by decide, by decide +kernel⟩, by decide⟩
theorem in_Tokens_hasRoom : Cond.instanceMethod y_Tokens_hasRoom ∈ am_gt ∧ Cond.selects y_Tokens_hasRoom.cls y_Tokens_hasRoom y_Tokens_hasRoom ∈ am_gt := ⟨am_gi (tb_3 (List.mem_of_getElem? (i := 100) rfl)) rfl, am_gi (tb_3 (List.mem_of_getElem? (i := 101) rfl)) rfl⟩
abbrev b_Tokens_append : ByteArray := prog_11_method_3_code
abbrev y_Tokens_append : MethodName := ⟨"UnseenRing$Tokens", "append", "(I)V"⟩
theorem ce_Tokens_append : am_callee y_Tokens_append b_Tokens_append 3 (none) 1 := ⟨am_gi (tb_3 (List.mem_of_getElem? (i := 106) rfl)) rfl, ini_Tokens, ⟨by decide, by decide, by decide +kernel⟩, by decide⟩
theorem in_Tokens_append : Cond.instanceMethod y_Tokens_append ∈ am_gt ∧ Cond.selects y_Tokens_append.cls y_Tokens_append y_Tokens_append ∈ am_gt := ⟨am_gi (tb_3 (List.mem_of_getElem? (i := 104) rfl)) rfl, am_gi (tb_3 (List.mem_of_getElem? (i := 105) rfl)) rfl⟩
abbrev b_U_square : ByteArray := prog_1_method_13_code
abbrev y_U_square : MethodName := ⟨"UnseenRing", "square", "(I)I"⟩
theorem ce_U_square : am_callee y_U_square b_U_square 4 (some .int) 1 := ⟨am_gi (tb_3 (List.mem_of_getElem? (i := 110) rfl)) rfl, ini_U, ⟨by decide, by decide, by decide +kernel⟩, by decide⟩
theorem in_U_square : Cond.instanceMethod y_U_square ∈ am_gt ∧ Cond.selects y_U_square.cls y_U_square y_U_square ∈ am_gt := ⟨am_gi (tb_3 (List.mem_of_getElem? (i := 108) rfl)) rfl, am_gi (tb_3 (List.mem_of_getElem? (i := 109) rfl)) rfl⟩
abbrev b_SquareReader_readText : ByteArray := prog_10_method_2_code
abbrev y_SquareReader_readText : MethodName := ⟨"UnseenRing$SquareReader", "readText", "(LUnseenRing$Tokens;ILUnseenRing$Square;)Z"⟩
theorem ce_SquareReader_readText : am_callee y_SquareReader_readText b_SquareReader_readText 5 (some .boolean) 3 := ⟨am_gi (tb_3 (List.mem_of_getElem? (i := 114) rfl)) rfl, ini_SquareReader, ⟨by decide, by decide, by decide +kernel⟩, by decide⟩
theorem in_SquareReader_readText : Cond.instanceMethod y_SquareReader_readText ∈ am_gt ∧ Cond.selects y_SquareReader_readText.cls y_SquareReader_readText y_SquareReader_readText ∈ am_gt := ⟨am_gi (tb_3 (List.mem_of_getElem? (i := 112) rfl)) rfl, am_gi (tb_3 (List.mem_of_getElem? (i := 113) rfl)) rfl⟩
abbrev b_Square_reset : ByteArray := prog_9_method_2_code
abbrev y_Square_reset : MethodName := ⟨"UnseenRing$Square", "reset", "()V"⟩
theorem ce_Square_reset : am_callee y_Square_reset b_Square_reset 1 (none) 0 := ⟨am_gi (tb_3 (List.mem_of_getElem? (i := 118) rfl)) rfl, ini_Square, ⟨by decide, by decide, by decide +kernel⟩, by decide⟩
theorem in_Square_reset : Cond.instanceMethod y_Square_reset ∈ am_gt ∧ Cond.selects y_Square_reset.cls y_Square_reset y_Square_reset ∈ am_gt := ⟨am_gi (tb_3 (List.mem_of_getElem? (i := 116) rfl)) rfl, am_gi (tb_3 (List.mem_of_getElem? (i := 117) rfl)) rfl⟩
abbrev b_Days_clear : ByteArray := prog_3_method_2_code
abbrev y_Days_clear : MethodName := ⟨"UnseenRing$Days", "clear", "()V"⟩
theorem ce_Days_clear : am_callee y_Days_clear b_Days_clear 1 (none) 0 := ⟨am_gi (tb_3 (List.mem_of_getElem? (i := 122) rfl)) rfl, ini_Days, ⟨by decide, by decide, by decide +kernel⟩, by decide⟩
theorem in_Days_clear : Cond.instanceMethod y_Days_clear ∈ am_gt ∧ Cond.selects y_Days_clear.cls y_Days_clear y_Days_clear ∈ am_gt := ⟨am_gi (tb_3 (List.mem_of_getElem? (i := 120) rfl)) rfl, am_gi (tb_3 (List.mem_of_getElem? (i := 121) rfl)) rfl⟩
abbrev b_Tokens_begin : ByteArray := prog_11_method_5_code
abbrev y_Tokens_begin : MethodName := ⟨"UnseenRing$Tokens", "begin", "(I)V"⟩
theorem ce_Tokens_begin : am_callee y_Tokens_begin b_Tokens_begin 2 (none) 1 := ⟨am_gi (tb_3 (List.mem_of_getElem? (i := 126) rfl)) rfl, ini_Tokens, ⟨by decide, by decide, by decide +kernel⟩, by decide⟩
theorem in_Tokens_begin : Cond.instanceMethod y_Tokens_begin ∈ am_gt ∧ Cond.selects y_Tokens_begin.cls y_Tokens_begin y_Tokens_begin ∈ am_gt := ⟨am_gi (tb_3 (List.mem_of_getElem? (i := 124) rfl)) rfl, am_gi (tb_3 (List.mem_of_getElem? (i := 125) rfl)) rfl⟩
abbrev b_Math_min : ByteArray := prog_16_method_69_code
abbrev y_Math_min : MethodName := ⟨"java/lang/Math", "min", "(II)I"⟩
theorem ini_Math : Cond.initialized "java/lang/Math" ∈ am_gt := am_gi (tb_1 (List.mem_of_getElem? (i := 20) rfl)) rfl
theorem ce_Math_min : am_callee y_Math_min b_Math_min 2 (some .int) 2 := ⟨am_gi (tb_3 (List.mem_of_getElem? (i := 129) rfl)) rfl, ini_Math, ⟨by decide, by decide, by decide +kernel⟩, by decide⟩
theorem st_Math_min : Cond.static y_Math_min ∈ am_gt := am_gi (tb_3 (List.mem_of_getElem? (i := 128) rfl)) rfl
abbrev b_Tokens_scanAll : ByteArray := prog_11_method_13_code
abbrev y_Tokens_scanAll : MethodName := ⟨"UnseenRing$Tokens", "scanAll", "(I)V"⟩
theorem ce_Tokens_scanAll : am_callee y_Tokens_scanAll b_Tokens_scanAll 5 (none) 1 := ⟨am_gi (tb_3 (List.mem_of_getElem? (i := 133) rfl)) rfl, ini_Tokens, ⟨by decide, by decide, by decide +kernel⟩, by decide⟩
theorem in_Tokens_scanAll : Cond.instanceMethod y_Tokens_scanAll ∈ am_gt ∧ Cond.selects y_Tokens_scanAll.cls y_Tokens_scanAll y_Tokens_scanAll ∈ am_gt := ⟨am_gi (tb_3 (List.mem_of_getElem? (i := 132) rfl)) rfl, am_sel (q := (y_Tokens_scanAll, 12)) (am_pv_1 (List.mem_of_getElem? (i := 5) rfl))⟩
abbrev b_Tokens_isLetter : ByteArray := prog_11_method_20_code
abbrev y_Tokens_isLetter : MethodName := ⟨"UnseenRing$Tokens", "isLetter", "(I)Z"⟩
theorem ce_Tokens_isLetter : am_callee y_Tokens_isLetter b_Tokens_isLetter 1 (some .boolean) 1 := ⟨am_gi (tb_3 (List.mem_of_getElem? (i := 136) rfl)) rfl, ini_Tokens, ⟨by decide, by decide, by decide +kernel⟩, by decide⟩
theorem st_Tokens_isLetter : Cond.static y_Tokens_isLetter ∈ am_gt := am_gi (tb_3 (List.mem_of_getElem? (i := 135) rfl)) rfl
abbrev b_Tokens_scanWord : ByteArray := prog_11_method_14_code
abbrev y_Tokens_scanWord : MethodName := ⟨"UnseenRing$Tokens", "scanWord", "(II)I"⟩
theorem ce_Tokens_scanWord : am_callee y_Tokens_scanWord b_Tokens_scanWord 7 (some .int) 2 := ⟨am_gi (tb_3 (List.mem_of_getElem? (i := 140) rfl)) rfl, ini_Tokens, ⟨by decide, by decide, by decide +kernel⟩, by decide⟩
theorem in_Tokens_scanWord : Cond.instanceMethod y_Tokens_scanWord ∈ am_gt ∧ Cond.selects y_Tokens_scanWord.cls y_Tokens_scanWord y_Tokens_scanWord ∈ am_gt := ⟨am_gi (tb_3 (List.mem_of_getElem? (i := 139) rfl)) rfl, am_sel (q := (y_Tokens_scanWord, 12)) (am_pv_1 (List.mem_of_getElem? (i := 6) rfl))⟩
abbrev b_Tokens_add : ByteArray := prog_11_method_18_code
abbrev y_Tokens_add : MethodName := ⟨"UnseenRing$Tokens", "add", "(IIJ)V"⟩
theorem ce_Tokens_add : am_callee y_Tokens_add b_Tokens_add 5 (none) 3 := ⟨am_gi (tb_3 (List.mem_of_getElem? (i := 144) rfl)) rfl, ini_Tokens, ⟨by decide, by decide, by decide +kernel⟩, by decide⟩
theorem in_Tokens_add : Cond.instanceMethod y_Tokens_add ∈ am_gt ∧ Cond.selects y_Tokens_add.cls y_Tokens_add y_Tokens_add ∈ am_gt := ⟨am_gi (tb_3 (List.mem_of_getElem? (i := 143) rfl)) rfl, am_sel (q := (y_Tokens_add, 12)) (am_pv_1 (List.mem_of_getElem? (i := 7) rfl))⟩
abbrev b_Tokens_reservedWord : ByteArray := prog_11_method_15_code
abbrev y_Tokens_reservedWord : MethodName := ⟨"UnseenRing$Tokens", "reservedWord", "(J)I"⟩
theorem ce_Tokens_reservedWord : am_callee y_Tokens_reservedWord b_Tokens_reservedWord 4 (some .int) 1 := ⟨am_gi (tb_3 (List.mem_of_getElem? (i := 148) rfl)) rfl, ini_Tokens, ⟨by decide, by decide, by decide +kernel⟩, by decide⟩
theorem in_Tokens_reservedWord : Cond.instanceMethod y_Tokens_reservedWord ∈ am_gt ∧ Cond.selects y_Tokens_reservedWord.cls y_Tokens_reservedWord y_Tokens_reservedWord ∈ am_gt := ⟨am_gi (tb_3 (List.mem_of_getElem? (i := 147) rfl)) rfl, am_sel (q := (y_Tokens_reservedWord, 12)) (am_pv_1 (List.mem_of_getElem? (i := 8) rfl))⟩
abbrev b_Tokens_isDigit : ByteArray := prog_11_method_21_code
abbrev y_Tokens_isDigit : MethodName := ⟨"UnseenRing$Tokens", "isDigit", "(I)Z"⟩
theorem ce_Tokens_isDigit : am_callee y_Tokens_isDigit b_Tokens_isDigit 1 (some .boolean) 1 := ⟨am_gi (tb_3 (List.mem_of_getElem? (i := 151) rfl)) rfl, ini_Tokens, ⟨by decide, by decide, by decide +kernel⟩, by decide⟩
theorem st_Tokens_isDigit : Cond.static y_Tokens_isDigit ∈ am_gt := am_gi (tb_3 (List.mem_of_getElem? (i := 150) rfl)) rfl
abbrev b_Tokens_scanNumber : ByteArray := prog_11_method_16_code
abbrev y_Tokens_scanNumber : MethodName := ⟨"UnseenRing$Tokens", "scanNumber", "(II)I"⟩
theorem ce_Tokens_scanNumber : am_callee y_Tokens_scanNumber b_Tokens_scanNumber 6 (some .int) 2 := ⟨am_gi (tb_3 (List.mem_of_getElem? (i := 155) rfl)) rfl, ini_Tokens, ⟨by decide, by decide, by decide +kernel⟩, by decide⟩
theorem in_Tokens_scanNumber : Cond.instanceMethod y_Tokens_scanNumber ∈ am_gt ∧ Cond.selects y_Tokens_scanNumber.cls y_Tokens_scanNumber y_Tokens_scanNumber ∈ am_gt := ⟨am_gi (tb_3 (List.mem_of_getElem? (i := 154) rfl)) rfl, am_sel (q := (y_Tokens_scanNumber, 12)) (am_pv_1 (List.mem_of_getElem? (i := 9) rfl))⟩
abbrev b_Tokens_scanSign : ByteArray := prog_11_method_17_code
abbrev y_Tokens_scanSign : MethodName := ⟨"UnseenRing$Tokens", "scanSign", "(II)V"⟩
theorem ce_Tokens_scanSign : am_callee y_Tokens_scanSign b_Tokens_scanSign 3 (none) 2 := ⟨am_gi (tb_3 (List.mem_of_getElem? (i := 159) rfl)) rfl, ini_Tokens, ⟨by decide, by decide, by decide +kernel⟩, by decide⟩
theorem in_Tokens_scanSign : Cond.instanceMethod y_Tokens_scanSign ∈ am_gt ∧ Cond.selects y_Tokens_scanSign.cls y_Tokens_scanSign y_Tokens_scanSign ∈ am_gt := ⟨am_gi (tb_3 (List.mem_of_getElem? (i := 158) rfl)) rfl, am_sel (q := (y_Tokens_scanSign, 12)) (am_pv_1 (List.mem_of_getElem? (i := 10) rfl))⟩
abbrev b_Tokens_advance : ByteArray := prog_11_method_7_code
abbrev y_Tokens_advance : MethodName := ⟨"UnseenRing$Tokens", "advance", "()V"⟩
theorem ce_Tokens_advance : am_callee y_Tokens_advance b_Tokens_advance 1 (none) 0 := ⟨am_gi (tb_3 (List.mem_of_getElem? (i := 163) rfl)) rfl, ini_Tokens, ⟨by decide, by decide, by decide +kernel⟩, by decide⟩
theorem in_Tokens_advance : Cond.instanceMethod y_Tokens_advance ∈ am_gt ∧ Cond.selects y_Tokens_advance.cls y_Tokens_advance y_Tokens_advance ∈ am_gt := ⟨am_gi (tb_3 (List.mem_of_getElem? (i := 161) rfl)) rfl, am_gi (tb_3 (List.mem_of_getElem? (i := 162) rfl)) rfl⟩
abbrev b_SquareReader_readPart : ByteArray := prog_10_method_3_code
abbrev y_SquareReader_readPart : MethodName := ⟨"UnseenRing$SquareReader", "readPart", "(LUnseenRing$Tokens;LUnseenRing$Square;)Z"⟩
theorem ce_SquareReader_readPart : am_callee y_SquareReader_readPart b_SquareReader_readPart 3 (some .boolean) 2 := ⟨am_gi (tb_3 (List.mem_of_getElem? (i := 167) rfl)) rfl, ini_SquareReader, ⟨by decide, by decide, by decide +kernel⟩, by decide⟩
theorem in_SquareReader_readPart : Cond.instanceMethod y_SquareReader_readPart ∈ am_gt ∧ Cond.selects y_SquareReader_readPart.cls y_SquareReader_readPart y_SquareReader_readPart ∈ am_gt := ⟨am_gi (tb_3 (List.mem_of_getElem? (i := 166) rfl)) rfl, am_sel (q := (y_SquareReader_readPart, 3)) (am_pv_1 (List.mem_of_getElem? (i := 11) rfl))⟩
abbrev b_SquareReader_readSize : ByteArray := prog_10_method_4_code
abbrev y_SquareReader_readSize : MethodName := ⟨"UnseenRing$SquareReader", "readSize", "(LUnseenRing$Tokens;LUnseenRing$Square;)Z"⟩
theorem ce_SquareReader_readSize : am_callee y_SquareReader_readSize b_SquareReader_readSize 5 (some .boolean) 2 := ⟨am_gi (tb_3 (List.mem_of_getElem? (i := 171) rfl)) rfl, ini_SquareReader, ⟨by decide, by decide, by decide +kernel⟩, by decide⟩
theorem in_SquareReader_readSize : Cond.instanceMethod y_SquareReader_readSize ∈ am_gt ∧ Cond.selects y_SquareReader_readSize.cls y_SquareReader_readSize y_SquareReader_readSize ∈ am_gt := ⟨am_gi (tb_3 (List.mem_of_getElem? (i := 170) rfl)) rfl, am_sel (q := (y_SquareReader_readSize, 3)) (am_pv_1 (List.mem_of_getElem? (i := 12) rfl))⟩
abbrev b_Tokens_refuse : ByteArray := prog_11_method_6_code
abbrev y_Tokens_refuse : MethodName := ⟨"UnseenRing$Tokens", "refuse", "(I)Z"⟩
theorem ce_Tokens_refuse : am_callee y_Tokens_refuse b_Tokens_refuse 2 (some .boolean) 1 := ⟨am_gi (tb_3 (List.mem_of_getElem? (i := 175) rfl)) rfl, ini_Tokens, ⟨by decide, by decide, by decide +kernel⟩, by decide⟩
theorem in_Tokens_refuse : Cond.instanceMethod y_Tokens_refuse ∈ am_gt ∧ Cond.selects y_Tokens_refuse.cls y_Tokens_refuse y_Tokens_refuse ∈ am_gt := ⟨am_gi (tb_3 (List.mem_of_getElem? (i := 173) rfl)) rfl, am_gi (tb_3 (List.mem_of_getElem? (i := 174) rfl)) rfl⟩
abbrev b_Tokens_takeNumber : ByteArray := prog_11_method_11_code
abbrev y_Tokens_takeNumber : MethodName := ⟨"UnseenRing$Tokens", "takeNumber", "(II)I"⟩
theorem ce_Tokens_takeNumber : am_callee y_Tokens_takeNumber b_Tokens_takeNumber 4 (some .int) 2 := ⟨am_gi (tb_3 (List.mem_of_getElem? (i := 180) rfl)) rfl, ini_Tokens, ⟨by decide, by decide, by decide +kernel⟩, by decide⟩
theorem in_Tokens_takeNumber : Cond.instanceMethod y_Tokens_takeNumber ∈ am_gt ∧ Cond.selects y_Tokens_takeNumber.cls y_Tokens_takeNumber y_Tokens_takeNumber ∈ am_gt := ⟨am_gi (tb_3 (List.mem_of_getElem? (i := 178) rfl)) rfl, am_gi (tb_3 (List.mem_of_getElem? (i := 179) rfl)) rfl⟩
abbrev b_Tokens_takeWord : ByteArray := prog_11_method_8_code
abbrev y_Tokens_takeWord : MethodName := ⟨"UnseenRing$Tokens", "takeWord", "(I)Z"⟩
theorem ce_Tokens_takeWord : am_callee y_Tokens_takeWord b_Tokens_takeWord 2 (some .boolean) 1 := ⟨am_gi (tb_3 (List.mem_of_getElem? (i := 186) rfl)) rfl, ini_Tokens, ⟨by decide, by decide, by decide +kernel⟩, by decide⟩
theorem in_Tokens_takeWord : Cond.instanceMethod y_Tokens_takeWord ∈ am_gt ∧ Cond.selects y_Tokens_takeWord.cls y_Tokens_takeWord y_Tokens_takeWord ∈ am_gt := ⟨am_gi (tb_3 (List.mem_of_getElem? (i := 184) rfl)) rfl, am_gi (tb_3 (List.mem_of_getElem? (i := 185) rfl)) rfl⟩
abbrev b_Tokens_takeSemicolon : ByteArray := prog_11_method_9_code
abbrev y_Tokens_takeSemicolon : MethodName := ⟨"UnseenRing$Tokens", "takeSemicolon", "()Z"⟩
theorem ce_Tokens_takeSemicolon : am_callee y_Tokens_takeSemicolon b_Tokens_takeSemicolon 1 (some .boolean) 0 := ⟨am_gi (tb_3 (List.mem_of_getElem? (i := 190) rfl)) rfl, ini_Tokens, ⟨by decide, by decide, by decide +kernel⟩, by decide⟩
theorem in_Tokens_takeSemicolon : Cond.instanceMethod y_Tokens_takeSemicolon ∈ am_gt ∧ Cond.selects y_Tokens_takeSemicolon.cls y_Tokens_takeSemicolon y_Tokens_takeSemicolon ∈ am_gt := ⟨am_gi (tb_3 (List.mem_of_getElem? (i := 188) rfl)) rfl, am_gi (tb_3 (List.mem_of_getElem? (i := 189) rfl)) rfl⟩
abbrev b_SquareReader_readOdds : ByteArray := prog_10_method_5_code
abbrev y_SquareReader_readOdds : MethodName := ⟨"UnseenRing$SquareReader", "readOdds", "(LUnseenRing$Tokens;LUnseenRing$Square;)Z"⟩
theorem ce_SquareReader_readOdds : am_callee y_SquareReader_readOdds b_SquareReader_readOdds 3 (some .boolean) 2 := ⟨am_gi (tb_3 (List.mem_of_getElem? (i := 195) rfl)) rfl, ini_SquareReader, ⟨by decide, by decide, by decide +kernel⟩, by decide⟩
theorem in_SquareReader_readOdds : Cond.instanceMethod y_SquareReader_readOdds ∈ am_gt ∧ Cond.selects y_SquareReader_readOdds.cls y_SquareReader_readOdds y_SquareReader_readOdds ∈ am_gt := ⟨am_gi (tb_3 (List.mem_of_getElem? (i := 194) rfl)) rfl, am_sel (q := (y_SquareReader_readOdds, 3)) (am_pv_1 (List.mem_of_getElem? (i := 13) rfl))⟩
abbrev b_SquareReader_readOrgan : ByteArray := prog_10_method_6_code
abbrev y_SquareReader_readOrgan : MethodName := ⟨"UnseenRing$SquareReader", "readOrgan", "(LUnseenRing$Tokens;LUnseenRing$Square;)Z"⟩
theorem ce_SquareReader_readOrgan : am_callee y_SquareReader_readOrgan b_SquareReader_readOrgan 3 (some .boolean) 2 := ⟨am_gi (tb_3 (List.mem_of_getElem? (i := 199) rfl)) rfl, ini_SquareReader, ⟨by decide, by decide, by decide +kernel⟩, by decide⟩
theorem in_SquareReader_readOrgan : Cond.instanceMethod y_SquareReader_readOrgan ∈ am_gt ∧ Cond.selects y_SquareReader_readOrgan.cls y_SquareReader_readOrgan y_SquareReader_readOrgan ∈ am_gt := ⟨am_gi (tb_3 (List.mem_of_getElem? (i := 198) rfl)) rfl, am_sel (q := (y_SquareReader_readOrgan, 3)) (am_pv_1 (List.mem_of_getElem? (i := 14) rfl))⟩
abbrev b_Square_cells : ByteArray := prog_9_method_4_code
abbrev y_Square_cells : MethodName := ⟨"UnseenRing$Square", "cells", "()I"⟩
theorem ce_Square_cells : am_callee y_Square_cells b_Square_cells 1 (some .int) 0 := ⟨am_gi (tb_3 (List.mem_of_getElem? (i := 203) rfl)) rfl, ini_Square, ⟨by decide, by decide, by decide +kernel⟩, by decide⟩
theorem in_Square_cells : Cond.instanceMethod y_Square_cells ∈ am_gt ∧ Cond.selects y_Square_cells.cls y_Square_cells y_Square_cells ∈ am_gt := ⟨am_gi (tb_3 (List.mem_of_getElem? (i := 201) rfl)) rfl, am_gi (tb_3 (List.mem_of_getElem? (i := 202) rfl)) rfl⟩
abbrev b_SquareReader_readTune : ByteArray := prog_10_method_7_code
abbrev y_SquareReader_readTune : MethodName := ⟨"UnseenRing$SquareReader", "readTune", "(LUnseenRing$Tokens;LUnseenRing$Square;)Z"⟩
theorem ce_SquareReader_readTune : am_callee y_SquareReader_readTune b_SquareReader_readTune 5 (some .boolean) 2 := ⟨am_gi (tb_3 (List.mem_of_getElem? (i := 207) rfl)) rfl, ini_SquareReader, ⟨by decide, by decide, by decide +kernel⟩, by decide⟩
theorem in_SquareReader_readTune : Cond.instanceMethod y_SquareReader_readTune ∈ am_gt ∧ Cond.selects y_SquareReader_readTune.cls y_SquareReader_readTune y_SquareReader_readTune ∈ am_gt := ⟨am_gi (tb_3 (List.mem_of_getElem? (i := 206) rfl)) rfl, am_sel (q := (y_SquareReader_readTune, 3)) (am_pv_1 (List.mem_of_getElem? (i := 15) rfl))⟩
abbrev b_Tokens_nameHere : ByteArray := prog_11_method_12_code
abbrev y_Tokens_nameHere : MethodName := ⟨"UnseenRing$Tokens", "nameHere", "()J"⟩
theorem ce_Tokens_nameHere : am_callee y_Tokens_nameHere b_Tokens_nameHere 1 (some .long) 0 := ⟨am_gi (tb_3 (List.mem_of_getElem? (i := 211) rfl)) rfl, ini_Tokens, ⟨by decide, by decide, by decide +kernel⟩, by decide⟩
theorem in_Tokens_nameHere : Cond.instanceMethod y_Tokens_nameHere ∈ am_gt ∧ Cond.selects y_Tokens_nameHere.cls y_Tokens_nameHere y_Tokens_nameHere ∈ am_gt := ⟨am_gi (tb_3 (List.mem_of_getElem? (i := 209) rfl)) rfl, am_gi (tb_3 (List.mem_of_getElem? (i := 210) rfl)) rfl⟩
abbrev b_Square_tuneNamed : ByteArray := prog_9_method_9_code
abbrev y_Square_tuneNamed : MethodName := ⟨"UnseenRing$Square", "tuneNamed", "(J)I"⟩
theorem ce_Square_tuneNamed : am_callee y_Square_tuneNamed b_Square_tuneNamed 4 (some .int) 1 := ⟨am_gi (tb_3 (List.mem_of_getElem? (i := 215) rfl)) rfl, ini_Square, ⟨by decide, by decide, by decide +kernel⟩, by decide⟩
theorem in_Square_tuneNamed : Cond.instanceMethod y_Square_tuneNamed ∈ am_gt ∧ Cond.selects y_Square_tuneNamed.cls y_Square_tuneNamed y_Square_tuneNamed ∈ am_gt := ⟨am_gi (tb_3 (List.mem_of_getElem? (i := 213) rfl)) rfl, am_gi (tb_3 (List.mem_of_getElem? (i := 214) rfl)) rfl⟩
abbrev b_SquareReader_readHearer : ByteArray := prog_10_method_8_code
abbrev y_SquareReader_readHearer : MethodName := ⟨"UnseenRing$SquareReader", "readHearer", "(LUnseenRing$Tokens;LUnseenRing$Square;)Z"⟩
theorem ce_SquareReader_readHearer : am_callee y_SquareReader_readHearer b_SquareReader_readHearer 6 (some .boolean) 2 := ⟨am_gi (tb_3 (List.mem_of_getElem? (i := 219) rfl)) rfl, ini_SquareReader, ⟨by decide, by decide, by decide +kernel⟩, by decide⟩
theorem in_SquareReader_readHearer : Cond.instanceMethod y_SquareReader_readHearer ∈ am_gt ∧ Cond.selects y_SquareReader_readHearer.cls y_SquareReader_readHearer y_SquareReader_readHearer ∈ am_gt := ⟨am_gi (tb_3 (List.mem_of_getElem? (i := 218) rfl)) rfl, am_sel (q := (y_SquareReader_readHearer, 3)) (am_pv_2 (List.mem_of_getElem? (i := 0) rfl))⟩
abbrev b_SquareReader_readLikes : ByteArray := prog_10_method_9_code
abbrev y_SquareReader_readLikes : MethodName := ⟨"UnseenRing$SquareReader", "readLikes", "(LUnseenRing$Tokens;LUnseenRing$Square;)I"⟩
theorem ce_SquareReader_readLikes : am_callee y_SquareReader_readLikes b_SquareReader_readLikes 6 (some .int) 2 := ⟨am_gi (tb_3 (List.mem_of_getElem? (i := 223) rfl)) rfl, ini_SquareReader, ⟨by decide, by decide, by decide +kernel⟩, by decide⟩
theorem in_SquareReader_readLikes : Cond.instanceMethod y_SquareReader_readLikes ∈ am_gt ∧ Cond.selects y_SquareReader_readLikes.cls y_SquareReader_readLikes y_SquareReader_readLikes ∈ am_gt := ⟨am_gi (tb_3 (List.mem_of_getElem? (i := 222) rfl)) rfl, am_sel (q := (y_SquareReader_readLikes, 3)) (am_pv_2 (List.mem_of_getElem? (i := 1) rfl))⟩
abbrev b_Square_addHearer : ByteArray := prog_9_method_10_code
abbrev y_Square_addHearer : MethodName := ⟨"UnseenRing$Square", "addHearer", "(III)V"⟩
theorem ce_Square_addHearer : am_callee y_Square_addHearer b_Square_addHearer 4 (none) 3 := ⟨am_gi (tb_3 (List.mem_of_getElem? (i := 227) rfl)) rfl, ini_Square, ⟨by decide, by decide, by decide +kernel⟩, by decide⟩
theorem in_Square_addHearer : Cond.instanceMethod y_Square_addHearer ∈ am_gt ∧ Cond.selects y_Square_addHearer.cls y_Square_addHearer y_Square_addHearer ∈ am_gt := ⟨am_gi (tb_3 (List.mem_of_getElem? (i := 225) rfl)) rfl, am_gi (tb_3 (List.mem_of_getElem? (i := 226) rfl)) rfl⟩
abbrev b_SquareReader_readDog : ByteArray := prog_10_method_10_code
abbrev y_SquareReader_readDog : MethodName := ⟨"UnseenRing$SquareReader", "readDog", "(LUnseenRing$Tokens;LUnseenRing$Square;)Z"⟩
theorem ce_SquareReader_readDog : am_callee y_SquareReader_readDog b_SquareReader_readDog 4 (some .boolean) 2 := ⟨am_gi (tb_3 (List.mem_of_getElem? (i := 231) rfl)) rfl, ini_SquareReader, ⟨by decide, by decide, by decide +kernel⟩, by decide⟩
theorem in_SquareReader_readDog : Cond.instanceMethod y_SquareReader_readDog ∈ am_gt ∧ Cond.selects y_SquareReader_readDog.cls y_SquareReader_readDog y_SquareReader_readDog ∈ am_gt := ⟨am_gi (tb_3 (List.mem_of_getElem? (i := 230) rfl)) rfl, am_sel (q := (y_SquareReader_readDog, 3)) (am_pv_2 (List.mem_of_getElem? (i := 2) rfl))⟩
abbrev b_Tokens_clear : ByteArray := prog_11_method_4_code
abbrev y_Tokens_clear : MethodName := ⟨"UnseenRing$Tokens", "clear", "()V"⟩
theorem ce_Tokens_clear : am_callee y_Tokens_clear b_Tokens_clear 1 (none) 0 := ⟨am_gi (tb_3 (List.mem_of_getElem? (i := 235) rfl)) rfl, ini_Tokens, ⟨by decide, by decide, by decide +kernel⟩, by decide⟩
theorem in_Tokens_clear : Cond.instanceMethod y_Tokens_clear ∈ am_gt ∧ Cond.selects y_Tokens_clear.cls y_Tokens_clear y_Tokens_clear ∈ am_gt := ⟨am_gi (tb_3 (List.mem_of_getElem? (i := 233) rfl)) rfl, am_gi (tb_3 (List.mem_of_getElem? (i := 234) rfl)) rfl⟩
abbrev b_U_answered : ByteArray := prog_1_method_65_code
abbrev y_U_answered : MethodName := ⟨"UnseenRing", "answered", "(I)I"⟩
theorem ce_U_answered : am_callee y_U_answered b_U_answered 2 (some .int) 1 := ⟨am_gi (tb_3 (List.mem_of_getElem? (i := 239) rfl)) rfl, ini_U, ⟨by decide, by decide, by decide +kernel⟩, by decide⟩
theorem in_U_answered : Cond.instanceMethod y_U_answered ∈ am_gt ∧ Cond.selects y_U_answered.cls y_U_answered y_U_answered ∈ am_gt := ⟨am_gi (tb_3 (List.mem_of_getElem? (i := 238) rfl)) rfl, am_sel (q := (y_U_answered, 18)) (am_pv_2 (List.mem_of_getElem? (i := 3) rfl))⟩
abbrev b_U_days : ByteArray := prog_1_method_14_code
abbrev y_U_days : MethodName := ⟨"UnseenRing", "days", "(I)I"⟩
theorem ce_U_days : am_callee y_U_days b_U_days 4 (some .int) 1 := ⟨am_gi (tb_4 (List.mem_of_getElem? (i := 3) rfl)) rfl, ini_U, ⟨by decide, by decide, by decide +kernel⟩, by decide⟩
theorem in_U_days : Cond.instanceMethod y_U_days ∈ am_gt ∧ Cond.selects y_U_days.cls y_U_days y_U_days ∈ am_gt := ⟨am_gi (tb_4 (List.mem_of_getElem? (i := 1) rfl)) rfl, am_gi (tb_4 (List.mem_of_getElem? (i := 2) rfl)) rfl⟩
abbrev b_DaysReader_readText : ByteArray := prog_4_method_2_code
abbrev y_DaysReader_readText : MethodName := ⟨"UnseenRing$DaysReader", "readText", "(LUnseenRing$Tokens;ILUnseenRing$Square;LUnseenRing$Days;)Z"⟩
theorem ce_DaysReader_readText : am_callee y_DaysReader_readText b_DaysReader_readText 6 (some .boolean) 4 := ⟨am_gi (tb_4 (List.mem_of_getElem? (i := 7) rfl)) rfl, ini_DaysReader, ⟨by decide, by decide, by decide +kernel⟩, by decide⟩
theorem in_DaysReader_readText : Cond.instanceMethod y_DaysReader_readText ∈ am_gt ∧ Cond.selects y_DaysReader_readText.cls y_DaysReader_readText y_DaysReader_readText ∈ am_gt := ⟨am_gi (tb_4 (List.mem_of_getElem? (i := 5) rfl)) rfl, am_gi (tb_4 (List.mem_of_getElem? (i := 6) rfl)) rfl⟩
abbrev b_DaysReader_readStep : ByteArray := prog_4_method_3_code
abbrev y_DaysReader_readStep : MethodName := ⟨"UnseenRing$DaysReader", "readStep", "(LUnseenRing$Tokens;LUnseenRing$Square;LUnseenRing$Days;)Z"⟩
theorem ce_DaysReader_readStep : am_callee y_DaysReader_readStep b_DaysReader_readStep 7 (some .boolean) 3 := ⟨am_gi (tb_4 (List.mem_of_getElem? (i := 13) rfl)) rfl, ini_DaysReader, ⟨by decide, by decide, by decide +kernel⟩, by decide⟩
theorem in_DaysReader_readStep : Cond.instanceMethod y_DaysReader_readStep ∈ am_gt ∧ Cond.selects y_DaysReader_readStep.cls y_DaysReader_readStep y_DaysReader_readStep ∈ am_gt := ⟨am_gi (tb_4 (List.mem_of_getElem? (i := 12) rfl)) rfl, am_sel (q := (y_DaysReader_readStep, 2)) (am_pv_2 (List.mem_of_getElem? (i := 4) rfl))⟩
abbrev b_DaysReader_readEnd : ByteArray := prog_4_method_4_code
abbrev y_DaysReader_readEnd : MethodName := ⟨"UnseenRing$DaysReader", "readEnd", "(LUnseenRing$Tokens;LUnseenRing$Days;)Z"⟩
theorem ce_DaysReader_readEnd : am_callee y_DaysReader_readEnd b_DaysReader_readEnd 3 (some .boolean) 2 := ⟨am_gi (tb_4 (List.mem_of_getElem? (i := 17) rfl)) rfl, ini_DaysReader, ⟨by decide, by decide, by decide +kernel⟩, by decide⟩
theorem in_DaysReader_readEnd : Cond.instanceMethod y_DaysReader_readEnd ∈ am_gt ∧ Cond.selects y_DaysReader_readEnd.cls y_DaysReader_readEnd y_DaysReader_readEnd ∈ am_gt := ⟨am_gi (tb_4 (List.mem_of_getElem? (i := 16) rfl)) rfl, am_sel (q := (y_DaysReader_readEnd, 2)) (am_pv_2 (List.mem_of_getElem? (i := 5) rfl))⟩
abbrev b_Days_add : ByteArray := prog_3_method_3_code
abbrev y_Days_add : MethodName := ⟨"UnseenRing$Days", "add", "(I)V"⟩
theorem ce_Days_add : am_callee y_Days_add b_Days_add 2 (none) 1 := ⟨am_gi (tb_4 (List.mem_of_getElem? (i := 23) rfl)) rfl, ini_Days, ⟨by decide, by decide, by decide +kernel⟩, by decide⟩
theorem in_Days_add : Cond.instanceMethod y_Days_add ∈ am_gt ∧ Cond.selects y_Days_add.cls y_Days_add y_Days_add ∈ am_gt := ⟨am_gi (tb_4 (List.mem_of_getElem? (i := 21) rfl)) rfl, am_gi (tb_4 (List.mem_of_getElem? (i := 22) rfl)) rfl⟩
abbrev b_Days_join : ByteArray := prog_3_method_4_code
abbrev y_Days_join : MethodName := ⟨"UnseenRing$Days", "join", "(II)V"⟩
theorem ce_Days_join : am_callee y_Days_join b_Days_join 3 (none) 2 := ⟨am_gi (tb_4 (List.mem_of_getElem? (i := 27) rfl)) rfl, ini_Days, ⟨by decide, by decide, by decide +kernel⟩, by decide⟩
theorem in_Days_join : Cond.instanceMethod y_Days_join ∈ am_gt ∧ Cond.selects y_Days_join.cls y_Days_join y_Days_join ∈ am_gt := ⟨am_gi (tb_4 (List.mem_of_getElem? (i := 25) rfl)) rfl, am_gi (tb_4 (List.mem_of_getElem? (i := 26) rfl)) rfl⟩
abbrev b_DaysReader_readTest : ByteArray := prog_4_method_7_code
abbrev y_DaysReader_readTest : MethodName := ⟨"UnseenRing$DaysReader", "readTest", "(LUnseenRing$Tokens;LUnseenRing$Square;LUnseenRing$Days;)Z"⟩
theorem ce_DaysReader_readTest : am_callee y_DaysReader_readTest b_DaysReader_readTest 5 (some .boolean) 3 := ⟨am_gi (tb_4 (List.mem_of_getElem? (i := 33) rfl)) rfl, ini_DaysReader, ⟨by decide, by decide, by decide +kernel⟩, by decide⟩
theorem in_DaysReader_readTest : Cond.instanceMethod y_DaysReader_readTest ∈ am_gt ∧ Cond.selects y_DaysReader_readTest.cls y_DaysReader_readTest y_DaysReader_readTest ∈ am_gt := ⟨am_gi (tb_4 (List.mem_of_getElem? (i := 32) rfl)) rfl, am_sel (q := (y_DaysReader_readTest, 2)) (am_pv_2 (List.mem_of_getElem? (i := 6) rfl))⟩
abbrev b_DaysReader_readFirst : ByteArray := prog_4_method_8_code
abbrev y_DaysReader_readFirst : MethodName := ⟨"UnseenRing$DaysReader", "readFirst", "(LUnseenRing$Tokens;IILUnseenRing$Days;)Z"⟩
theorem ce_DaysReader_readFirst : am_callee y_DaysReader_readFirst b_DaysReader_readFirst 6 (some .boolean) 4 := ⟨am_gi (tb_4 (List.mem_of_getElem? (i := 37) rfl)) rfl, ini_DaysReader, ⟨by decide, by decide, by decide +kernel⟩, by decide⟩
theorem in_DaysReader_readFirst : Cond.instanceMethod y_DaysReader_readFirst ∈ am_gt ∧ Cond.selects y_DaysReader_readFirst.cls y_DaysReader_readFirst y_DaysReader_readFirst ∈ am_gt := ⟨am_gi (tb_4 (List.mem_of_getElem? (i := 36) rfl)) rfl, am_sel (q := (y_DaysReader_readFirst, 2)) (am_pv_2 (List.mem_of_getElem? (i := 7) rfl))⟩
abbrev b_DaysReader_readCompares : ByteArray := prog_4_method_10_code
abbrev y_DaysReader_readCompares : MethodName := ⟨"UnseenRing$DaysReader", "readCompares", "(LUnseenRing$Tokens;LUnseenRing$Days;)Z"⟩
theorem ce_DaysReader_readCompares : am_callee y_DaysReader_readCompares b_DaysReader_readCompares 4 (some .boolean) 2 := ⟨am_gi (tb_4 (List.mem_of_getElem? (i := 42) rfl)) rfl, ini_DaysReader, ⟨by decide, by decide, by decide +kernel⟩, by decide⟩
theorem in_DaysReader_readCompares : Cond.instanceMethod y_DaysReader_readCompares ∈ am_gt ∧ Cond.selects y_DaysReader_readCompares.cls y_DaysReader_readCompares y_DaysReader_readCompares ∈ am_gt := ⟨am_gi (tb_4 (List.mem_of_getElem? (i := 41) rfl)) rfl, am_sel (q := (y_DaysReader_readCompares, 2)) (am_pv_2 (List.mem_of_getElem? (i := 8) rfl))⟩
abbrev b_Tokens_takeCompares : ByteArray := prog_11_method_10_code
abbrev y_Tokens_takeCompares : MethodName := ⟨"UnseenRing$Tokens", "takeCompares", "()I"⟩
theorem ce_Tokens_takeCompares : am_callee y_Tokens_takeCompares b_Tokens_takeCompares 2 (some .int) 0 := ⟨am_gi (tb_4 (List.mem_of_getElem? (i := 46) rfl)) rfl, ini_Tokens, ⟨by decide, by decide, by decide +kernel⟩, by decide⟩
theorem in_Tokens_takeCompares : Cond.instanceMethod y_Tokens_takeCompares ∈ am_gt ∧ Cond.selects y_Tokens_takeCompares.cls y_Tokens_takeCompares y_Tokens_takeCompares ∈ am_gt := ⟨am_gi (tb_4 (List.mem_of_getElem? (i := 44) rfl)) rfl, am_gi (tb_4 (List.mem_of_getElem? (i := 45) rfl)) rfl⟩
abbrev b_DaysReader_readSecond : ByteArray := prog_4_method_9_code
abbrev y_DaysReader_readSecond : MethodName := ⟨"UnseenRing$DaysReader", "readSecond", "(LUnseenRing$Tokens;IILUnseenRing$Days;)Z"⟩
theorem ce_DaysReader_readSecond : am_callee y_DaysReader_readSecond b_DaysReader_readSecond 6 (some .boolean) 4 := ⟨am_gi (tb_4 (List.mem_of_getElem? (i := 50) rfl)) rfl, ini_DaysReader, ⟨by decide, by decide, by decide +kernel⟩, by decide⟩
theorem in_DaysReader_readSecond : Cond.instanceMethod y_DaysReader_readSecond ∈ am_gt ∧ Cond.selects y_DaysReader_readSecond.cls y_DaysReader_readSecond y_DaysReader_readSecond ∈ am_gt := ⟨am_gi (tb_4 (List.mem_of_getElem? (i := 49) rfl)) rfl, am_sel (q := (y_DaysReader_readSecond, 2)) (am_pv_2 (List.mem_of_getElem? (i := 9) rfl))⟩
abbrev b_DaysReader_readRest : ByteArray := prog_4_method_5_code
abbrev y_DaysReader_readRest : MethodName := ⟨"UnseenRing$DaysReader", "readRest", "(ILUnseenRing$Tokens;LUnseenRing$Square;LUnseenRing$Days;)Z"⟩
theorem ce_DaysReader_readRest : am_callee y_DaysReader_readRest b_DaysReader_readRest 5 (some .boolean) 4 := ⟨am_gi (tb_4 (List.mem_of_getElem? (i := 54) rfl)) rfl, ini_DaysReader, ⟨by decide, by decide, by decide +kernel⟩, by decide⟩
theorem in_DaysReader_readRest : Cond.instanceMethod y_DaysReader_readRest ∈ am_gt ∧ Cond.selects y_DaysReader_readRest.cls y_DaysReader_readRest y_DaysReader_readRest ∈ am_gt := ⟨am_gi (tb_4 (List.mem_of_getElem? (i := 53) rfl)) rfl, am_sel (q := (y_DaysReader_readRest, 2)) (am_pv_2 (List.mem_of_getElem? (i := 10) rfl))⟩
abbrev b_DaysReader_readTune : ByteArray := prog_4_method_6_code
abbrev y_DaysReader_readTune : MethodName := ⟨"UnseenRing$DaysReader", "readTune", "(LUnseenRing$Tokens;LUnseenRing$Square;LUnseenRing$Days;)Z"⟩
theorem ce_DaysReader_readTune : am_callee y_DaysReader_readTune b_DaysReader_readTune 7 (some .boolean) 3 := ⟨am_gi (tb_4 (List.mem_of_getElem? (i := 58) rfl)) rfl, ini_DaysReader, ⟨by decide, by decide, by decide +kernel⟩, by decide⟩
theorem in_DaysReader_readTune : Cond.instanceMethod y_DaysReader_readTune ∈ am_gt ∧ Cond.selects y_DaysReader_readTune.cls y_DaysReader_readTune y_DaysReader_readTune ∈ am_gt := ⟨am_gi (tb_4 (List.mem_of_getElem? (i := 57) rfl)) rfl, am_sel (q := (y_DaysReader_readTune, 2)) (am_pv_2 (List.mem_of_getElem? (i := 11) rfl))⟩
abbrev b_U_fault : ByteArray := prog_1_method_15_code
abbrev y_U_fault : MethodName := ⟨"UnseenRing", "fault", "(I)I"⟩
theorem ce_U_fault : am_callee y_U_fault b_U_fault 2 (some .int) 1 := ⟨am_gi (tb_4 (List.mem_of_getElem? (i := 65) rfl)) rfl, ini_U, ⟨by decide, by decide, by decide +kernel⟩, by decide⟩
theorem in_U_fault : Cond.instanceMethod y_U_fault ∈ am_gt ∧ Cond.selects y_U_fault.cls y_U_fault y_U_fault ∈ am_gt := ⟨am_gi (tb_4 (List.mem_of_getElem? (i := 63) rfl)) rfl, am_gi (tb_4 (List.mem_of_getElem? (i := 64) rfl)) rfl⟩
abbrev b_U_told : ByteArray := prog_1_method_16_code
abbrev y_U_told : MethodName := ⟨"UnseenRing", "told", "(I)I"⟩
theorem ce_U_told : am_callee y_U_told b_U_told 2 (some .int) 1 := ⟨am_gi (tb_4 (List.mem_of_getElem? (i := 69) rfl)) rfl, ini_U, ⟨by decide, by decide, by decide +kernel⟩, by decide⟩
theorem in_U_told : Cond.instanceMethod y_U_told ∈ am_gt ∧ Cond.selects y_U_told.cls y_U_told y_U_told ∈ am_gt := ⟨am_gi (tb_4 (List.mem_of_getElem? (i := 67) rfl)) rfl, am_gi (tb_4 (List.mem_of_getElem? (i := 68) rfl)) rfl⟩
abbrev b_Square_toldOf : ByteArray := prog_9_method_11_code
abbrev y_Square_toldOf : MethodName := ⟨"UnseenRing$Square", "toldOf", "(I)I"⟩
theorem ce_Square_toldOf : am_callee y_Square_toldOf b_Square_toldOf 2 (some .int) 1 := ⟨am_gi (tb_4 (List.mem_of_getElem? (i := 73) rfl)) rfl, ini_Square, ⟨by decide, by decide, by decide +kernel⟩, by decide⟩
theorem in_Square_toldOf : Cond.instanceMethod y_Square_toldOf ∈ am_gt ∧ Cond.selects y_Square_toldOf.cls y_Square_toldOf y_Square_toldOf ∈ am_gt := ⟨am_gi (tb_4 (List.mem_of_getElem? (i := 71) rfl)) rfl, am_gi (tb_4 (List.mem_of_getElem? (i := 72) rfl)) rfl⟩
abbrev b_Square_dogsUp : ByteArray := prog_9_method_22_code
abbrev y_Square_dogsUp : MethodName := ⟨"UnseenRing$Square", "dogsUp", "()I"⟩
theorem ce_Square_dogsUp : am_callee y_Square_dogsUp b_Square_dogsUp 3 (some .int) 0 := ⟨am_gi (tb_4 (List.mem_of_getElem? (i := 77) rfl)) rfl, ini_Square, ⟨by decide, by decide, by decide +kernel⟩, by decide⟩
theorem in_Square_dogsUp : Cond.instanceMethod y_Square_dogsUp ∈ am_gt ∧ Cond.selects y_Square_dogsUp.cls y_Square_dogsUp y_Square_dogsUp ∈ am_gt := ⟨am_gi (tb_4 (List.mem_of_getElem? (i := 76) rfl)) rfl, am_sel (q := (y_Square_dogsUp, 16)) (am_pv_2 (List.mem_of_getElem? (i := 12) rfl))⟩
abbrev b_Square_isUp : ByteArray := prog_9_method_18_code
abbrev y_Square_isUp : MethodName := ⟨"UnseenRing$Square", "isUp", "(I)Z"⟩
theorem ce_Square_isUp : am_callee y_Square_isUp b_Square_isUp 2 (some .boolean) 1 := ⟨am_gi (tb_4 (List.mem_of_getElem? (i := 81) rfl)) rfl, ini_Square, ⟨by decide, by decide, by decide +kernel⟩, by decide⟩
theorem in_Square_isUp : Cond.instanceMethod y_Square_isUp ∈ am_gt ∧ Cond.selects y_Square_isUp.cls y_Square_isUp y_Square_isUp ∈ am_gt := ⟨am_gi (tb_4 (List.mem_of_getElem? (i := 79) rfl)) rfl, am_gi (tb_4 (List.mem_of_getElem? (i := 80) rfl)) rfl⟩
abbrev b_Square_hearersNear : ByteArray := prog_9_method_19_code
abbrev y_Square_hearersNear : MethodName := ⟨"UnseenRing$Square", "hearersNear", "(II)I"⟩
theorem ce_Square_hearersNear : am_callee y_Square_hearersNear b_Square_hearersNear 5 (some .int) 2 := ⟨am_gi (tb_4 (List.mem_of_getElem? (i := 85) rfl)) rfl, ini_Square, ⟨by decide, by decide, by decide +kernel⟩, by decide⟩
theorem in_Square_hearersNear : Cond.instanceMethod y_Square_hearersNear ∈ am_gt ∧ Cond.selects y_Square_hearersNear.cls y_Square_hearersNear y_Square_hearersNear ∈ am_gt := ⟨am_gi (tb_4 (List.mem_of_getElem? (i := 83) rfl)) rfl, am_gi (tb_4 (List.mem_of_getElem? (i := 84) rfl)) rfl⟩
abbrev b_Square_far : ByteArray := prog_9_method_13_code
abbrev y_Square_far : MethodName := ⟨"UnseenRing$Square", "far", "(II)I"⟩
theorem ce_Square_far : am_callee y_Square_far b_Square_far 3 (some .int) 2 := ⟨am_gi (tb_4 (List.mem_of_getElem? (i := 89) rfl)) rfl, ini_Square, ⟨by decide, by decide, by decide +kernel⟩, by decide⟩
theorem in_Square_far : Cond.instanceMethod y_Square_far ∈ am_gt ∧ Cond.selects y_Square_far.cls y_Square_far y_Square_far ∈ am_gt := ⟨am_gi (tb_4 (List.mem_of_getElem? (i := 87) rfl)) rfl, am_gi (tb_4 (List.mem_of_getElem? (i := 88) rfl)) rfl⟩
abbrev b_Math_abs : ByteArray := prog_16_method_59_code
abbrev y_Math_abs : MethodName := ⟨"java/lang/Math", "abs", "(I)I"⟩
theorem ce_Math_abs : am_callee y_Math_abs b_Math_abs 1 (some .int) 1 := ⟨am_gi (tb_4 (List.mem_of_getElem? (i := 92) rfl)) rfl, ini_Math, ⟨by decide, by decide, by decide +kernel⟩, by decide⟩
theorem st_Math_abs : Cond.static y_Math_abs ∈ am_gt := am_gi (tb_4 (List.mem_of_getElem? (i := 91) rfl)) rfl
abbrev b_U_hearer : ByteArray := prog_1_method_17_code
abbrev y_U_hearer : MethodName := ⟨"UnseenRing", "hearer", "(II)I"⟩
theorem ce_U_hearer : am_callee y_U_hearer b_U_hearer 3 (some .int) 2 := ⟨am_gi (tb_4 (List.mem_of_getElem? (i := 96) rfl)) rfl, ini_U, ⟨by decide, by decide, by decide +kernel⟩, by decide⟩
theorem in_U_hearer : Cond.instanceMethod y_U_hearer ∈ am_gt ∧ Cond.selects y_U_hearer.cls y_U_hearer y_U_hearer ∈ am_gt := ⟨am_gi (tb_4 (List.mem_of_getElem? (i := 94) rfl)) rfl, am_gi (tb_4 (List.mem_of_getElem? (i := 95) rfl)) rfl⟩
abbrev b_Square_hasHearer : ByteArray := prog_9_method_7_code
abbrev y_Square_hasHearer : MethodName := ⟨"UnseenRing$Square", "hasHearer", "(I)Z"⟩
theorem ce_Square_hasHearer : am_callee y_Square_hasHearer b_Square_hasHearer 2 (some .boolean) 1 := ⟨am_gi (tb_4 (List.mem_of_getElem? (i := 100) rfl)) rfl, ini_Square, ⟨by decide, by decide, by decide +kernel⟩, by decide⟩
theorem in_Square_hasHearer : Cond.instanceMethod y_Square_hasHearer ∈ am_gt ∧ Cond.selects y_Square_hasHearer.cls y_Square_hasHearer y_Square_hasHearer ∈ am_gt := ⟨am_gi (tb_4 (List.mem_of_getElem? (i := 98) rfl)) rfl, am_gi (tb_4 (List.mem_of_getElem? (i := 99) rfl)) rfl⟩
abbrev b_Square_toldOfHearer : ByteArray := prog_9_method_12_code
abbrev y_Square_toldOfHearer : MethodName := ⟨"UnseenRing$Square", "toldOfHearer", "(II)I"⟩
theorem ce_Square_toldOfHearer : am_callee y_Square_toldOfHearer b_Square_toldOfHearer 3 (some .int) 2 := ⟨am_gi (tb_4 (List.mem_of_getElem? (i := 105) rfl)) rfl, ini_Square, ⟨by decide, by decide, by decide +kernel⟩, by decide⟩
theorem in_Square_toldOfHearer : Cond.instanceMethod y_Square_toldOfHearer ∈ am_gt ∧ Cond.selects y_Square_toldOfHearer.cls y_Square_toldOfHearer y_Square_toldOfHearer ∈ am_gt := ⟨am_gi (tb_4 (List.mem_of_getElem? (i := 103) rfl)) rfl, am_gi (tb_4 (List.mem_of_getElem? (i := 104) rfl)) rfl⟩
abbrev b_Square_farFromOrgan : ByteArray := prog_9_method_14_code
abbrev y_Square_farFromOrgan : MethodName := ⟨"UnseenRing$Square", "farFromOrgan", "(I)I"⟩
theorem ce_Square_farFromOrgan : am_callee y_Square_farFromOrgan b_Square_farFromOrgan 2 (some .int) 1 := ⟨am_gi (tb_4 (List.mem_of_getElem? (i := 109) rfl)) rfl, ini_Square, ⟨by decide, by decide, by decide +kernel⟩, by decide⟩
theorem in_Square_farFromOrgan : Cond.instanceMethod y_Square_farFromOrgan ∈ am_gt ∧ Cond.selects y_Square_farFromOrgan.cls y_Square_farFromOrgan y_Square_farFromOrgan ∈ am_gt := ⟨am_gi (tb_4 (List.mem_of_getElem? (i := 107) rfl)) rfl, am_gi (tb_4 (List.mem_of_getElem? (i := 108) rfl)) rfl⟩
abbrev b_Square_isSeen : ByteArray := prog_9_method_17_code
abbrev y_Square_isSeen : MethodName := ⟨"UnseenRing$Square", "isSeen", "(I)Z"⟩
theorem ce_Square_isSeen : am_callee y_Square_isSeen b_Square_isSeen 2 (some .boolean) 1 := ⟨am_gi (tb_4 (List.mem_of_getElem? (i := 113) rfl)) rfl, ini_Square, ⟨by decide, by decide, by decide +kernel⟩, by decide⟩
theorem in_Square_isSeen : Cond.instanceMethod y_Square_isSeen ∈ am_gt ∧ Cond.selects y_Square_isSeen.cls y_Square_isSeen y_Square_isSeen ∈ am_gt := ⟨am_gi (tb_4 (List.mem_of_getElem? (i := 111) rfl)) rfl, am_gi (tb_4 (List.mem_of_getElem? (i := 112) rfl)) rfl⟩
abbrev b_U_dog : ByteArray := prog_1_method_18_code
abbrev y_U_dog : MethodName := ⟨"UnseenRing", "dog", "(II)I"⟩
theorem ce_U_dog : am_callee y_U_dog b_U_dog 3 (some .int) 2 := ⟨am_gi (tb_4 (List.mem_of_getElem? (i := 117) rfl)) rfl, ini_U, ⟨by decide, by decide, by decide +kernel⟩, by decide⟩
theorem in_U_dog : Cond.instanceMethod y_U_dog ∈ am_gt ∧ Cond.selects y_U_dog.cls y_U_dog y_U_dog ∈ am_gt := ⟨am_gi (tb_4 (List.mem_of_getElem? (i := 115) rfl)) rfl, am_gi (tb_4 (List.mem_of_getElem? (i := 116) rfl)) rfl⟩
abbrev b_Square_hasDog : ByteArray := prog_9_method_8_code
abbrev y_Square_hasDog : MethodName := ⟨"UnseenRing$Square", "hasDog", "(I)Z"⟩
theorem ce_Square_hasDog : am_callee y_Square_hasDog b_Square_hasDog 2 (some .boolean) 1 := ⟨am_gi (tb_4 (List.mem_of_getElem? (i := 121) rfl)) rfl, ini_Square, ⟨by decide, by decide, by decide +kernel⟩, by decide⟩
theorem in_Square_hasDog : Cond.instanceMethod y_Square_hasDog ∈ am_gt ∧ Cond.selects y_Square_hasDog.cls y_Square_hasDog y_Square_hasDog ∈ am_gt := ⟨am_gi (tb_4 (List.mem_of_getElem? (i := 119) rfl)) rfl, am_gi (tb_4 (List.mem_of_getElem? (i := 120) rfl)) rfl⟩
abbrev b_U_cell : ByteArray := prog_1_method_19_code
abbrev y_U_cell : MethodName := ⟨"UnseenRing", "cell", "(II)I"⟩
theorem ce_U_cell : am_callee y_U_cell b_U_cell 3 (some .int) 2 := ⟨am_gi (tb_4 (List.mem_of_getElem? (i := 126) rfl)) rfl, ini_U, ⟨by decide, by decide, by decide +kernel⟩, by decide⟩
theorem in_U_cell : Cond.instanceMethod y_U_cell ∈ am_gt ∧ Cond.selects y_U_cell.cls y_U_cell y_U_cell ∈ am_gt := ⟨am_gi (tb_4 (List.mem_of_getElem? (i := 124) rfl)) rfl, am_gi (tb_4 (List.mem_of_getElem? (i := 125) rfl)) rfl⟩
abbrev b_Square_hasCell : ByteArray := prog_9_method_5_code
abbrev y_Square_hasCell : MethodName := ⟨"UnseenRing$Square", "hasCell", "(I)Z"⟩
theorem ce_Square_hasCell : am_callee y_Square_hasCell b_Square_hasCell 2 (some .boolean) 1 := ⟨am_gi (tb_4 (List.mem_of_getElem? (i := 130) rfl)) rfl, ini_Square, ⟨by decide, by decide, by decide +kernel⟩, by decide⟩
theorem in_Square_hasCell : Cond.instanceMethod y_Square_hasCell ∈ am_gt ∧ Cond.selects y_Square_hasCell.cls y_Square_hasCell y_Square_hasCell ∈ am_gt := ⟨am_gi (tb_4 (List.mem_of_getElem? (i := 128) rfl)) rfl, am_gi (tb_4 (List.mem_of_getElem? (i := 129) rfl)) rfl⟩
abbrev b_Square_dogsUpFrom : ByteArray := prog_9_method_21_code
abbrev y_Square_dogsUpFrom : MethodName := ⟨"UnseenRing$Square", "dogsUpFrom", "(I)I"⟩
theorem ce_Square_dogsUpFrom : am_callee y_Square_dogsUpFrom b_Square_dogsUpFrom 4 (some .int) 1 := ⟨am_gi (tb_4 (List.mem_of_getElem? (i := 137) rfl)) rfl, ini_Square, ⟨by decide, by decide, by decide +kernel⟩, by decide⟩
theorem in_Square_dogsUpFrom : Cond.instanceMethod y_Square_dogsUpFrom ∈ am_gt ∧ Cond.selects y_Square_dogsUpFrom.cls y_Square_dogsUpFrom y_Square_dogsUpFrom ∈ am_gt := ⟨am_gi (tb_4 (List.mem_of_getElem? (i := 135) rfl)) rfl, am_gi (tb_4 (List.mem_of_getElem? (i := 136) rfl)) rfl⟩
abbrev b_Square_isNear : ByteArray := prog_9_method_15_code
abbrev y_Square_isNear : MethodName := ⟨"UnseenRing$Square", "isNear", "(II)Z"⟩
theorem ce_Square_isNear : am_callee y_Square_isNear b_Square_isNear 3 (some .boolean) 2 := ⟨am_gi (tb_4 (List.mem_of_getElem? (i := 141) rfl)) rfl, ini_Square, ⟨by decide, by decide, by decide +kernel⟩, by decide⟩
theorem in_Square_isNear : Cond.instanceMethod y_Square_isNear ∈ am_gt ∧ Cond.selects y_Square_isNear.cls y_Square_isNear y_Square_isNear ∈ am_gt := ⟨am_gi (tb_4 (List.mem_of_getElem? (i := 139) rfl)) rfl, am_gi (tb_4 (List.mem_of_getElem? (i := 140) rfl)) rfl⟩
abbrev b_U_likers : ByteArray := prog_1_method_20_code
abbrev y_U_likers : MethodName := ⟨"UnseenRing", "likers", "(I)I"⟩
theorem ce_U_likers : am_callee y_U_likers b_U_likers 2 (some .int) 1 := ⟨am_gi (tb_4 (List.mem_of_getElem? (i := 145) rfl)) rfl, ini_U, ⟨by decide, by decide, by decide +kernel⟩, by decide⟩
theorem in_U_likers : Cond.instanceMethod y_U_likers ∈ am_gt ∧ Cond.selects y_U_likers.cls y_U_likers y_U_likers ∈ am_gt := ⟨am_gi (tb_4 (List.mem_of_getElem? (i := 143) rfl)) rfl, am_gi (tb_4 (List.mem_of_getElem? (i := 144) rfl)) rfl⟩
abbrev b_Square_hasTune : ByteArray := prog_9_method_6_code
abbrev y_Square_hasTune : MethodName := ⟨"UnseenRing$Square", "hasTune", "(I)Z"⟩
theorem ce_Square_hasTune : am_callee y_Square_hasTune b_Square_hasTune 2 (some .boolean) 1 := ⟨am_gi (tb_4 (List.mem_of_getElem? (i := 149) rfl)) rfl, ini_Square, ⟨by decide, by decide, by decide +kernel⟩, by decide⟩
theorem in_Square_hasTune : Cond.instanceMethod y_Square_hasTune ∈ am_gt ∧ Cond.selects y_Square_hasTune.cls y_Square_hasTune y_Square_hasTune ∈ am_gt := ⟨am_gi (tb_4 (List.mem_of_getElem? (i := 147) rfl)) rfl, am_gi (tb_4 (List.mem_of_getElem? (i := 148) rfl)) rfl⟩
abbrev b_Square_likersOf : ByteArray := prog_9_method_20_code
abbrev y_Square_likersOf : MethodName := ⟨"UnseenRing$Square", "likersOf", "(I)I"⟩
theorem ce_Square_likersOf : am_callee y_Square_likersOf b_Square_likersOf 4 (some .int) 1 := ⟨am_gi (tb_4 (List.mem_of_getElem? (i := 153) rfl)) rfl, ini_Square, ⟨by decide, by decide, by decide +kernel⟩, by decide⟩
theorem in_Square_likersOf : Cond.instanceMethod y_Square_likersOf ∈ am_gt ∧ Cond.selects y_Square_likersOf.cls y_Square_likersOf y_Square_likersOf ∈ am_gt := ⟨am_gi (tb_4 (List.mem_of_getElem? (i := 151) rfl)) rfl, am_gi (tb_4 (List.mem_of_getElem? (i := 152) rfl)) rfl⟩
abbrev b_Square_doesLike : ByteArray := prog_9_method_16_code
abbrev y_Square_doesLike : MethodName := ⟨"UnseenRing$Square", "doesLike", "(II)Z"⟩
theorem ce_Square_doesLike : am_callee y_Square_doesLike b_Square_doesLike 3 (some .boolean) 2 := ⟨am_gi (tb_4 (List.mem_of_getElem? (i := 157) rfl)) rfl, ini_Square, ⟨by decide, by decide, by decide +kernel⟩, by decide⟩
theorem in_Square_doesLike : Cond.instanceMethod y_Square_doesLike ∈ am_gt ∧ Cond.selects y_Square_doesLike.cls y_Square_doesLike y_Square_doesLike ∈ am_gt := ⟨am_gi (tb_4 (List.mem_of_getElem? (i := 155) rfl)) rfl, am_gi (tb_4 (List.mem_of_getElem? (i := 156) rfl)) rfl⟩
abbrev b_U_play : ByteArray := prog_1_method_21_code
abbrev y_U_play : MethodName := ⟨"UnseenRing", "play", "(I)I"⟩
theorem ce_U_play : am_callee y_U_play b_U_play 2 (some .int) 1 := ⟨am_gi (tb_4 (List.mem_of_getElem? (i := 161) rfl)) rfl, ini_U, ⟨by decide, by decide, by decide +kernel⟩, by decide⟩
theorem in_U_play : Cond.instanceMethod y_U_play ∈ am_gt ∧ Cond.selects y_U_play.cls y_U_play y_U_play ∈ am_gt := ⟨am_gi (tb_4 (List.mem_of_getElem? (i := 159) rfl)) rfl, am_gi (tb_4 (List.mem_of_getElem? (i := 160) rfl)) rfl⟩
abbrev b_Square_playTune : ByteArray := prog_9_method_23_code
abbrev y_Square_playTune : MethodName := ⟨"UnseenRing$Square", "playTune", "(I)I"⟩
theorem ce_Square_playTune : am_callee y_Square_playTune b_Square_playTune 4 (some .int) 1 := ⟨am_gi (tb_4 (List.mem_of_getElem? (i := 165) rfl)) rfl, ini_Square, ⟨by decide, by decide, by decide +kernel⟩, by decide⟩
theorem in_Square_playTune : Cond.instanceMethod y_Square_playTune ∈ am_gt ∧ Cond.selects y_Square_playTune.cls y_Square_playTune y_Square_playTune ∈ am_gt := ⟨am_gi (tb_4 (List.mem_of_getElem? (i := 163) rfl)) rfl, am_gi (tb_4 (List.mem_of_getElem? (i := 164) rfl)) rfl⟩
abbrev b_Square_aStepNearer : ByteArray := prog_9_method_24_code
abbrev y_Square_aStepNearer : MethodName := ⟨"UnseenRing$Square", "aStepNearer", "(I)I"⟩
theorem ce_Square_aStepNearer : am_callee y_Square_aStepNearer b_Square_aStepNearer 4 (some .int) 1 := ⟨am_gi (tb_4 (List.mem_of_getElem? (i := 170) rfl)) rfl, ini_Square, ⟨by decide, by decide, by decide +kernel⟩, by decide⟩
theorem in_Square_aStepNearer : Cond.instanceMethod y_Square_aStepNearer ∈ am_gt ∧ Cond.selects y_Square_aStepNearer.cls y_Square_aStepNearer y_Square_aStepNearer ∈ am_gt := ⟨am_gi (tb_4 (List.mem_of_getElem? (i := 169) rfl)) rfl, am_sel (q := (y_Square_aStepNearer, 16)) (am_pv_2 (List.mem_of_getElem? (i := 13) rfl))⟩
abbrev b_Integer_compare : ByteArray := prog_15_method_40_code
abbrev y_Integer_compare : MethodName := ⟨"java/lang/Integer", "compare", "(II)I"⟩
theorem ini_Integer : Cond.initialized "java/lang/Integer" ∈ am_gt := am_gi (tb_1 (List.mem_of_getElem? (i := 21) rfl)) rfl
theorem ce_Integer_compare : am_callee y_Integer_compare b_Integer_compare 2 (some .int) 2 := ⟨am_gi (tb_4 (List.mem_of_getElem? (i := 173) rfl)) rfl, ini_Integer, ⟨by decide, by decide, by decide +kernel⟩, by decide⟩
theorem st_Integer_compare : Cond.static y_Integer_compare ∈ am_gt := am_gi (tb_4 (List.mem_of_getElem? (i := 172) rfl)) rfl
abbrev b_U_answeredIfItCanBe : ByteArray := prog_1_method_66_code
abbrev y_U_answeredIfItCanBe : MethodName := ⟨"UnseenRing", "answeredIfItCanBe", "(I)I"⟩
theorem ce_U_answeredIfItCanBe : am_callee y_U_answeredIfItCanBe b_U_answeredIfItCanBe 2 (some .int) 1 := ⟨am_gi (tb_4 (List.mem_of_getElem? (i := 178) rfl)) rfl, ini_U, ⟨by decide, by decide, by decide +kernel⟩, by decide⟩
theorem in_U_answeredIfItCanBe : Cond.instanceMethod y_U_answeredIfItCanBe ∈ am_gt ∧ Cond.selects y_U_answeredIfItCanBe.cls y_U_answeredIfItCanBe y_U_answeredIfItCanBe ∈ am_gt := ⟨am_gi (tb_4 (List.mem_of_getElem? (i := 177) rfl)) rfl, am_sel (q := (y_U_answeredIfItCanBe, 18)) (am_pv_2 (List.mem_of_getElem? (i := 14) rfl))⟩
abbrev b_U_grind : ByteArray := prog_1_method_22_code
abbrev y_U_grind : MethodName := ⟨"UnseenRing", "grind", "(I)I"⟩
theorem ce_U_grind : am_callee y_U_grind b_U_grind 2 (some .int) 1 := ⟨am_gi (tb_4 (List.mem_of_getElem? (i := 182) rfl)) rfl, ini_U, ⟨by decide, by decide, by decide +kernel⟩, by decide⟩
theorem in_U_grind : Cond.instanceMethod y_U_grind ∈ am_gt ∧ Cond.selects y_U_grind.cls y_U_grind y_U_grind ∈ am_gt := ⟨am_gi (tb_4 (List.mem_of_getElem? (i := 180) rfl)) rfl, am_gi (tb_4 (List.mem_of_getElem? (i := 181) rfl)) rfl⟩
abbrev b_Square_moveOrgan : ByteArray := prog_9_method_25_code
abbrev y_Square_moveOrgan : MethodName := ⟨"UnseenRing$Square", "moveOrgan", "(I)I"⟩
theorem ce_Square_moveOrgan : am_callee y_Square_moveOrgan b_Square_moveOrgan 3 (some .int) 1 := ⟨am_gi (tb_4 (List.mem_of_getElem? (i := 186) rfl)) rfl, ini_Square, ⟨by decide, by decide, by decide +kernel⟩, by decide⟩
theorem in_Square_moveOrgan : Cond.instanceMethod y_Square_moveOrgan ∈ am_gt ∧ Cond.selects y_Square_moveOrgan.cls y_Square_moveOrgan y_Square_moveOrgan ∈ am_gt := ⟨am_gi (tb_4 (List.mem_of_getElem? (i := 184) rfl)) rfl, am_gi (tb_4 (List.mem_of_getElem? (i := 185) rfl)) rfl⟩
abbrev b_U_throwAt : ByteArray := prog_1_method_23_code
abbrev y_U_throwAt : MethodName := ⟨"UnseenRing", "throwAt", "(I)I"⟩
theorem ce_U_throwAt : am_callee y_U_throwAt b_U_throwAt 2 (some .int) 1 := ⟨am_gi (tb_4 (List.mem_of_getElem? (i := 190) rfl)) rfl, ini_U, ⟨by decide, by decide, by decide +kernel⟩, by decide⟩
theorem in_U_throwAt : Cond.instanceMethod y_U_throwAt ∈ am_gt ∧ Cond.selects y_U_throwAt.cls y_U_throwAt y_U_throwAt ∈ am_gt := ⟨am_gi (tb_4 (List.mem_of_getElem? (i := 188) rfl)) rfl, am_gi (tb_4 (List.mem_of_getElem? (i := 189) rfl)) rfl⟩
abbrev b_Square_flour : ByteArray := prog_9_method_26_code
abbrev y_Square_flour : MethodName := ⟨"UnseenRing$Square", "flour", "(I)I"⟩
theorem ce_Square_flour : am_callee y_Square_flour b_Square_flour 3 (some .int) 1 := ⟨am_gi (tb_4 (List.mem_of_getElem? (i := 194) rfl)) rfl, ini_Square, ⟨by decide, by decide, by decide +kernel⟩, by decide⟩
theorem in_Square_flour : Cond.instanceMethod y_Square_flour ∈ am_gt ∧ Cond.selects y_Square_flour.cls y_Square_flour y_Square_flour ∈ am_gt := ⟨am_gi (tb_4 (List.mem_of_getElem? (i := 192) rfl)) rfl, am_gi (tb_4 (List.mem_of_getElem? (i := 193) rfl)) rfl⟩
abbrev b_U_brush : ByteArray := prog_1_method_24_code
abbrev y_U_brush : MethodName := ⟨"UnseenRing", "brush", "()I"⟩
theorem ce_U_brush : am_callee y_U_brush b_U_brush 1 (some .int) 0 := ⟨am_gi (tb_4 (List.mem_of_getElem? (i := 198) rfl)) rfl, ini_U, ⟨by decide, by decide, by decide +kernel⟩, by decide⟩
theorem in_U_brush : Cond.instanceMethod y_U_brush ∈ am_gt ∧ Cond.selects y_U_brush.cls y_U_brush y_U_brush ∈ am_gt := ⟨am_gi (tb_4 (List.mem_of_getElem? (i := 196) rfl)) rfl, am_gi (tb_4 (List.mem_of_getElem? (i := 197) rfl)) rfl⟩
abbrev b_Square_brushOff : ByteArray := prog_9_method_27_code
abbrev y_Square_brushOff : MethodName := ⟨"UnseenRing$Square", "brushOff", "()I"⟩
theorem ce_Square_brushOff : am_callee y_Square_brushOff b_Square_brushOff 2 (some .int) 0 := ⟨am_gi (tb_4 (List.mem_of_getElem? (i := 202) rfl)) rfl, ini_Square, ⟨by decide, by decide, by decide +kernel⟩, by decide⟩
theorem in_Square_brushOff : Cond.instanceMethod y_Square_brushOff ∈ am_gt ∧ Cond.selects y_Square_brushOff.cls y_Square_brushOff y_Square_brushOff ∈ am_gt := ⟨am_gi (tb_4 (List.mem_of_getElem? (i := 200) rfl)) rfl, am_gi (tb_4 (List.mem_of_getElem? (i := 201) rfl)) rfl⟩
abbrev b_Integer_bitCount : ByteArray := prog_15_method_49_code
abbrev y_Integer_bitCount : MethodName := ⟨"java/lang/Integer", "bitCount", "(I)I"⟩
theorem ce_Integer_bitCount : am_callee y_Integer_bitCount b_Integer_bitCount 1 (some .int) 1 := ⟨am_gi (tb_4 (List.mem_of_getElem? (i := 205) rfl)) rfl, ini_Integer, ⟨by decide, by decide, by decide +kernel⟩, by decide⟩
theorem st_Integer_bitCount : Cond.static y_Integer_bitCount ∈ am_gt := am_gi (tb_4 (List.mem_of_getElem? (i := 204) rfl)) rfl
abbrev b_U_send : ByteArray := prog_1_method_25_code
abbrev y_U_send : MethodName := ⟨"UnseenRing", "send", "(II)I"⟩
theorem ce_U_send : am_callee y_U_send b_U_send 3 (some .int) 2 := ⟨am_gi (tb_4 (List.mem_of_getElem? (i := 212) rfl)) rfl, ini_U, ⟨by decide, by decide, by decide +kernel⟩, by decide⟩
theorem in_U_send : Cond.instanceMethod y_U_send ∈ am_gt ∧ Cond.selects y_U_send.cls y_U_send y_U_send ∈ am_gt := ⟨am_gi (tb_4 (List.mem_of_getElem? (i := 210) rfl)) rfl, am_gi (tb_4 (List.mem_of_getElem? (i := 211) rfl)) rfl⟩
abbrev b_Square_moveHearer : ByteArray := prog_9_method_28_code
abbrev y_Square_moveHearer : MethodName := ⟨"UnseenRing$Square", "moveHearer", "(II)I"⟩
theorem ce_Square_moveHearer : am_callee y_Square_moveHearer b_Square_moveHearer 4 (some .int) 2 := ⟨am_gi (tb_4 (List.mem_of_getElem? (i := 216) rfl)) rfl, ini_Square, ⟨by decide, by decide, by decide +kernel⟩, by decide⟩
theorem in_Square_moveHearer : Cond.instanceMethod y_Square_moveHearer ∈ am_gt ∧ Cond.selects y_Square_moveHearer.cls y_Square_moveHearer y_Square_moveHearer ∈ am_gt := ⟨am_gi (tb_4 (List.mem_of_getElem? (i := 214) rfl)) rfl, am_gi (tb_4 (List.mem_of_getElem? (i := 215) rfl)) rfl⟩
abbrev b_U_give : ByteArray := prog_1_method_26_code
abbrev y_U_give : MethodName := ⟨"UnseenRing", "give", "(II)I"⟩
theorem ce_U_give : am_callee y_U_give b_U_give 4 (some .int) 2 := ⟨am_gi (tb_4 (List.mem_of_getElem? (i := 220) rfl)) rfl, ini_U, ⟨by decide, by decide, by decide +kernel⟩, by decide⟩
theorem in_U_give : Cond.instanceMethod y_U_give ∈ am_gt ∧ Cond.selects y_U_give.cls y_U_give y_U_give ∈ am_gt := ⟨am_gi (tb_4 (List.mem_of_getElem? (i := 218) rfl)) rfl, am_gi (tb_4 (List.mem_of_getElem? (i := 219) rfl)) rfl⟩
abbrev b_U_teach : ByteArray := prog_1_method_27_code
abbrev y_U_teach : MethodName := ⟨"UnseenRing", "teach", "(IIZ)Z"⟩
theorem ce_U_teach : am_callee y_U_teach b_U_teach 4 (some .boolean) 3 := ⟨am_gi (tb_4 (List.mem_of_getElem? (i := 224) rfl)) rfl, ini_U, ⟨by decide, by decide, by decide +kernel⟩, by decide⟩
theorem in_U_teach : Cond.instanceMethod y_U_teach ∈ am_gt ∧ Cond.selects y_U_teach.cls y_U_teach y_U_teach ∈ am_gt := ⟨am_gi (tb_4 (List.mem_of_getElem? (i := 222) rfl)) rfl, am_gi (tb_4 (List.mem_of_getElem? (i := 223) rfl)) rfl⟩
abbrev b_U_come : ByteArray := prog_1_method_28_code
abbrev y_U_come : MethodName := ⟨"UnseenRing", "come", "(I)I"⟩
theorem ce_U_come : am_callee y_U_come b_U_come 2 (some .int) 1 := ⟨am_gi (tb_4 (List.mem_of_getElem? (i := 229) rfl)) rfl, ini_U, ⟨by decide, by decide, by decide +kernel⟩, by decide⟩
theorem in_U_come : Cond.instanceMethod y_U_come ∈ am_gt ∧ Cond.selects y_U_come.cls y_U_come y_U_come ∈ am_gt := ⟨am_gi (tb_4 (List.mem_of_getElem? (i := 227) rfl)) rfl, am_gi (tb_4 (List.mem_of_getElem? (i := 228) rfl)) rfl⟩
abbrev b_U_empty : ByteArray := prog_1_method_29_code
abbrev y_U_empty : MethodName := ⟨"UnseenRing", "empty", "()I"⟩
theorem ce_U_empty : am_callee y_U_empty b_U_empty 1 (some .int) 0 := ⟨am_gi (tb_4 (List.mem_of_getElem? (i := 234) rfl)) rfl, ini_U, ⟨by decide, by decide, by decide +kernel⟩, by decide⟩
theorem in_U_empty : Cond.instanceMethod y_U_empty ∈ am_gt ∧ Cond.selects y_U_empty.cls y_U_empty y_U_empty ∈ am_gt := ⟨am_gi (tb_4 (List.mem_of_getElem? (i := 232) rfl)) rfl, am_gi (tb_4 (List.mem_of_getElem? (i := 233) rfl)) rfl⟩
abbrev b_Square_emptyCup : ByteArray := prog_9_method_29_code
abbrev y_Square_emptyCup : MethodName := ⟨"UnseenRing$Square", "emptyCup", "()I"⟩
theorem ce_Square_emptyCup : am_callee y_Square_emptyCup b_Square_emptyCup 2 (some .int) 0 := ⟨am_gi (tb_4 (List.mem_of_getElem? (i := 238) rfl)) rfl, ini_Square, ⟨by decide, by decide, by decide +kernel⟩, by decide⟩
theorem in_Square_emptyCup : Cond.instanceMethod y_Square_emptyCup ∈ am_gt ∧ Cond.selects y_Square_emptyCup.cls y_Square_emptyCup y_Square_emptyCup ∈ am_gt := ⟨am_gi (tb_4 (List.mem_of_getElem? (i := 236) rfl)) rfl, am_gi (tb_4 (List.mem_of_getElem? (i := 237) rfl)) rfl⟩
abbrev b_U_rule : ByteArray := prog_1_method_30_code
abbrev y_U_rule : MethodName := ⟨"UnseenRing", "rule", "(I)Z"⟩
theorem ce_U_rule : am_callee y_U_rule b_U_rule 2 (some .boolean) 1 := ⟨am_gi (tb_5 (List.mem_of_getElem? (i := 2) rfl)) rfl, ini_U, ⟨by decide, by decide, by decide +kernel⟩, by decide⟩
theorem in_U_rule : Cond.instanceMethod y_U_rule ∈ am_gt ∧ Cond.selects y_U_rule.cls y_U_rule y_U_rule ∈ am_gt := ⟨am_gi (tb_5 (List.mem_of_getElem? (i := 0) rfl)) rfl, am_gi (tb_5 (List.mem_of_getElem? (i := 1) rfl)) rfl⟩
abbrev b_U_takings : ByteArray := prog_1_method_31_code
abbrev y_U_takings : MethodName := ⟨"UnseenRing", "takings", "(II)I"⟩
theorem ce_U_takings : am_callee y_U_takings b_U_takings 3 (some .int) 2 := ⟨am_gi (tb_5 (List.mem_of_getElem? (i := 6) rfl)) rfl, ini_U, ⟨by decide, by decide, by decide +kernel⟩, by decide⟩
theorem in_U_takings : Cond.instanceMethod y_U_takings ∈ am_gt ∧ Cond.selects y_U_takings.cls y_U_takings y_U_takings ∈ am_gt := ⟨am_gi (tb_5 (List.mem_of_getElem? (i := 4) rfl)) rfl, am_gi (tb_5 (List.mem_of_getElem? (i := 5) rfl)) rfl⟩
abbrev b_U_pitch : ByteArray := prog_1_method_32_code
abbrev y_U_pitch : MethodName := ⟨"UnseenRing", "pitch", "(III)I"⟩
theorem ce_U_pitch : am_callee y_U_pitch b_U_pitch 4 (some .int) 3 := ⟨am_gi (tb_5 (List.mem_of_getElem? (i := 10) rfl)) rfl, ini_U, ⟨by decide, by decide, by decide +kernel⟩, by decide⟩
theorem in_U_pitch : Cond.instanceMethod y_U_pitch ∈ am_gt ∧ Cond.selects y_U_pitch.cls y_U_pitch y_U_pitch ∈ am_gt := ⟨am_gi (tb_5 (List.mem_of_getElem? (i := 8) rfl)) rfl, am_gi (tb_5 (List.mem_of_getElem? (i := 9) rfl)) rfl⟩
abbrev b_Square_coinsFrom : ByteArray := prog_9_method_30_code
abbrev y_Square_coinsFrom : MethodName := ⟨"UnseenRing$Square", "coinsFrom", "(III)I"⟩
theorem ce_Square_coinsFrom : am_callee y_Square_coinsFrom b_Square_coinsFrom 6 (some .int) 3 := ⟨am_gi (tb_5 (List.mem_of_getElem? (i := 14) rfl)) rfl, ini_Square, ⟨by decide, by decide, by decide +kernel⟩, by decide⟩
theorem in_Square_coinsFrom : Cond.instanceMethod y_Square_coinsFrom ∈ am_gt ∧ Cond.selects y_Square_coinsFrom.cls y_Square_coinsFrom y_Square_coinsFrom ∈ am_gt := ⟨am_gi (tb_5 (List.mem_of_getElem? (i := 12) rfl)) rfl, am_gi (tb_5 (List.mem_of_getElem? (i := 13) rfl)) rfl⟩
abbrev b_Math_max : ByteArray := prog_16_method_65_code
abbrev y_Math_max : MethodName := ⟨"java/lang/Math", "max", "(II)I"⟩
theorem ce_Math_max : am_callee y_Math_max b_Math_max 2 (some .int) 2 := ⟨am_gi (tb_5 (List.mem_of_getElem? (i := 17) rfl)) rfl, ini_Math, ⟨by decide, by decide, by decide +kernel⟩, by decide⟩
theorem st_Math_max : Cond.static y_Math_max ∈ am_gt := am_gi (tb_5 (List.mem_of_getElem? (i := 16) rfl)) rfl
abbrev b_U_bestPitch : ByteArray := prog_1_method_33_code
abbrev y_U_bestPitch : MethodName := ⟨"UnseenRing", "bestPitch", "(II)I"⟩
theorem ce_U_bestPitch : am_callee y_U_bestPitch b_U_bestPitch 7 (some .int) 2 := ⟨am_gi (tb_5 (List.mem_of_getElem? (i := 22) rfl)) rfl, ini_U, ⟨by decide, by decide, by decide +kernel⟩, by decide⟩
theorem in_U_bestPitch : Cond.instanceMethod y_U_bestPitch ∈ am_gt ∧ Cond.selects y_U_bestPitch.cls y_U_bestPitch y_U_bestPitch ∈ am_gt := ⟨am_gi (tb_5 (List.mem_of_getElem? (i := 20) rfl)) rfl, am_gi (tb_5 (List.mem_of_getElem? (i := 21) rfl)) rfl⟩
abbrev b_U_soon : ByteArray := prog_1_method_34_code
abbrev y_U_soon : MethodName := ⟨"UnseenRing", "soon", "(I)I"⟩
theorem ce_U_soon : am_callee y_U_soon b_U_soon 3 (some .int) 1 := ⟨am_gi (tb_5 (List.mem_of_getElem? (i := 27) rfl)) rfl, ini_U, ⟨by decide, by decide, by decide +kernel⟩, by decide⟩
theorem in_U_soon : Cond.instanceMethod y_U_soon ∈ am_gt ∧ Cond.selects y_U_soon.cls y_U_soon y_U_soon ∈ am_gt := ⟨am_gi (tb_5 (List.mem_of_getElem? (i := 25) rfl)) rfl, am_gi (tb_5 (List.mem_of_getElem? (i := 26) rfl)) rfl⟩
abbrev b_U_gather : ByteArray := prog_1_method_35_code
abbrev y_U_gather : MethodName := ⟨"UnseenRing", "gather", "(I)I"⟩
theorem ce_U_gather : am_callee y_U_gather b_U_gather 2 (some .int) 1 := ⟨am_gi (tb_5 (List.mem_of_getElem? (i := 32) rfl)) rfl, ini_U, ⟨by decide, by decide, by decide +kernel⟩, by decide⟩
theorem in_U_gather : Cond.instanceMethod y_U_gather ∈ am_gt ∧ Cond.selects y_U_gather.cls y_U_gather y_U_gather ∈ am_gt := ⟨am_gi (tb_5 (List.mem_of_getElem? (i := 30) rfl)) rfl, am_gi (tb_5 (List.mem_of_getElem? (i := 31) rfl)) rfl⟩
abbrev b_U_canGather : ByteArray := prog_1_method_37_code
abbrev y_U_canGather : MethodName := ⟨"UnseenRing", "canGather", "(I)Z"⟩
theorem ce_U_canGather : am_callee y_U_canGather b_U_canGather 2 (some .boolean) 1 := ⟨am_gi (tb_5 (List.mem_of_getElem? (i := 36) rfl)) rfl, ini_U, ⟨by decide, by decide, by decide +kernel⟩, by decide⟩
theorem in_U_canGather : Cond.instanceMethod y_U_canGather ∈ am_gt ∧ Cond.selects y_U_canGather.cls y_U_canGather y_U_canGather ∈ am_gt := ⟨am_gi (tb_5 (List.mem_of_getElem? (i := 35) rfl)) rfl, am_sel (q := (y_U_canGather, 18)) (am_pv_2 (List.mem_of_getElem? (i := 15) rfl))⟩
abbrev b_U_isSet : ByteArray := prog_1_method_73_code
abbrev y_U_isSet : MethodName := ⟨"UnseenRing", "isSet", "(II)Z"⟩
theorem ce_U_isSet : am_callee y_U_isSet b_U_isSet 2 (some .boolean) 2 := ⟨am_gi (tb_5 (List.mem_of_getElem? (i := 39) rfl)) rfl, ini_U, ⟨by decide, by decide, by decide +kernel⟩, by decide⟩
theorem st_U_isSet : Cond.static y_U_isSet ∈ am_gt := am_gi (tb_5 (List.mem_of_getElem? (i := 38) rfl)) rfl
abbrev b_Rows_fewestTunes : ByteArray := prog_8_method_2_code
abbrev y_Rows_fewestTunes : MethodName := ⟨"UnseenRing$Rows", "fewestTunes", "(LUnseenRing$Square;I)I"⟩
theorem ce_Rows_fewestTunes : am_callee y_Rows_fewestTunes b_Rows_fewestTunes 7 (some .int) 2 := ⟨am_gi (tb_5 (List.mem_of_getElem? (i := 44) rfl)) rfl, ini_Rows, ⟨by decide, by decide, by decide +kernel⟩, by decide⟩
theorem in_Rows_fewestTunes : Cond.instanceMethod y_Rows_fewestTunes ∈ am_gt ∧ Cond.selects y_Rows_fewestTunes.cls y_Rows_fewestTunes y_Rows_fewestTunes ∈ am_gt := ⟨am_gi (tb_5 (List.mem_of_getElem? (i := 42) rfl)) rfl, am_gi (tb_5 (List.mem_of_getElem? (i := 43) rfl)) rfl⟩
abbrev b_Arrays_fillI : ByteArray := prog_21_method_103_code
abbrev y_Arrays_fillI : MethodName := ⟨"java/util/Arrays", "fill", "([II)V"⟩
theorem ce_Arrays_fillI : am_callee y_Arrays_fillI b_Arrays_fillI 4 (none) 2 := ⟨am_gi (tb_5 (List.mem_of_getElem? (i := 47) rfl)) rfl, ini_Arrays, ⟨by decide, by decide, by decide +kernel⟩, by decide⟩
theorem st_Arrays_fillI : Cond.static y_Arrays_fillI ∈ am_gt := am_gi (tb_5 (List.mem_of_getElem? (i := 46) rfl)) rfl
abbrev b_Rows_index : ByteArray := prog_8_method_7_code
abbrev y_Rows_index : MethodName := ⟨"UnseenRing$Rows", "index", "(III)I"⟩
theorem ce_Rows_index : am_callee y_Rows_index b_Rows_index 3 (some .int) 3 := ⟨am_gi (tb_5 (List.mem_of_getElem? (i := 51) rfl)) rfl, ini_Rows, ⟨by decide, by decide, by decide +kernel⟩, by decide⟩
theorem st_Rows_index : Cond.static y_Rows_index ∈ am_gt := am_gi (tb_5 (List.mem_of_getElem? (i := 50) rfl)) rfl
abbrev b_Rows_fewestFrom : ByteArray := prog_8_method_3_code
abbrev y_Rows_fewestFrom : MethodName := ⟨"UnseenRing$Rows", "fewestFrom", "(III)I"⟩
theorem ce_Rows_fewestFrom : am_callee y_Rows_fewestFrom b_Rows_fewestFrom 8 (some .int) 3 := ⟨am_gi (tb_5 (List.mem_of_getElem? (i := 55) rfl)) rfl, ini_Rows, ⟨by decide, by decide, by decide +kernel⟩, by decide⟩
theorem in_Rows_fewestFrom : Cond.instanceMethod y_Rows_fewestFrom ∈ am_gt ∧ Cond.selects y_Rows_fewestFrom.cls y_Rows_fewestFrom y_Rows_fewestFrom ∈ am_gt := ⟨am_gi (tb_5 (List.mem_of_getElem? (i := 54) rfl)) rfl, am_sel (q := (y_Rows_fewestFrom, 6)) (am_pv_3 (List.mem_of_getElem? (i := 0) rfl))⟩
abbrev b_Rows_left : ByteArray := prog_8_method_6_code
abbrev y_Rows_left : MethodName := ⟨"UnseenRing$Rows", "left", "(III)I"⟩
theorem ce_Rows_left : am_callee y_Rows_left b_Rows_left 4 (some .int) 3 := ⟨am_gi (tb_5 (List.mem_of_getElem? (i := 59) rfl)) rfl, ini_Rows, ⟨by decide, by decide, by decide +kernel⟩, by decide⟩
theorem in_Rows_left : Cond.instanceMethod y_Rows_left ∈ am_gt ∧ Cond.selects y_Rows_left.cls y_Rows_left y_Rows_left ∈ am_gt := ⟨am_gi (tb_5 (List.mem_of_getElem? (i := 58) rfl)) rfl, am_sel (q := (y_Rows_left, 6)) (am_pv_3 (List.mem_of_getElem? (i := 1) rfl))⟩
abbrev b_U_answeredIfThereIs : ByteArray := prog_1_method_67_code
abbrev y_U_answeredIfThereIs : MethodName := ⟨"UnseenRing", "answeredIfThereIs", "(I)I"⟩
theorem ce_U_answeredIfThereIs : am_callee y_U_answeredIfThereIs b_U_answeredIfThereIs 2 (some .int) 1 := ⟨am_gi (tb_5 (List.mem_of_getElem? (i := 64) rfl)) rfl, ini_U, ⟨by decide, by decide, by decide +kernel⟩, by decide⟩
theorem in_U_answeredIfThereIs : Cond.instanceMethod y_U_answeredIfThereIs ∈ am_gt ∧ Cond.selects y_U_answeredIfThereIs.cls y_U_answeredIfThereIs y_U_answeredIfThereIs ∈ am_gt := ⟨am_gi (tb_5 (List.mem_of_getElem? (i := 63) rfl)) rfl, am_sel (q := (y_U_answeredIfThereIs, 18)) (am_pv_3 (List.mem_of_getElem? (i := 2) rfl))⟩
abbrev b_U_gatherAt : ByteArray := prog_1_method_36_code
abbrev y_U_gatherAt : MethodName := ⟨"UnseenRing", "gatherAt", "(II)I"⟩
theorem ce_U_gatherAt : am_callee y_U_gatherAt b_U_gatherAt 4 (some .int) 2 := ⟨am_gi (tb_5 (List.mem_of_getElem? (i := 68) rfl)) rfl, ini_U, ⟨by decide, by decide, by decide +kernel⟩, by decide⟩
theorem in_U_gatherAt : Cond.instanceMethod y_U_gatherAt ∈ am_gt ∧ Cond.selects y_U_gatherAt.cls y_U_gatherAt y_U_gatherAt ∈ am_gt := ⟨am_gi (tb_5 (List.mem_of_getElem? (i := 66) rfl)) rfl, am_gi (tb_5 (List.mem_of_getElem? (i := 67) rfl)) rfl⟩
abbrev b_Rows_tuneOfRow : ByteArray := prog_8_method_4_code
abbrev y_Rows_tuneOfRow : MethodName := ⟨"UnseenRing$Rows", "tuneOfRow", "(I)I"⟩
theorem ce_Rows_tuneOfRow : am_callee y_Rows_tuneOfRow b_Rows_tuneOfRow 7 (some .int) 1 := ⟨am_gi (tb_5 (List.mem_of_getElem? (i := 72) rfl)) rfl, ini_Rows, ⟨by decide, by decide, by decide +kernel⟩, by decide⟩
theorem in_Rows_tuneOfRow : Cond.instanceMethod y_Rows_tuneOfRow ∈ am_gt ∧ Cond.selects y_Rows_tuneOfRow.cls y_Rows_tuneOfRow y_Rows_tuneOfRow ∈ am_gt := ⟨am_gi (tb_5 (List.mem_of_getElem? (i := 70) rfl)) rfl, am_gi (tb_5 (List.mem_of_getElem? (i := 71) rfl)) rfl⟩
abbrev b_Rows_firstGoodTune : ByteArray := prog_8_method_5_code
abbrev y_Rows_firstGoodTune : MethodName := ⟨"UnseenRing$Rows", "firstGoodTune", "(III)I"⟩
theorem ce_Rows_firstGoodTune : am_callee y_Rows_firstGoodTune b_Rows_firstGoodTune 6 (some .int) 3 := ⟨am_gi (tb_5 (List.mem_of_getElem? (i := 76) rfl)) rfl, ini_Rows, ⟨by decide, by decide, by decide +kernel⟩, by decide⟩
theorem in_Rows_firstGoodTune : Cond.instanceMethod y_Rows_firstGoodTune ∈ am_gt ∧ Cond.selects y_Rows_firstGoodTune.cls y_Rows_firstGoodTune y_Rows_firstGoodTune ∈ am_gt := ⟨am_gi (tb_5 (List.mem_of_getElem? (i := 75) rfl)) rfl, am_sel (q := (y_Rows_firstGoodTune, 6)) (am_pv_3 (List.mem_of_getElem? (i := 3) rfl))⟩
abbrev b_U_explain : ByteArray := prog_1_method_38_code
abbrev y_U_explain : MethodName := ⟨"UnseenRing", "explain", "(I)I"⟩
theorem ce_U_explain : am_callee y_U_explain b_U_explain 2 (some .int) 1 := ⟨am_gi (tb_5 (List.mem_of_getElem? (i := 80) rfl)) rfl, ini_U, ⟨by decide, by decide, by decide +kernel⟩, by decide⟩
theorem in_U_explain : Cond.instanceMethod y_U_explain ∈ am_gt ∧ Cond.selects y_U_explain.cls y_U_explain y_U_explain ∈ am_gt := ⟨am_gi (tb_5 (List.mem_of_getElem? (i := 78) rfl)) rfl, am_gi (tb_5 (List.mem_of_getElem? (i := 79) rfl)) rfl⟩
abbrev b_Placings_look : ByteArray := prog_7_method_2_code
abbrev y_Placings_look : MethodName := ⟨"UnseenRing$Placings", "look", "(LUnseenRing$Square;)V"⟩
theorem ce_Placings_look : am_callee y_Placings_look b_Placings_look 3 (none) 1 := ⟨am_gi (tb_5 (List.mem_of_getElem? (i := 84) rfl)) rfl, ini_Placings, ⟨by decide, by decide, by decide +kernel⟩, by decide⟩
theorem in_Placings_look : Cond.instanceMethod y_Placings_look ∈ am_gt ∧ Cond.selects y_Placings_look.cls y_Placings_look y_Placings_look ∈ am_gt := ⟨am_gi (tb_5 (List.mem_of_getElem? (i := 82) rfl)) rfl, am_gi (tb_5 (List.mem_of_getElem? (i := 83) rfl)) rfl⟩
abbrev b_Placings_fewestCells : ByteArray := prog_7_method_3_code
abbrev y_Placings_fewestCells : MethodName := ⟨"UnseenRing$Placings", "fewestCells", "(I)I"⟩
theorem ce_Placings_fewestCells : am_callee y_Placings_fewestCells b_Placings_fewestCells 5 (some .int) 1 := ⟨am_gi (tb_5 (List.mem_of_getElem? (i := 91) rfl)) rfl, ini_Placings, ⟨by decide, by decide, by decide +kernel⟩, by decide⟩
theorem in_Placings_fewestCells : Cond.instanceMethod y_Placings_fewestCells ∈ am_gt ∧ Cond.selects y_Placings_fewestCells.cls y_Placings_fewestCells y_Placings_fewestCells ∈ am_gt := ⟨am_gi (tb_5 (List.mem_of_getElem? (i := 89) rfl)) rfl, am_gi (tb_5 (List.mem_of_getElem? (i := 90) rfl)) rfl⟩
abbrev b_U_placings : ByteArray := prog_1_method_39_code
abbrev y_U_placings : MethodName := ⟨"UnseenRing", "placings", "(II)I"⟩
theorem ce_U_placings : am_callee y_U_placings b_U_placings 3 (some .int) 2 := ⟨am_gi (tb_5 (List.mem_of_getElem? (i := 96) rfl)) rfl, ini_U, ⟨by decide, by decide, by decide +kernel⟩, by decide⟩
theorem in_U_placings : Cond.instanceMethod y_U_placings ∈ am_gt ∧ Cond.selects y_U_placings.cls y_U_placings y_U_placings ∈ am_gt := ⟨am_gi (tb_5 (List.mem_of_getElem? (i := 94) rfl)) rfl, am_gi (tb_5 (List.mem_of_getElem? (i := 95) rfl)) rfl⟩
abbrev b_U_isPlacing : ByteArray := prog_1_method_44_code
abbrev y_U_isPlacing : MethodName := ⟨"UnseenRing", "isPlacing", "(II)Z"⟩
theorem ce_U_isPlacing : am_callee y_U_isPlacing b_U_isPlacing 3 (some .boolean) 2 := ⟨am_gi (tb_5 (List.mem_of_getElem? (i := 100) rfl)) rfl, ini_U, ⟨by decide, by decide, by decide +kernel⟩, by decide⟩
theorem in_U_isPlacing : Cond.instanceMethod y_U_isPlacing ∈ am_gt ∧ Cond.selects y_U_isPlacing.cls y_U_isPlacing y_U_isPlacing ∈ am_gt := ⟨am_gi (tb_5 (List.mem_of_getElem? (i := 99) rfl)) rfl, am_sel (q := (y_U_isPlacing, 18)) (am_pv_3 (List.mem_of_getElem? (i := 4) rfl))⟩
abbrev b_Placings_countWithout : ByteArray := prog_7_method_4_code
abbrev y_Placings_countWithout : MethodName := ⟨"UnseenRing$Placings", "countWithout", "(III)I"⟩
theorem ce_Placings_countWithout : am_callee y_Placings_countWithout b_Placings_countWithout 7 (some .int) 3 := ⟨am_gi (tb_5 (List.mem_of_getElem? (i := 104) rfl)) rfl, ini_Placings, ⟨by decide, by decide, by decide +kernel⟩, by decide⟩
theorem in_Placings_countWithout : Cond.instanceMethod y_Placings_countWithout ∈ am_gt ∧ Cond.selects y_Placings_countWithout.cls y_Placings_countWithout y_Placings_countWithout ∈ am_gt := ⟨am_gi (tb_5 (List.mem_of_getElem? (i := 102) rfl)) rfl, am_gi (tb_5 (List.mem_of_getElem? (i := 103) rfl)) rfl⟩
abbrev b_Placings_cellsWithin : ByteArray := prog_7_method_5_code
abbrev y_Placings_cellsWithin : MethodName := ⟨"UnseenRing$Placings", "cellsWithin", "(II)I"⟩
theorem ce_Placings_cellsWithin : am_callee y_Placings_cellsWithin b_Placings_cellsWithin 5 (some .int) 2 := ⟨am_gi (tb_5 (List.mem_of_getElem? (i := 108) rfl)) rfl, ini_Placings, ⟨by decide, by decide, by decide +kernel⟩, by decide⟩
theorem in_Placings_cellsWithin : Cond.instanceMethod y_Placings_cellsWithin ∈ am_gt ∧ Cond.selects y_Placings_cellsWithin.cls y_Placings_cellsWithin y_Placings_cellsWithin ∈ am_gt := ⟨am_gi (tb_5 (List.mem_of_getElem? (i := 107) rfl)) rfl, am_sel (q := (y_Placings_cellsWithin, 3)) (am_pv_3 (List.mem_of_getElem? (i := 5) rfl))⟩
abbrev b_U_choose : ByteArray := prog_1_method_70_code
abbrev y_U_choose : MethodName := ⟨"UnseenRing", "choose", "(II)I"⟩
theorem ce_U_choose : am_callee y_U_choose b_U_choose 4 (some .int) 2 := ⟨am_gi (tb_5 (List.mem_of_getElem? (i := 111) rfl)) rfl, ini_U, ⟨by decide, by decide, by decide +kernel⟩, by decide⟩
theorem st_U_choose : Cond.static y_U_choose ∈ am_gt := am_gi (tb_5 (List.mem_of_getElem? (i := 110) rfl)) rfl
abbrev b_U_oddsThat : ByteArray := prog_1_method_40_code
abbrev y_U_oddsThat : MethodName := ⟨"UnseenRing", "oddsThat", "(III)Z"⟩
theorem ce_U_oddsThat : am_callee y_U_oddsThat b_U_oddsThat 5 (some .boolean) 3 := ⟨am_gi (tb_5 (List.mem_of_getElem? (i := 116) rfl)) rfl, ini_U, ⟨by decide, by decide, by decide +kernel⟩, by decide⟩
theorem in_U_oddsThat : Cond.instanceMethod y_U_oddsThat ∈ am_gt ∧ Cond.selects y_U_oddsThat.cls y_U_oddsThat y_U_oddsThat ∈ am_gt := ⟨am_gi (tb_5 (List.mem_of_getElem? (i := 114) rfl)) rfl, am_gi (tb_5 (List.mem_of_getElem? (i := 115) rfl)) rfl⟩
abbrev b_U_tellFraction : ByteArray := prog_1_method_68_code
abbrev y_U_tellFraction : MethodName := ⟨"UnseenRing", "tellFraction", "(JJ)V"⟩
theorem ce_U_tellFraction : am_callee y_U_tellFraction b_U_tellFraction 7 (none) 2 := ⟨am_gi (tb_5 (List.mem_of_getElem? (i := 120) rfl)) rfl, ini_U, ⟨by decide, by decide, by decide +kernel⟩, by decide⟩
theorem in_U_tellFraction : Cond.instanceMethod y_U_tellFraction ∈ am_gt ∧ Cond.selects y_U_tellFraction.cls y_U_tellFraction y_U_tellFraction ∈ am_gt := ⟨am_gi (tb_5 (List.mem_of_getElem? (i := 119) rfl)) rfl, am_sel (q := (y_U_tellFraction, 18)) (am_pv_3 (List.mem_of_getElem? (i := 6) rfl))⟩
abbrev b_U_commonDivisor : ByteArray := prog_1_method_69_code
abbrev y_U_commonDivisor : MethodName := ⟨"UnseenRing", "commonDivisor", "(JJ)J"⟩
theorem ce_U_commonDivisor : am_callee y_U_commonDivisor b_U_commonDivisor 7 (some .long) 2 := ⟨am_gi (tb_5 (List.mem_of_getElem? (i := 123) rfl)) rfl, ini_U, ⟨by decide, by decide, by decide +kernel⟩, by decide⟩
theorem st_U_commonDivisor : Cond.static y_U_commonDivisor ∈ am_gt := am_gi (tb_5 (List.mem_of_getElem? (i := 122) rfl)) rfl
abbrev b_U_aim : ByteArray := prog_1_method_41_code
abbrev y_U_aim : MethodName := ⟨"UnseenRing", "aim", "(II)I"⟩
theorem ce_U_aim : am_callee y_U_aim b_U_aim 3 (some .int) 2 := ⟨am_gi (tb_5 (List.mem_of_getElem? (i := 127) rfl)) rfl, ini_U, ⟨by decide, by decide, by decide +kernel⟩, by decide⟩
theorem in_U_aim : Cond.instanceMethod y_U_aim ∈ am_gt ∧ Cond.selects y_U_aim.cls y_U_aim y_U_aim ∈ am_gt := ⟨am_gi (tb_5 (List.mem_of_getElem? (i := 125) rfl)) rfl, am_gi (tb_5 (List.mem_of_getElem? (i := 126) rfl)) rfl⟩
abbrev b_Placings_cellThatHitsMost : ByteArray := prog_7_method_6_code
abbrev y_Placings_cellThatHitsMost : MethodName := ⟨"UnseenRing$Placings", "cellThatHitsMost", "(LUnseenRing$Square;II)I"⟩
theorem ce_Placings_cellThatHitsMost : am_callee y_Placings_cellThatHitsMost b_Placings_cellThatHitsMost 9 (some .int) 3 := ⟨am_gi (tb_5 (List.mem_of_getElem? (i := 131) rfl)) rfl, ini_Placings, ⟨by decide, by decide, by decide +kernel⟩, by decide⟩
theorem in_Placings_cellThatHitsMost : Cond.instanceMethod y_Placings_cellThatHitsMost ∈ am_gt ∧ Cond.selects y_Placings_cellThatHitsMost.cls y_Placings_cellThatHitsMost y_Placings_cellThatHitsMost ∈ am_gt := ⟨am_gi (tb_5 (List.mem_of_getElem? (i := 129) rfl)) rfl, am_gi (tb_5 (List.mem_of_getElem? (i := 130) rfl)) rfl⟩
abbrev b_Placings_hitCells : ByteArray := prog_7_method_7_code
abbrev y_Placings_hitCells : MethodName := ⟨"UnseenRing$Placings", "hitCells", "(LUnseenRing$Square;I)I"⟩
theorem ce_Placings_hitCells : am_callee y_Placings_hitCells b_Placings_hitCells 5 (some .int) 2 := ⟨am_gi (tb_5 (List.mem_of_getElem? (i := 136) rfl)) rfl, ini_Placings, ⟨by decide, by decide, by decide +kernel⟩, by decide⟩
theorem in_Placings_hitCells : Cond.instanceMethod y_Placings_hitCells ∈ am_gt ∧ Cond.selects y_Placings_hitCells.cls y_Placings_hitCells y_Placings_hitCells ∈ am_gt := ⟨am_gi (tb_5 (List.mem_of_getElem? (i := 135) rfl)) rfl, am_sel (q := (y_Placings_hitCells, 3)) (am_pv_3 (List.mem_of_getElem? (i := 7) rfl))⟩
abbrev b_U_cover : ByteArray := prog_1_method_42_code
abbrev y_U_cover : MethodName := ⟨"UnseenRing", "cover", "(II)I"⟩
theorem ce_U_cover : am_callee y_U_cover b_U_cover 4 (some .int) 2 := ⟨am_gi (tb_5 (List.mem_of_getElem? (i := 141) rfl)) rfl, ini_U, ⟨by decide, by decide, by decide +kernel⟩, by decide⟩
theorem in_U_cover : Cond.instanceMethod y_U_cover ∈ am_gt ∧ Cond.selects y_U_cover.cls y_U_cover y_U_cover ∈ am_gt := ⟨am_gi (tb_5 (List.mem_of_getElem? (i := 139) rfl)) rfl, am_gi (tb_5 (List.mem_of_getElem? (i := 140) rfl)) rfl⟩
abbrev b_U_coverStatus : ByteArray := prog_1_method_45_code
abbrev y_U_coverStatus : MethodName := ⟨"UnseenRing", "coverStatus", "(II)I"⟩
theorem ce_U_coverStatus : am_callee y_U_coverStatus b_U_coverStatus 4 (some .int) 2 := ⟨am_gi (tb_5 (List.mem_of_getElem? (i := 145) rfl)) rfl, ini_U, ⟨by decide, by decide, by decide +kernel⟩, by decide⟩
theorem in_U_coverStatus : Cond.instanceMethod y_U_coverStatus ∈ am_gt ∧ Cond.selects y_U_coverStatus.cls y_U_coverStatus y_U_coverStatus ∈ am_gt := ⟨am_gi (tb_5 (List.mem_of_getElem? (i := 144) rfl)) rfl, am_sel (q := (y_U_coverStatus, 18)) (am_pv_3 (List.mem_of_getElem? (i := 8) rfl))⟩
abbrev b_Covering_solve : ByteArray := prog_2_method_2_code
abbrev y_Covering_solve : MethodName := ⟨"UnseenRing$Covering", "solve", "(LUnseenRing$Square;LUnseenRing$Tray;I)Z"⟩
theorem ce_Covering_solve : am_callee y_Covering_solve b_Covering_solve 8 (some .boolean) 3 := ⟨am_gi (tb_5 (List.mem_of_getElem? (i := 149) rfl)) rfl, ini_Covering, ⟨by decide, by decide, by decide +kernel⟩, by decide⟩
theorem in_Covering_solve : Cond.instanceMethod y_Covering_solve ∈ am_gt ∧ Cond.selects y_Covering_solve.cls y_Covering_solve y_Covering_solve ∈ am_gt := ⟨am_gi (tb_5 (List.mem_of_getElem? (i := 147) rfl)) rfl, am_gi (tb_5 (List.mem_of_getElem? (i := 148) rfl)) rfl⟩
abbrev b_Covering_fewestFor : ByteArray := prog_2_method_3_code
abbrev y_Covering_fewestFor : MethodName := ⟨"UnseenRing$Covering", "fewestFor", "(I)I"⟩
theorem ce_Covering_fewestFor : am_callee y_Covering_fewestFor b_Covering_fewestFor 5 (some .int) 1 := ⟨am_gi (tb_5 (List.mem_of_getElem? (i := 158) rfl)) rfl, ini_Covering, ⟨by decide, by decide, by decide +kernel⟩, by decide⟩
theorem in_Covering_fewestFor : Cond.instanceMethod y_Covering_fewestFor ∈ am_gt ∧ Cond.selects y_Covering_fewestFor.cls y_Covering_fewestFor y_Covering_fewestFor ∈ am_gt := ⟨am_gi (tb_5 (List.mem_of_getElem? (i := 157) rfl)) rfl, am_sel (q := (y_Covering_fewestFor, 4)) (am_pv_3 (List.mem_of_getElem? (i := 9) rfl))⟩
abbrev b_Covering_fewestThrows : ByteArray := prog_2_method_4_code
abbrev y_Covering_fewestThrows : MethodName := ⟨"UnseenRing$Covering", "fewestThrows", "()I"⟩
theorem ce_Covering_fewestThrows : am_callee y_Covering_fewestThrows b_Covering_fewestThrows 1 (some .int) 0 := ⟨am_gi (tb_5 (List.mem_of_getElem? (i := 162) rfl)) rfl, ini_Covering, ⟨by decide, by decide, by decide +kernel⟩, by decide⟩
theorem in_Covering_fewestThrows : Cond.instanceMethod y_Covering_fewestThrows ∈ am_gt ∧ Cond.selects y_Covering_fewestThrows.cls y_Covering_fewestThrows y_Covering_fewestThrows ∈ am_gt := ⟨am_gi (tb_5 (List.mem_of_getElem? (i := 160) rfl)) rfl, am_gi (tb_5 (List.mem_of_getElem? (i := 161) rfl)) rfl⟩
abbrev b_U_coverAt : ByteArray := prog_1_method_43_code
abbrev y_U_coverAt : MethodName := ⟨"UnseenRing", "coverAt", "(III)I"⟩
theorem ce_U_coverAt : am_callee y_U_coverAt b_U_coverAt 5 (some .int) 3 := ⟨am_gi (tb_5 (List.mem_of_getElem? (i := 166) rfl)) rfl, ini_U, ⟨by decide, by decide, by decide +kernel⟩, by decide⟩
theorem in_U_coverAt : Cond.instanceMethod y_U_coverAt ∈ am_gt ∧ Cond.selects y_U_coverAt.cls y_U_coverAt y_U_coverAt ∈ am_gt := ⟨am_gi (tb_5 (List.mem_of_getElem? (i := 164) rfl)) rfl, am_gi (tb_5 (List.mem_of_getElem? (i := 165) rfl)) rfl⟩
abbrev b_Covering_cellOfRow : ByteArray := prog_2_method_5_code
abbrev y_Covering_cellOfRow : MethodName := ⟨"UnseenRing$Covering", "cellOfRow", "(I)I"⟩
theorem ce_Covering_cellOfRow : am_callee y_Covering_cellOfRow b_Covering_cellOfRow 5 (some .int) 1 := ⟨am_gi (tb_5 (List.mem_of_getElem? (i := 170) rfl)) rfl, ini_Covering, ⟨by decide, by decide, by decide +kernel⟩, by decide⟩
theorem in_Covering_cellOfRow : Cond.instanceMethod y_Covering_cellOfRow ∈ am_gt ∧ Cond.selects y_Covering_cellOfRow.cls y_Covering_cellOfRow y_Covering_cellOfRow ∈ am_gt := ⟨am_gi (tb_5 (List.mem_of_getElem? (i := 168) rfl)) rfl, am_gi (tb_5 (List.mem_of_getElem? (i := 169) rfl)) rfl⟩
abbrev b_Covering_firstGoodCell : ByteArray := prog_2_method_6_code
abbrev y_Covering_firstGoodCell : MethodName := ⟨"UnseenRing$Covering", "firstGoodCell", "(I)I"⟩
theorem ce_Covering_firstGoodCell : am_callee y_Covering_firstGoodCell b_Covering_firstGoodCell 3 (some .int) 1 := ⟨am_gi (tb_5 (List.mem_of_getElem? (i := 174) rfl)) rfl, ini_Covering, ⟨by decide, by decide, by decide +kernel⟩, by decide⟩
theorem in_Covering_firstGoodCell : Cond.instanceMethod y_Covering_firstGoodCell ∈ am_gt ∧ Cond.selects y_Covering_firstGoodCell.cls y_Covering_firstGoodCell y_Covering_firstGoodCell ∈ am_gt := ⟨am_gi (tb_5 (List.mem_of_getElem? (i := 173) rfl)) rfl, am_sel (q := (y_Covering_firstGoodCell, 4)) (am_pv_3 (List.mem_of_getElem? (i := 10) rfl))⟩
abbrev b_U_fits : ByteArray := prog_1_method_46_code
abbrev y_U_fits : MethodName := ⟨"UnseenRing", "fits", "(III)I"⟩
theorem ce_U_fits : am_callee y_U_fits b_U_fits 7 (some .int) 3 := ⟨am_gi (tb_5 (List.mem_of_getElem? (i := 178) rfl)) rfl, ini_U, ⟨by decide, by decide, by decide +kernel⟩, by decide⟩
theorem in_U_fits : Cond.instanceMethod y_U_fits ∈ am_gt ∧ Cond.selects y_U_fits.cls y_U_fits y_U_fits ∈ am_gt := ⟨am_gi (tb_5 (List.mem_of_getElem? (i := 176) rfl)) rfl, am_gi (tb_5 (List.mem_of_getElem? (i := 177) rfl)) rfl⟩
abbrev b_U_fitStatus : ByteArray := prog_1_method_48_code
abbrev y_U_fitStatus : MethodName := ⟨"UnseenRing", "fitStatus", "(III)I"⟩
theorem ce_U_fitStatus : am_callee y_U_fitStatus b_U_fitStatus 10 (some .int) 3 := ⟨am_gi (tb_5 (List.mem_of_getElem? (i := 182) rfl)) rfl, ini_U, ⟨by decide, by decide, by decide +kernel⟩, by decide⟩
theorem in_U_fitStatus : Cond.instanceMethod y_U_fitStatus ∈ am_gt ∧ Cond.selects y_U_fitStatus.cls y_U_fitStatus y_U_fitStatus ∈ am_gt := ⟨am_gi (tb_5 (List.mem_of_getElem? (i := 181) rfl)) rfl, am_sel (q := (y_U_fitStatus, 18)) (am_pv_3 (List.mem_of_getElem? (i := 11) rfl))⟩
abbrev b_U_doesFit : ByteArray := prog_1_method_49_code
abbrev y_U_doesFit : MethodName := ⟨"UnseenRing", "doesFit", "(IILUnseenRing$Tray;I)Z"⟩
theorem ce_U_doesFit : am_callee y_U_doesFit b_U_doesFit 8 (some .boolean) 4 := ⟨am_gi (tb_5 (List.mem_of_getElem? (i := 187) rfl)) rfl, ini_U, ⟨by decide, by decide, by decide +kernel⟩, by decide⟩
theorem in_U_doesFit : Cond.instanceMethod y_U_doesFit ∈ am_gt ∧ Cond.selects y_U_doesFit.cls y_U_doesFit y_U_doesFit ∈ am_gt := ⟨am_gi (tb_5 (List.mem_of_getElem? (i := 186) rfl)) rfl, am_sel (q := (y_U_doesFit, 18)) (am_pv_3 (List.mem_of_getElem? (i := 12) rfl))⟩
abbrev b_U_sure : ByteArray := prog_1_method_47_code
abbrev y_U_sure : MethodName := ⟨"UnseenRing", "sure", "(III)I"⟩
theorem ce_U_sure : am_callee y_U_sure b_U_sure 7 (some .int) 3 := ⟨am_gi (tb_5 (List.mem_of_getElem? (i := 191) rfl)) rfl, ini_U, ⟨by decide, by decide, by decide +kernel⟩, by decide⟩
theorem in_U_sure : Cond.instanceMethod y_U_sure ∈ am_gt ∧ Cond.selects y_U_sure.cls y_U_sure y_U_sure ∈ am_gt := ⟨am_gi (tb_5 (List.mem_of_getElem? (i := 189) rfl)) rfl, am_gi (tb_5 (List.mem_of_getElem? (i := 190) rfl)) rfl⟩
abbrev b_U_rounds : ByteArray := prog_1_method_50_code
abbrev y_U_rounds : MethodName := ⟨"UnseenRing", "rounds", "(II)I"⟩
theorem ce_U_rounds : am_callee y_U_rounds b_U_rounds 3 (some .int) 2 := ⟨am_gi (tb_5 (List.mem_of_getElem? (i := 195) rfl)) rfl, ini_U, ⟨by decide, by decide, by decide +kernel⟩, by decide⟩
theorem in_U_rounds : Cond.instanceMethod y_U_rounds ∈ am_gt ∧ Cond.selects y_U_rounds.cls y_U_rounds y_U_rounds ∈ am_gt := ⟨am_gi (tb_5 (List.mem_of_getElem? (i := 193) rfl)) rfl, am_gi (tb_5 (List.mem_of_getElem? (i := 194) rfl)) rfl⟩
abbrev b_U_isKnowing : ByteArray := prog_1_method_52_code
abbrev y_U_isKnowing : MethodName := ⟨"UnseenRing", "isKnowing", "(II)Z"⟩
theorem ce_U_isKnowing : am_callee y_U_isKnowing b_U_isKnowing 3 (some .boolean) 2 := ⟨am_gi (tb_5 (List.mem_of_getElem? (i := 199) rfl)) rfl, ini_U, ⟨by decide, by decide, by decide +kernel⟩, by decide⟩
theorem in_U_isKnowing : Cond.instanceMethod y_U_isKnowing ∈ am_gt ∧ Cond.selects y_U_isKnowing.cls y_U_isKnowing y_U_isKnowing ∈ am_gt := ⟨am_gi (tb_5 (List.mem_of_getElem? (i := 198) rfl)) rfl, am_sel (q := (y_U_isKnowing, 18)) (am_pv_3 (List.mem_of_getElem? (i := 13) rfl))⟩
abbrev b_Knowing_firstRound : ByteArray := prog_5_method_2_code
abbrev y_Knowing_firstRound : MethodName := ⟨"UnseenRing$Knowing", "firstRound", "(LUnseenRing$Square;II)I"⟩
theorem ce_Knowing_firstRound : am_callee y_Knowing_firstRound b_Knowing_firstRound 5 (some .int) 3 := ⟨am_gi (tb_5 (List.mem_of_getElem? (i := 203) rfl)) rfl, ini_Knowing, ⟨by decide, by decide, by decide +kernel⟩, by decide⟩
theorem in_Knowing_firstRound : Cond.instanceMethod y_Knowing_firstRound ∈ am_gt ∧ Cond.selects y_Knowing_firstRound.cls y_Knowing_firstRound y_Knowing_firstRound ∈ am_gt := ⟨am_gi (tb_5 (List.mem_of_getElem? (i := 201) rfl)) rfl, am_gi (tb_5 (List.mem_of_getElem? (i := 202) rfl)) rfl⟩
abbrev b_Knowing_look : ByteArray := prog_5_method_4_code
abbrev y_Knowing_look : MethodName := ⟨"UnseenRing$Knowing", "look", "(LUnseenRing$Square;I)V"⟩
theorem ce_Knowing_look : am_callee y_Knowing_look b_Knowing_look 4 (none) 2 := ⟨am_gi (tb_5 (List.mem_of_getElem? (i := 207) rfl)) rfl, ini_Knowing, ⟨by decide, by decide, by decide +kernel⟩, by decide⟩
theorem in_Knowing_look : Cond.instanceMethod y_Knowing_look ∈ am_gt ∧ Cond.selects y_Knowing_look.cls y_Knowing_look y_Knowing_look ∈ am_gt := ⟨am_gi (tb_5 (List.mem_of_getElem? (i := 206) rfl)) rfl, am_sel (q := (y_Knowing_look, 3)) (am_pv_3 (List.mem_of_getElem? (i := 14) rfl))⟩
abbrev b_Knowing_knowersIn : ByteArray := prog_5_method_6_code
abbrev y_Knowing_knowersIn : MethodName := ⟨"UnseenRing$Knowing", "knowersIn", "(I)I"⟩
theorem ce_Knowing_knowersIn : am_callee y_Knowing_knowersIn b_Knowing_knowersIn 4 (some .int) 1 := ⟨am_gi (tb_5 (List.mem_of_getElem? (i := 212) rfl)) rfl, ini_Knowing, ⟨by decide, by decide, by decide +kernel⟩, by decide⟩
theorem in_Knowing_knowersIn : Cond.instanceMethod y_Knowing_knowersIn ∈ am_gt ∧ Cond.selects y_Knowing_knowersIn.cls y_Knowing_knowersIn y_Knowing_knowersIn ∈ am_gt := ⟨am_gi (tb_5 (List.mem_of_getElem? (i := 211) rfl)) rfl, am_sel (q := (y_Knowing_knowersIn, 3)) (am_pv_3 (List.mem_of_getElem? (i := 15) rfl))⟩
abbrev b_Knowing_knows : ByteArray := prog_5_method_7_code
abbrev y_Knowing_knows : MethodName := ⟨"UnseenRing$Knowing", "knows", "(II)Z"⟩
theorem ce_Knowing_knows : am_callee y_Knowing_knows b_Knowing_knows 6 (some .boolean) 2 := ⟨am_gi (tb_5 (List.mem_of_getElem? (i := 216) rfl)) rfl, ini_Knowing, ⟨by decide, by decide, by decide +kernel⟩, by decide⟩
theorem in_Knowing_knows : Cond.instanceMethod y_Knowing_knows ∈ am_gt ∧ Cond.selects y_Knowing_knows.cls y_Knowing_knows y_Knowing_knows ∈ am_gt := ⟨am_gi (tb_5 (List.mem_of_getElem? (i := 215) rfl)) rfl, am_sel (q := (y_Knowing_knows, 3)) (am_pv_4 (List.mem_of_getElem? (i := 0) rfl))⟩
abbrev b_Knowing_isPossible : ByteArray := prog_5_method_8_code
abbrev y_Knowing_isPossible : MethodName := ⟨"UnseenRing$Knowing", "isPossible", "(I)Z"⟩
theorem ce_Knowing_isPossible : am_callee y_Knowing_isPossible b_Knowing_isPossible 2 (some .boolean) 1 := ⟨am_gi (tb_5 (List.mem_of_getElem? (i := 220) rfl)) rfl, ini_Knowing, ⟨by decide, by decide, by decide +kernel⟩, by decide⟩
theorem in_Knowing_isPossible : Cond.instanceMethod y_Knowing_isPossible ∈ am_gt ∧ Cond.selects y_Knowing_isPossible.cls y_Knowing_isPossible y_Knowing_isPossible ∈ am_gt := ⟨am_gi (tb_5 (List.mem_of_getElem? (i := 219) rfl)) rfl, am_sel (q := (y_Knowing_isPossible, 3)) (am_pv_4 (List.mem_of_getElem? (i := 1) rfl))⟩
abbrev b_Knowing_hearAll : ByteArray := prog_5_method_5_code
abbrev y_Knowing_hearAll : MethodName := ⟨"UnseenRing$Knowing", "hearAll", "(I)Z"⟩
theorem ce_Knowing_hearAll : am_callee y_Knowing_hearAll b_Knowing_hearAll 6 (some .boolean) 1 := ⟨am_gi (tb_5 (List.mem_of_getElem? (i := 224) rfl)) rfl, ini_Knowing, ⟨by decide, by decide, by decide +kernel⟩, by decide⟩
theorem in_Knowing_hearAll : Cond.instanceMethod y_Knowing_hearAll ∈ am_gt ∧ Cond.selects y_Knowing_hearAll.cls y_Knowing_hearAll y_Knowing_hearAll ∈ am_gt := ⟨am_gi (tb_5 (List.mem_of_getElem? (i := 223) rfl)) rfl, am_sel (q := (y_Knowing_hearAll, 3)) (am_pv_4 (List.mem_of_getElem? (i := 2) rfl))⟩
abbrev b_U_knowers : ByteArray := prog_1_method_51_code
abbrev y_U_knowers : MethodName := ⟨"UnseenRing", "knowers", "(III)I"⟩
theorem ce_U_knowers : am_callee y_U_knowers b_U_knowers 4 (some .int) 3 := ⟨am_gi (tb_5 (List.mem_of_getElem? (i := 228) rfl)) rfl, ini_U, ⟨by decide, by decide, by decide +kernel⟩, by decide⟩
theorem in_U_knowers : Cond.instanceMethod y_U_knowers ∈ am_gt ∧ Cond.selects y_U_knowers.cls y_U_knowers y_U_knowers ∈ am_gt := ⟨am_gi (tb_5 (List.mem_of_getElem? (i := 226) rfl)) rfl, am_gi (tb_5 (List.mem_of_getElem? (i := 227) rfl)) rfl⟩
abbrev b_Knowing_knowersOf : ByteArray := prog_5_method_3_code
abbrev y_Knowing_knowersOf : MethodName := ⟨"UnseenRing$Knowing", "knowersOf", "(LUnseenRing$Square;III)I"⟩
theorem ce_Knowing_knowersOf : am_callee y_Knowing_knowersOf b_Knowing_knowersOf 7 (some .int) 4 := ⟨am_gi (tb_5 (List.mem_of_getElem? (i := 232) rfl)) rfl, ini_Knowing, ⟨by decide, by decide, by decide +kernel⟩, by decide⟩
theorem in_Knowing_knowersOf : Cond.instanceMethod y_Knowing_knowersOf ∈ am_gt ∧ Cond.selects y_Knowing_knowersOf.cls y_Knowing_knowersOf y_Knowing_knowersOf ∈ am_gt := ⟨am_gi (tb_5 (List.mem_of_getElem? (i := 230) rfl)) rfl, am_gi (tb_5 (List.mem_of_getElem? (i := 231) rfl)) rfl⟩
abbrev b_U_game : ByteArray := prog_1_method_53_code
abbrev y_U_game : MethodName := ⟨"UnseenRing", "game", "(I)I"⟩
theorem ce_U_game : am_callee y_U_game b_U_game 2 (some .int) 1 := ⟨am_gi (tb_5 (List.mem_of_getElem? (i := 236) rfl)) rfl, ini_U, ⟨by decide, by decide, by decide +kernel⟩, by decide⟩
theorem in_U_game : Cond.instanceMethod y_U_game ∈ am_gt ∧ Cond.selects y_U_game.cls y_U_game y_U_game ∈ am_gt := ⟨am_gi (tb_5 (List.mem_of_getElem? (i := 234) rfl)) rfl, am_gi (tb_5 (List.mem_of_getElem? (i := 235) rfl)) rfl⟩
abbrev b_Rows_coinsOfGame : ByteArray := prog_8_method_8_code
abbrev y_Rows_coinsOfGame : MethodName := ⟨"UnseenRing$Rows", "coinsOfGame", "(LUnseenRing$Square;I)I"⟩
theorem ce_Rows_coinsOfGame : am_callee y_Rows_coinsOfGame b_Rows_coinsOfGame 3 (some .int) 2 := ⟨am_gi (tb_6 (List.mem_of_getElem? (i := 0) rfl)) rfl, ini_Rows, ⟨by decide, by decide, by decide +kernel⟩, by decide⟩
theorem in_Rows_coinsOfGame : Cond.instanceMethod y_Rows_coinsOfGame ∈ am_gt ∧ Cond.selects y_Rows_coinsOfGame.cls y_Rows_coinsOfGame y_Rows_coinsOfGame ∈ am_gt := ⟨am_gi (tb_5 (List.mem_of_getElem? (i := 238) rfl)) rfl, am_gi (tb_5 (List.mem_of_getElem? (i := 239) rfl)) rfl⟩
abbrev b_Rows_setUp : ByteArray := prog_8_method_10_code
abbrev y_Rows_setUp : MethodName := ⟨"UnseenRing$Rows", "setUp", "(LUnseenRing$Square;)V"⟩
theorem ce_Rows_setUp : am_callee y_Rows_setUp b_Rows_setUp 3 (none) 1 := ⟨am_gi (tb_6 (List.mem_of_getElem? (i := 4) rfl)) rfl, ini_Rows, ⟨by decide, by decide, by decide +kernel⟩, by decide⟩
theorem in_Rows_setUp : Cond.instanceMethod y_Rows_setUp ∈ am_gt ∧ Cond.selects y_Rows_setUp.cls y_Rows_setUp y_Rows_setUp ∈ am_gt := ⟨am_gi (tb_6 (List.mem_of_getElem? (i := 3) rfl)) rfl, am_sel (q := (y_Rows_setUp, 6)) (am_pv_4 (List.mem_of_getElem? (i := 3) rfl))⟩
abbrev b_Rows_value : ByteArray := prog_8_method_11_code
abbrev y_Rows_value : MethodName := ⟨"UnseenRing$Rows", "value", "(III)I"⟩
theorem ce_Rows_value : am_callee y_Rows_value b_Rows_value 8 (some .int) 3 := ⟨am_gi (tb_6 (List.mem_of_getElem? (i := 8) rfl)) rfl, ini_Rows, ⟨by decide, by decide, by decide +kernel⟩, by decide⟩
theorem in_Rows_value : Cond.instanceMethod y_Rows_value ∈ am_gt ∧ Cond.selects y_Rows_value.cls y_Rows_value y_Rows_value ∈ am_gt := ⟨am_gi (tb_6 (List.mem_of_getElem? (i := 7) rfl)) rfl, am_sel (q := (y_Rows_value, 6)) (am_pv_4 (List.mem_of_getElem? (i := 4) rfl))⟩
abbrev b_Rows_coinsCome : ByteArray := prog_8_method_13_code
abbrev y_Rows_coinsCome : MethodName := ⟨"UnseenRing$Rows", "coinsCome", "()I"⟩
theorem ce_Rows_coinsCome : am_callee y_Rows_coinsCome b_Rows_coinsCome 5 (some .int) 0 := ⟨am_gi (tb_6 (List.mem_of_getElem? (i := 12) rfl)) rfl, ini_Rows, ⟨by decide, by decide, by decide +kernel⟩, by decide⟩
theorem in_Rows_coinsCome : Cond.instanceMethod y_Rows_coinsCome ∈ am_gt ∧ Cond.selects y_Rows_coinsCome.cls y_Rows_coinsCome y_Rows_coinsCome ∈ am_gt := ⟨am_gi (tb_6 (List.mem_of_getElem? (i := 11) rfl)) rfl, am_sel (q := (y_Rows_coinsCome, 6)) (am_pv_4 (List.mem_of_getElem? (i := 5) rfl))⟩
abbrev b_Rows_valueBehind : ByteArray := prog_8_method_12_code
abbrev y_Rows_valueBehind : MethodName := ⟨"UnseenRing$Rows", "valueBehind", "(IIII)I"⟩
theorem ce_Rows_valueBehind : am_callee y_Rows_valueBehind b_Rows_valueBehind 6 (some .int) 4 := ⟨am_gi (tb_6 (List.mem_of_getElem? (i := 18) rfl)) rfl, ini_Rows, ⟨by decide, by decide, by decide +kernel⟩, by decide⟩
theorem in_Rows_valueBehind : Cond.instanceMethod y_Rows_valueBehind ∈ am_gt ∧ Cond.selects y_Rows_valueBehind.cls y_Rows_valueBehind y_Rows_valueBehind ∈ am_gt := ⟨am_gi (tb_6 (List.mem_of_getElem? (i := 17) rfl)) rfl, am_sel (q := (y_Rows_valueBehind, 6)) (am_pv_4 (List.mem_of_getElem? (i := 6) rfl))⟩
abbrev b_U_moveOf : ByteArray := prog_1_method_54_code
abbrev y_U_moveOf : MethodName := ⟨"UnseenRing", "moveOf", "(I)I"⟩
theorem ce_U_moveOf : am_callee y_U_moveOf b_U_moveOf 2 (some .int) 1 := ⟨am_gi (tb_6 (List.mem_of_getElem? (i := 22) rfl)) rfl, ini_U, ⟨by decide, by decide, by decide +kernel⟩, by decide⟩
theorem in_U_moveOf : Cond.instanceMethod y_U_moveOf ∈ am_gt ∧ Cond.selects y_U_moveOf.cls y_U_moveOf y_U_moveOf ∈ am_gt := ⟨am_gi (tb_6 (List.mem_of_getElem? (i := 20) rfl)) rfl, am_gi (tb_6 (List.mem_of_getElem? (i := 21) rfl)) rfl⟩
abbrev b_Rows_firstTuneOfGame : ByteArray := prog_8_method_9_code
abbrev y_Rows_firstTuneOfGame : MethodName := ⟨"UnseenRing$Rows", "firstTuneOfGame", "(LUnseenRing$Square;I)I"⟩
theorem ce_Rows_firstTuneOfGame : am_callee y_Rows_firstTuneOfGame b_Rows_firstTuneOfGame 7 (some .int) 2 := ⟨am_gi (tb_6 (List.mem_of_getElem? (i := 26) rfl)) rfl, ini_Rows, ⟨by decide, by decide, by decide +kernel⟩, by decide⟩
theorem in_Rows_firstTuneOfGame : Cond.instanceMethod y_Rows_firstTuneOfGame ∈ am_gt ∧ Cond.selects y_Rows_firstTuneOfGame.cls y_Rows_firstTuneOfGame y_Rows_firstTuneOfGame ∈ am_gt := ⟨am_gi (tb_6 (List.mem_of_getElem? (i := 24) rfl)) rfl, am_gi (tb_6 (List.mem_of_getElem? (i := 25) rfl)) rfl⟩
abbrev b_U_crowd : ByteArray := prog_1_method_55_code
abbrev y_U_crowd : MethodName := ⟨"UnseenRing", "crowd", "(I)Z"⟩
theorem ce_U_crowd : am_callee y_U_crowd b_U_crowd 6 (some .boolean) 1 := ⟨am_gi (tb_6 (List.mem_of_getElem? (i := 30) rfl)) rfl, ini_U, ⟨by decide, by decide, by decide +kernel⟩, by decide⟩
theorem in_U_crowd : Cond.instanceMethod y_U_crowd ∈ am_gt ∧ Cond.selects y_U_crowd.cls y_U_crowd y_U_crowd ∈ am_gt := ⟨am_gi (tb_6 (List.mem_of_getElem? (i := 28) rfl)) rfl, am_gi (tb_6 (List.mem_of_getElem? (i := 29) rfl)) rfl⟩
abbrev b_U_power : ByteArray := prog_1_method_71_code
abbrev y_U_power : MethodName := ⟨"UnseenRing", "power", "(II)J"⟩
theorem ce_U_power : am_callee y_U_power b_U_power 5 (some .long) 2 := ⟨am_gi (tb_6 (List.mem_of_getElem? (i := 34) rfl)) rfl, ini_U, ⟨by decide, by decide, by decide +kernel⟩, by decide⟩
theorem st_U_power : Cond.static y_U_power ∈ am_gt := am_gi (tb_6 (List.mem_of_getElem? (i := 33) rfl)) rfl
abbrev b_U_share : ByteArray := prog_1_method_56_code
abbrev y_U_share : MethodName := ⟨"UnseenRing", "share", "(I)Z"⟩
theorem ce_U_share : am_callee y_U_share b_U_share 4 (some .boolean) 1 := ⟨am_gi (tb_6 (List.mem_of_getElem? (i := 38) rfl)) rfl, ini_U, ⟨by decide, by decide, by decide +kernel⟩, by decide⟩
theorem in_U_share : Cond.instanceMethod y_U_share ∈ am_gt ∧ Cond.selects y_U_share.cls y_U_share y_U_share ∈ am_gt := ⟨am_gi (tb_6 (List.mem_of_getElem? (i := 36) rfl)) rfl, am_gi (tb_6 (List.mem_of_getElem? (i := 37) rfl)) rfl⟩
abbrev b_U_copyCells : ByteArray := prog_1_method_57_code
abbrev y_U_copyCells : MethodName := ⟨"UnseenRing", "copyCells", "(I)I"⟩
theorem ce_U_copyCells : am_callee y_U_copyCells b_U_copyCells 4 (some .int) 1 := ⟨am_gi (tb_6 (List.mem_of_getElem? (i := 42) rfl)) rfl, ini_U, ⟨by decide, by decide, by decide +kernel⟩, by decide⟩
theorem in_U_copyCells : Cond.instanceMethod y_U_copyCells ∈ am_gt ∧ Cond.selects y_U_copyCells.cls y_U_copyCells y_U_copyCells ∈ am_gt := ⟨am_gi (tb_6 (List.mem_of_getElem? (i := 40) rfl)) rfl, am_gi (tb_6 (List.mem_of_getElem? (i := 41) rfl)) rfl⟩
abbrev b_U_live : ByteArray := prog_1_method_58_code
abbrev y_U_live : MethodName := ⟨"UnseenRing", "live", "(I)I"⟩
theorem ce_U_live : am_callee y_U_live b_U_live 2 (some .int) 1 := ⟨am_gi (tb_6 (List.mem_of_getElem? (i := 46) rfl)) rfl, ini_U, ⟨by decide, by decide, by decide +kernel⟩, by decide⟩
theorem in_U_live : Cond.instanceMethod y_U_live ∈ am_gt ∧ Cond.selects y_U_live.cls y_U_live y_U_live ∈ am_gt := ⟨am_gi (tb_6 (List.mem_of_getElem? (i := 44) rfl)) rfl, am_gi (tb_6 (List.mem_of_getElem? (i := 45) rfl)) rfl⟩
abbrev b_Life_run : ByteArray := prog_6_method_2_code
abbrev y_Life_run : MethodName := ⟨"UnseenRing$Life", "run", "(LUnseenRing$Square;I)V"⟩
theorem ce_Life_run : am_callee y_Life_run b_Life_run 6 (none) 2 := ⟨am_gi (tb_6 (List.mem_of_getElem? (i := 50) rfl)) rfl, ini_Life, ⟨by decide, by decide, by decide +kernel⟩, by decide⟩
theorem in_Life_run : Cond.instanceMethod y_Life_run ∈ am_gt ∧ Cond.selects y_Life_run.cls y_Life_run y_Life_run ∈ am_gt := ⟨am_gi (tb_6 (List.mem_of_getElem? (i := 48) rfl)) rfl, am_gi (tb_6 (List.mem_of_getElem? (i := 49) rfl)) rfl⟩
abbrev b_Life_behindEnd : ByteArray := prog_6_method_4_code
abbrev y_Life_behindEnd : MethodName := ⟨"UnseenRing$Life", "behindEnd", "(LUnseenRing$Days;I)I"⟩
theorem ce_Life_behindEnd : am_callee y_Life_behindEnd b_Life_behindEnd 4 (some .int) 2 := ⟨am_gi (tb_6 (List.mem_of_getElem? (i := 55) rfl)) rfl, ini_Life, ⟨by decide, by decide, by decide +kernel⟩, by decide⟩
theorem in_Life_behindEnd : Cond.instanceMethod y_Life_behindEnd ∈ am_gt ∧ Cond.selects y_Life_behindEnd.cls y_Life_behindEnd y_Life_behindEnd ∈ am_gt := ⟨am_gi (tb_6 (List.mem_of_getElem? (i := 54) rfl)) rfl, am_sel (q := (y_Life_behindEnd, 12)) (am_pv_4 (List.mem_of_getElem? (i := 7) rfl))⟩
abbrev b_Life_act : ByteArray := prog_6_method_8_code
abbrev y_Life_act : MethodName := ⟨"UnseenRing$Life", "act", "(LUnseenRing$Square;I)V"⟩
theorem ce_Life_act : am_callee y_Life_act b_Life_act 4 (none) 2 := ⟨am_gi (tb_6 (List.mem_of_getElem? (i := 59) rfl)) rfl, ini_Life, ⟨by decide, by decide, by decide +kernel⟩, by decide⟩
theorem in_Life_act : Cond.instanceMethod y_Life_act ∈ am_gt ∧ Cond.selects y_Life_act.cls y_Life_act y_Life_act ∈ am_gt := ⟨am_gi (tb_6 (List.mem_of_getElem? (i := 58) rfl)) rfl, am_sel (q := (y_Life_act, 12)) (am_pv_4 (List.mem_of_getElem? (i := 8) rfl))⟩
abbrev b_Life_playOne : ByteArray := prog_6_method_10_code
abbrev y_Life_playOne : MethodName := ⟨"UnseenRing$Life", "playOne", "(LUnseenRing$Square;I)V"⟩
theorem ce_Life_playOne : am_callee y_Life_playOne b_Life_playOne 4 (none) 2 := ⟨am_gi (tb_6 (List.mem_of_getElem? (i := 63) rfl)) rfl, ini_Life, ⟨by decide, by decide, by decide +kernel⟩, by decide⟩
theorem in_Life_playOne : Cond.instanceMethod y_Life_playOne ∈ am_gt ∧ Cond.selects y_Life_playOne.cls y_Life_playOne y_Life_playOne ∈ am_gt := ⟨am_gi (tb_6 (List.mem_of_getElem? (i := 62) rfl)) rfl, am_sel (q := (y_Life_playOne, 12)) (am_pv_4 (List.mem_of_getElem? (i := 9) rfl))⟩
abbrev b_Life_throwOne : ByteArray := prog_6_method_11_code
abbrev y_Life_throwOne : MethodName := ⟨"UnseenRing$Life", "throwOne", "(LUnseenRing$Square;I)V"⟩
theorem ce_Life_throwOne : am_callee y_Life_throwOne b_Life_throwOne 3 (none) 2 := ⟨am_gi (tb_6 (List.mem_of_getElem? (i := 68) rfl)) rfl, ini_Life, ⟨by decide, by decide, by decide +kernel⟩, by decide⟩
theorem in_Life_throwOne : Cond.instanceMethod y_Life_throwOne ∈ am_gt ∧ Cond.selects y_Life_throwOne.cls y_Life_throwOne y_Life_throwOne ∈ am_gt := ⟨am_gi (tb_6 (List.mem_of_getElem? (i := 67) rfl)) rfl, am_sel (q := (y_Life_throwOne, 12)) (am_pv_4 (List.mem_of_getElem? (i := 10) rfl))⟩
abbrev b_Life_countMissed : ByteArray := prog_6_method_12_code
abbrev y_Life_countMissed : MethodName := ⟨"UnseenRing$Life", "countMissed", "(I)V"⟩
theorem ce_Life_countMissed : am_callee y_Life_countMissed b_Life_countMissed 2 (none) 1 := ⟨am_gi (tb_6 (List.mem_of_getElem? (i := 74) rfl)) rfl, ini_Life, ⟨by decide, by decide, by decide +kernel⟩, by decide⟩
theorem in_Life_countMissed : Cond.instanceMethod y_Life_countMissed ∈ am_gt ∧ Cond.selects y_Life_countMissed.cls y_Life_countMissed y_Life_countMissed ∈ am_gt := ⟨am_gi (tb_6 (List.mem_of_getElem? (i := 73) rfl)) rfl, am_sel (q := (y_Life_countMissed, 12)) (am_pv_4 (List.mem_of_getElem? (i := 11) rfl))⟩
abbrev b_Life_drawAll : ByteArray := prog_6_method_9_code
abbrev y_Life_drawAll : MethodName := ⟨"UnseenRing$Life", "drawAll", "(LUnseenRing$Square;)V"⟩
theorem ce_Life_drawAll : am_callee y_Life_drawAll b_Life_drawAll 2 (none) 1 := ⟨am_gi (tb_6 (List.mem_of_getElem? (i := 81) rfl)) rfl, ini_Life, ⟨by decide, by decide, by decide +kernel⟩, by decide⟩
theorem in_Life_drawAll : Cond.instanceMethod y_Life_drawAll ∈ am_gt ∧ Cond.selects y_Life_drawAll.cls y_Life_drawAll y_Life_drawAll ∈ am_gt := ⟨am_gi (tb_6 (List.mem_of_getElem? (i := 80) rfl)) rfl, am_sel (q := (y_Life_drawAll, 12)) (am_pv_4 (List.mem_of_getElem? (i := 12) rfl))⟩
abbrev b_Life_draw : ByteArray := prog_6_method_13_code
abbrev y_Life_draw : MethodName := ⟨"UnseenRing$Life", "draw", "(I)I"⟩
theorem ce_Life_draw : am_callee y_Life_draw b_Life_draw 2 (some .int) 1 := ⟨am_gi (tb_6 (List.mem_of_getElem? (i := 85) rfl)) rfl, ini_Life, ⟨by decide, by decide, by decide +kernel⟩, by decide⟩
theorem in_Life_draw : Cond.instanceMethod y_Life_draw ∈ am_gt ∧ Cond.selects y_Life_draw.cls y_Life_draw y_Life_draw ∈ am_gt := ⟨am_gi (tb_6 (List.mem_of_getElem? (i := 84) rfl)) rfl, am_sel (q := (y_Life_draw, 12)) (am_pv_4 (List.mem_of_getElem? (i := 13) rfl))⟩
abbrev b_Life_behindStep : ByteArray := prog_6_method_5_code
abbrev y_Life_behindStep : MethodName := ⟨"UnseenRing$Life", "behindStep", "(LUnseenRing$Square;I)I"⟩
theorem ce_Life_behindStep : am_callee y_Life_behindStep b_Life_behindStep 4 (some .int) 2 := ⟨am_gi (tb_6 (List.mem_of_getElem? (i := 91) rfl)) rfl, ini_Life, ⟨by decide, by decide, by decide +kernel⟩, by decide⟩
theorem in_Life_behindStep : Cond.instanceMethod y_Life_behindStep ∈ am_gt ∧ Cond.selects y_Life_behindStep.cls y_Life_behindStep y_Life_behindStep ∈ am_gt := ⟨am_gi (tb_6 (List.mem_of_getElem? (i := 90) rfl)) rfl, am_sel (q := (y_Life_behindStep, 12)) (am_pv_4 (List.mem_of_getElem? (i := 14) rfl))⟩
abbrev b_Life_holds : ByteArray := prog_6_method_6_code
abbrev y_Life_holds : MethodName := ⟨"UnseenRing$Life", "holds", "(LUnseenRing$Square;I)Z"⟩
theorem ce_Life_holds : am_callee y_Life_holds b_Life_holds 5 (some .boolean) 2 := ⟨am_gi (tb_6 (List.mem_of_getElem? (i := 95) rfl)) rfl, ini_Life, ⟨by decide, by decide, by decide +kernel⟩, by decide⟩
theorem in_Life_holds : Cond.instanceMethod y_Life_holds ∈ am_gt ∧ Cond.selects y_Life_holds.cls y_Life_holds y_Life_holds ∈ am_gt := ⟨am_gi (tb_6 (List.mem_of_getElem? (i := 94) rfl)) rfl, am_sel (q := (y_Life_holds, 12)) (am_pv_4 (List.mem_of_getElem? (i := 15) rfl))⟩
abbrev b_Life_compares : ByteArray := prog_6_method_7_code
abbrev y_Life_compares : MethodName := ⟨"UnseenRing$Life", "compares", "(III)Z"⟩
theorem ce_Life_compares : am_callee y_Life_compares b_Life_compares 3 (some .boolean) 3 := ⟨am_gi (tb_6 (List.mem_of_getElem? (i := 100) rfl)) rfl, ini_Life, ⟨by decide, by decide, by decide +kernel⟩, by decide⟩
theorem st_Life_compares : Cond.static y_Life_compares ∈ am_gt := am_gi (tb_6 (List.mem_of_getElem? (i := 99) rfl)) rfl
abbrev b_U_lived : ByteArray := prog_1_method_59_code
abbrev y_U_lived : MethodName := ⟨"UnseenRing", "lived", "(I)I"⟩
theorem ce_U_lived : am_callee y_U_lived b_U_lived 2 (some .int) 1 := ⟨am_gi (tb_6 (List.mem_of_getElem? (i := 105) rfl)) rfl, ini_U, ⟨by decide, by decide, by decide +kernel⟩, by decide⟩
theorem in_U_lived : Cond.instanceMethod y_U_lived ∈ am_gt ∧ Cond.selects y_U_lived.cls y_U_lived y_U_lived ∈ am_gt := ⟨am_gi (tb_6 (List.mem_of_getElem? (i := 103) rfl)) rfl, am_gi (tb_6 (List.mem_of_getElem? (i := 104) rfl)) rfl⟩
abbrev b_Life_count : ByteArray := prog_6_method_3_code
abbrev y_Life_count : MethodName := ⟨"UnseenRing$Life", "count", "(I)I"⟩
theorem ce_Life_count : am_callee y_Life_count b_Life_count 2 (some .int) 1 := ⟨am_gi (tb_6 (List.mem_of_getElem? (i := 109) rfl)) rfl, ini_Life, ⟨by decide, by decide, by decide +kernel⟩, by decide⟩
theorem in_Life_count : Cond.instanceMethod y_Life_count ∈ am_gt ∧ Cond.selects y_Life_count.cls y_Life_count y_Life_count ∈ am_gt := ⟨am_gi (tb_6 (List.mem_of_getElem? (i := 107) rfl)) rfl, am_gi (tb_6 (List.mem_of_getElem? (i := 108) rfl)) rfl⟩
abbrev b_U_mean : ByteArray := prog_1_method_60_code
abbrev y_U_mean : MethodName := ⟨"UnseenRing", "mean", "(II)Z"⟩
theorem ce_U_mean : am_callee y_U_mean b_U_mean 6 (some .boolean) 2 := ⟨am_gi (tb_6 (List.mem_of_getElem? (i := 113) rfl)) rfl, ini_U, ⟨by decide, by decide, by decide +kernel⟩, by decide⟩
theorem in_U_mean : Cond.instanceMethod y_U_mean ∈ am_gt ∧ Cond.selects y_U_mean.cls y_U_mean y_U_mean ∈ am_gt := ⟨am_gi (tb_6 (List.mem_of_getElem? (i := 111) rfl)) rfl, am_gi (tb_6 (List.mem_of_getElem? (i := 112) rfl)) rfl⟩
abbrev b_Square_copyFrom : ByteArray := prog_9_method_3_code
abbrev y_Square_copyFrom : MethodName := ⟨"UnseenRing$Square", "copyFrom", "(LUnseenRing$Square;)V"⟩
theorem ce_Square_copyFrom : am_callee y_Square_copyFrom b_Square_copyFrom 2 (none) 1 := ⟨am_gi (tb_6 (List.mem_of_getElem? (i := 117) rfl)) rfl, ini_Square, ⟨by decide, by decide, by decide +kernel⟩, by decide⟩
theorem in_Square_copyFrom : Cond.instanceMethod y_Square_copyFrom ∈ am_gt ∧ Cond.selects y_Square_copyFrom.cls y_Square_copyFrom y_Square_copyFrom ∈ am_gt := ⟨am_gi (tb_6 (List.mem_of_getElem? (i := 115) rfl)) rfl, am_gi (tb_6 (List.mem_of_getElem? (i := 116) rfl)) rfl⟩
abbrev b_Days_copyFrom : ByteArray := prog_3_method_5_code
abbrev y_Days_copyFrom : MethodName := ⟨"UnseenRing$Days", "copyFrom", "(LUnseenRing$Days;)V"⟩
theorem ce_Days_copyFrom : am_callee y_Days_copyFrom b_Days_copyFrom 2 (none) 1 := ⟨am_gi (tb_6 (List.mem_of_getElem? (i := 122) rfl)) rfl, ini_Days, ⟨by decide, by decide, by decide +kernel⟩, by decide⟩
theorem in_Days_copyFrom : Cond.instanceMethod y_Days_copyFrom ∈ am_gt ∧ Cond.selects y_Days_copyFrom.cls y_Days_copyFrom y_Days_copyFrom ∈ am_gt := ⟨am_gi (tb_6 (List.mem_of_getElem? (i := 120) rfl)) rfl, am_gi (tb_6 (List.mem_of_getElem? (i := 121) rfl)) rfl⟩
abbrev b_U_mark : ByteArray := prog_1_method_61_code
abbrev y_U_mark : MethodName := ⟨"UnseenRing", "mark", "()I"⟩
theorem ce_U_mark : am_callee y_U_mark b_U_mark 1 (some .int) 0 := ⟨am_gi (tb_6 (List.mem_of_getElem? (i := 127) rfl)) rfl, ini_U, ⟨by decide, by decide, by decide +kernel⟩, by decide⟩
theorem in_U_mark : Cond.instanceMethod y_U_mark ∈ am_gt ∧ Cond.selects y_U_mark.cls y_U_mark y_U_mark ∈ am_gt := ⟨am_gi (tb_6 (List.mem_of_getElem? (i := 125) rfl)) rfl, am_gi (tb_6 (List.mem_of_getElem? (i := 126) rfl)) rfl⟩
abbrev b_U_undo : ByteArray := prog_1_method_62_code
abbrev y_U_undo : MethodName := ⟨"UnseenRing", "undo", "()I"⟩
theorem ce_U_undo : am_callee y_U_undo b_U_undo 1 (some .int) 0 := ⟨am_gi (tb_6 (List.mem_of_getElem? (i := 131) rfl)) rfl, ini_U, ⟨by decide, by decide, by decide +kernel⟩, by decide⟩
theorem in_U_undo : Cond.instanceMethod y_U_undo ∈ am_gt ∧ Cond.selects y_U_undo.cls y_U_undo y_U_undo ∈ am_gt := ⟨am_gi (tb_6 (List.mem_of_getElem? (i := 129) rfl)) rfl, am_gi (tb_6 (List.mem_of_getElem? (i := 130) rfl)) rfl⟩
abbrev b_M_init : ByteArray := prog_14_method_1_code
abbrev y_M_init : MethodName := ⟨"UnseenRingModel", "<init>", "()V"⟩
theorem ini_M : Cond.initialized "UnseenRingModel" ∈ am_gt := am_gi (tb_1 (List.mem_of_getElem? (i := 17) rfl)) rfl
theorem ce_M_init : am_callee y_M_init b_M_init 1 (none) 0 := ⟨am_gi (tb_6 (List.mem_of_getElem? (i := 136) rfl)) rfl, ini_M, ⟨by decide, by decide, by decide +kernel⟩, by decide⟩
theorem in_M_init : y_M_init.name = "<init>" ∧ Cond.instanceMethod y_M_init ∈ am_gt := ⟨rfl, am_gi (tb_6 (List.mem_of_getElem? (i := 135) rfl)) rfl⟩
abbrev b_M_plain : ByteArray := prog_14_method_2_code
abbrev y_M_plain : MethodName := ⟨"UnseenRingModel", "plain", "(I)V"⟩
theorem ce_M_plain : am_callee y_M_plain b_M_plain 3 (none) 1 := ⟨am_gi (tb_6 (List.mem_of_getElem? (i := 141) rfl)) rfl, ini_M, ⟨by decide, by decide, by decide +kernel⟩, by decide⟩
theorem in_M_plain : Cond.instanceMethod y_M_plain ∈ am_gt ∧ Cond.selects y_M_plain.cls y_M_plain y_M_plain ∈ am_gt := ⟨am_gi (tb_6 (List.mem_of_getElem? (i := 140) rfl)) rfl, am_sel (q := (y_M_plain, 51)) (am_pv_5 (List.mem_of_getElem? (i := 0) rfl))⟩
abbrev b_M_status : ByteArray := prog_14_method_3_code
abbrev y_M_status : MethodName := ⟨"UnseenRingModel", "status", "()I"⟩
theorem ce_M_status : am_callee y_M_status b_M_status 1 (some .int) 0 := ⟨am_gi (tb_7 (List.mem_of_getElem? (i := 60) rfl)) rfl, ini_M, ⟨by decide, by decide, by decide +kernel⟩, by decide⟩
theorem in_M_status : Cond.instanceMethod y_M_status ∈ am_gt ∧ Cond.selects y_M_status.cls y_M_status y_M_status ∈ am_gt := ⟨am_gi (tb_7 (List.mem_of_getElem? (i := 58) rfl)) rfl, am_gi (tb_7 (List.mem_of_getElem? (i := 59) rfl)) rfl⟩
abbrev b_M_top : ByteArray := prog_14_method_4_code
abbrev y_M_top : MethodName := ⟨"UnseenRingModel", "top", "()J"⟩
theorem ce_M_top : am_callee y_M_top b_M_top 1 (some .long) 0 := ⟨am_gi (tb_7 (List.mem_of_getElem? (i := 64) rfl)) rfl, ini_M, ⟨by decide, by decide, by decide +kernel⟩, by decide⟩
theorem in_M_top : Cond.instanceMethod y_M_top ∈ am_gt ∧ Cond.selects y_M_top.cls y_M_top y_M_top ∈ am_gt := ⟨am_gi (tb_7 (List.mem_of_getElem? (i := 62) rfl)) rfl, am_gi (tb_7 (List.mem_of_getElem? (i := 63) rfl)) rfl⟩
abbrev b_M_bottom : ByteArray := prog_14_method_5_code
abbrev y_M_bottom : MethodName := ⟨"UnseenRingModel", "bottom", "()J"⟩
theorem ce_M_bottom : am_callee y_M_bottom b_M_bottom 1 (some .long) 0 := ⟨am_gi (tb_7 (List.mem_of_getElem? (i := 68) rfl)) rfl, ini_M, ⟨by decide, by decide, by decide +kernel⟩, by decide⟩
theorem in_M_bottom : Cond.instanceMethod y_M_bottom ∈ am_gt ∧ Cond.selects y_M_bottom.cls y_M_bottom y_M_bottom ∈ am_gt := ⟨am_gi (tb_7 (List.mem_of_getElem? (i := 66) rfl)) rfl, am_gi (tb_7 (List.mem_of_getElem? (i := 67) rfl)) rfl⟩
abbrev b_M_tray : ByteArray := prog_14_method_13_code
abbrev y_M_tray : MethodName := ⟨"UnseenRingModel", "tray", "(III)Z"⟩
theorem ce_M_tray : am_callee y_M_tray b_M_tray 5 (some .boolean) 3 := ⟨am_gi (tb_7 (List.mem_of_getElem? (i := 72) rfl)) rfl, ini_M, ⟨by decide, by decide, by decide +kernel⟩, by decide⟩
theorem in_M_tray : Cond.instanceMethod y_M_tray ∈ am_gt ∧ Cond.selects y_M_tray.cls y_M_tray y_M_tray ∈ am_gt := ⟨am_gi (tb_7 (List.mem_of_getElem? (i := 70) rfl)) rfl, am_gi (tb_7 (List.mem_of_getElem? (i := 71) rfl)) rfl⟩
abbrev b_M_isTray : ByteArray := prog_14_method_11_code
abbrev y_M_isTray : MethodName := ⟨"UnseenRingModel", "isTray", "(I)Z"⟩
theorem ce_M_isTray : am_callee y_M_isTray b_M_isTray 1 (some .boolean) 1 := ⟨am_gi (tb_7 (List.mem_of_getElem? (i := 75) rfl)) rfl, ini_M, ⟨by decide, by decide, by decide +kernel⟩, by decide⟩
theorem st_M_isTray : Cond.static y_M_isTray ∈ am_gt := am_gi (tb_7 (List.mem_of_getElem? (i := 74) rfl)) rfl
abbrev b_M_is : ByteArray := prog_14_method_6_code
abbrev y_M_is : MethodName := ⟨"UnseenRingModel", "is", "(I)Z"⟩
theorem ce_M_is : am_callee y_M_is b_M_is 2 (some .boolean) 1 := ⟨am_gi (tb_7 (List.mem_of_getElem? (i := 79) rfl)) rfl, ini_M, ⟨by decide, by decide, by decide +kernel⟩, by decide⟩
theorem in_M_is : Cond.instanceMethod y_M_is ∈ am_gt ∧ Cond.selects y_M_is.cls y_M_is y_M_is ∈ am_gt := ⟨am_gi (tb_7 (List.mem_of_getElem? (i := 78) rfl)) rfl, am_sel (q := (y_M_is, 51)) (am_pv_5 (List.mem_of_getElem? (i := 1) rfl))⟩
abbrev b_M_write : ByteArray := prog_14_method_15_code
abbrev y_M_write : MethodName := ⟨"UnseenRingModel", "write", "(IIJ)Z"⟩
theorem ce_M_write : am_callee y_M_write b_M_write 6 (some .boolean) 3 := ⟨am_gi (tb_7 (List.mem_of_getElem? (i := 83) rfl)) rfl, ini_M, ⟨by decide, by decide, by decide +kernel⟩, by decide⟩
theorem in_M_write : Cond.instanceMethod y_M_write ∈ am_gt ∧ Cond.selects y_M_write.cls y_M_write y_M_write ∈ am_gt := ⟨am_gi (tb_7 (List.mem_of_getElem? (i := 81) rfl)) rfl, am_gi (tb_7 (List.mem_of_getElem? (i := 82) rfl)) rfl⟩
abbrev b_M_wrongPlace : ByteArray := prog_14_method_14_code
abbrev y_M_wrongPlace : MethodName := ⟨"UnseenRingModel", "wrongPlace", "(II)I"⟩
theorem ce_M_wrongPlace : am_callee y_M_wrongPlace b_M_wrongPlace 3 (some .int) 2 := ⟨am_gi (tb_7 (List.mem_of_getElem? (i := 87) rfl)) rfl, ini_M, ⟨by decide, by decide, by decide +kernel⟩, by decide⟩
theorem in_M_wrongPlace : Cond.instanceMethod y_M_wrongPlace ∈ am_gt ∧ Cond.selects y_M_wrongPlace.cls y_M_wrongPlace y_M_wrongPlace ∈ am_gt := ⟨am_gi (tb_7 (List.mem_of_getElem? (i := 86) rfl)) rfl, am_sel (q := (y_M_wrongPlace, 51)) (am_pv_5 (List.mem_of_getElem? (i := 2) rfl))⟩
abbrev b_M_cut : ByteArray := prog_14_method_12_code
abbrev y_M_cut : MethodName := ⟨"UnseenRingModel", "cut", "(JI)J"⟩
theorem ce_M_cut : am_callee y_M_cut b_M_cut 3 (some .long) 2 := ⟨am_gi (tb_7 (List.mem_of_getElem? (i := 90) rfl)) rfl, ini_M, ⟨by decide, by decide, by decide +kernel⟩, by decide⟩
theorem st_M_cut : Cond.static y_M_cut ∈ am_gt := am_gi (tb_7 (List.mem_of_getElem? (i := 89) rfl)) rfl
abbrev b_M_read : ByteArray := prog_14_method_16_code
abbrev y_M_read : MethodName := ⟨"UnseenRingModel", "read", "(II)J"⟩
theorem ce_M_read : am_callee y_M_read b_M_read 3 (some .long) 2 := ⟨am_gi (tb_7 (List.mem_of_getElem? (i := 94) rfl)) rfl, ini_M, ⟨by decide, by decide, by decide +kernel⟩, by decide⟩
theorem in_M_read : Cond.instanceMethod y_M_read ∈ am_gt ∧ Cond.selects y_M_read.cls y_M_read y_M_read ∈ am_gt := ⟨am_gi (tb_7 (List.mem_of_getElem? (i := 92) rfl)) rfl, am_gi (tb_7 (List.mem_of_getElem? (i := 93) rfl)) rfl⟩
abbrev b_M_pour : ByteArray := prog_14_method_17_code
abbrev y_M_pour : MethodName := ⟨"UnseenRingModel", "pour", "(IIIII)Z"⟩
theorem ce_M_pour : am_callee y_M_pour b_M_pour 8 (some .boolean) 5 := ⟨am_gi (tb_7 (List.mem_of_getElem? (i := 99) rfl)) rfl, ini_M, ⟨by decide, by decide, by decide +kernel⟩, by decide⟩
theorem in_M_pour : Cond.instanceMethod y_M_pour ∈ am_gt ∧ Cond.selects y_M_pour.cls y_M_pour y_M_pour ∈ am_gt := ⟨am_gi (tb_7 (List.mem_of_getElem? (i := 97) rfl)) rfl, am_gi (tb_7 (List.mem_of_getElem? (i := 98) rfl)) rfl⟩
abbrev b_M_feed : ByteArray := prog_14_method_19_code
abbrev y_M_feed : MethodName := ⟨"UnseenRingModel", "feed", "(IIIII)I"⟩
theorem ce_M_feed : am_callee y_M_feed b_M_feed 6 (some .int) 5 := ⟨am_gi (tb_7 (List.mem_of_getElem? (i := 103) rfl)) rfl, ini_M, ⟨by decide, by decide, by decide +kernel⟩, by decide⟩
theorem in_M_feed : Cond.instanceMethod y_M_feed ∈ am_gt ∧ Cond.selects y_M_feed.cls y_M_feed y_M_feed ∈ am_gt := ⟨am_gi (tb_7 (List.mem_of_getElem? (i := 101) rfl)) rfl, am_gi (tb_7 (List.mem_of_getElem? (i := 102) rfl)) rfl⟩
abbrev b_M_four : ByteArray := prog_14_method_20_code
abbrev y_M_four : MethodName := ⟨"UnseenRingModel", "four", "(I)V"⟩
theorem ce_M_four : am_callee y_M_four b_M_four 3 (none) 1 := ⟨am_gi (tb_7 (List.mem_of_getElem? (i := 107) rfl)) rfl, ini_M, ⟨by decide, by decide, by decide +kernel⟩, by decide⟩
theorem in_M_four : Cond.instanceMethod y_M_four ∈ am_gt ∧ Cond.selects y_M_four.cls y_M_four y_M_four ∈ am_gt := ⟨am_gi (tb_7 (List.mem_of_getElem? (i := 106) rfl)) rfl, am_sel (q := (y_M_four, 51)) (am_pv_5 (List.mem_of_getElem? (i := 3) rfl))⟩
abbrev b_M_fault : ByteArray := prog_14_method_35_code
abbrev y_M_fault : MethodName := ⟨"UnseenRingModel", "fault", "(I)I"⟩
theorem ce_M_fault : am_callee y_M_fault b_M_fault 2 (some .int) 1 := ⟨am_gi (tb_7 (List.mem_of_getElem? (i := 111) rfl)) rfl, ini_M, ⟨by decide, by decide, by decide +kernel⟩, by decide⟩
theorem in_M_fault : Cond.instanceMethod y_M_fault ∈ am_gt ∧ Cond.selects y_M_fault.cls y_M_fault y_M_fault ∈ am_gt := ⟨am_gi (tb_7 (List.mem_of_getElem? (i := 109) rfl)) rfl, am_gi (tb_7 (List.mem_of_getElem? (i := 110) rfl)) rfl⟩
abbrev b_M_square : ByteArray := prog_14_method_49_code
abbrev y_M_square : MethodName := ⟨"UnseenRingModel", "square", "(I)I"⟩
theorem ce_M_square : am_callee y_M_square b_M_square 4 (some .int) 1 := ⟨am_gi (tb_7 (List.mem_of_getElem? (i := 115) rfl)) rfl, ini_M, ⟨by decide, by decide, by decide +kernel⟩, by decide⟩
theorem in_M_square : Cond.instanceMethod y_M_square ∈ am_gt ∧ Cond.selects y_M_square.cls y_M_square y_M_square ∈ am_gt := ⟨am_gi (tb_7 (List.mem_of_getElem? (i := 113) rfl)) rfl, am_gi (tb_7 (List.mem_of_getElem? (i := 114) rfl)) rfl⟩
abbrev b_M_begins : ByteArray := prog_14_method_28_code
abbrev y_M_begins : MethodName := ⟨"UnseenRingModel", "begins", "(II)Z"⟩
theorem ce_M_begins : am_callee y_M_begins b_M_begins 4 (some .boolean) 2 := ⟨am_gi (tb_7 (List.mem_of_getElem? (i := 119) rfl)) rfl, ini_M, ⟨by decide, by decide, by decide +kernel⟩, by decide⟩
theorem in_M_begins : Cond.instanceMethod y_M_begins ∈ am_gt ∧ Cond.selects y_M_begins.cls y_M_begins y_M_begins ∈ am_gt := ⟨am_gi (tb_7 (List.mem_of_getElem? (i := 118) rfl)) rfl, am_sel (q := (y_M_begins, 51)) (am_pv_5 (List.mem_of_getElem? (i := 4) rfl))⟩
abbrev b_M_ahead : ByteArray := prog_14_method_24_code
abbrev y_M_ahead : MethodName := ⟨"UnseenRingModel", "ahead", "()V"⟩
theorem ce_M_ahead : am_callee y_M_ahead b_M_ahead 2 (none) 0 := ⟨am_gi (tb_7 (List.mem_of_getElem? (i := 123) rfl)) rfl, ini_M, ⟨by decide, by decide, by decide +kernel⟩, by decide⟩
theorem in_M_ahead : Cond.instanceMethod y_M_ahead ∈ am_gt ∧ Cond.selects y_M_ahead.cls y_M_ahead y_M_ahead ∈ am_gt := ⟨am_gi (tb_7 (List.mem_of_getElem? (i := 122) rfl)) rfl, am_sel (q := (y_M_ahead, 51)) (am_pv_5 (List.mem_of_getElem? (i := 5) rfl))⟩
abbrev b_M_byteAt : ByteArray := prog_14_method_21_code
abbrev y_M_byteAt : MethodName := ⟨"UnseenRingModel", "byteAt", "(I)I"⟩
theorem ce_M_byteAt : am_callee y_M_byteAt b_M_byteAt 2 (some .int) 1 := ⟨am_gi (tb_7 (List.mem_of_getElem? (i := 127) rfl)) rfl, ini_M, ⟨by decide, by decide, by decide +kernel⟩, by decide⟩
theorem in_M_byteAt : Cond.instanceMethod y_M_byteAt ∈ am_gt ∧ Cond.selects y_M_byteAt.cls y_M_byteAt y_M_byteAt ∈ am_gt := ⟨am_gi (tb_7 (List.mem_of_getElem? (i := 126) rfl)) rfl, am_sel (q := (y_M_byteAt, 51)) (am_pv_5 (List.mem_of_getElem? (i := 6) rfl))⟩
abbrev b_M_isSmall : ByteArray := prog_14_method_22_code
abbrev y_M_isSmall : MethodName := ⟨"UnseenRingModel", "isSmall", "(I)Z"⟩
theorem ce_M_isSmall : am_callee y_M_isSmall b_M_isSmall 1 (some .boolean) 1 := ⟨am_gi (tb_7 (List.mem_of_getElem? (i := 130) rfl)) rfl, ini_M, ⟨by decide, by decide, by decide +kernel⟩, by decide⟩
theorem st_M_isSmall : Cond.static y_M_isSmall ∈ am_gt := am_gi (tb_7 (List.mem_of_getElem? (i := 129) rfl)) rfl
abbrev b_M_isDigit : ByteArray := prog_14_method_23_code
abbrev y_M_isDigit : MethodName := ⟨"UnseenRingModel", "isDigit", "(I)Z"⟩
theorem ce_M_isDigit : am_callee y_M_isDigit b_M_isDigit 1 (some .boolean) 1 := ⟨am_gi (tb_7 (List.mem_of_getElem? (i := 133) rfl)) rfl, ini_M, ⟨by decide, by decide, by decide +kernel⟩, by decide⟩
theorem st_M_isDigit : Cond.static y_M_isDigit ∈ am_gt := am_gi (tb_7 (List.mem_of_getElem? (i := 132) rfl)) rfl
abbrev b_M_refuse : ByteArray := prog_14_method_7_code
abbrev y_M_refuse : MethodName := ⟨"UnseenRingModel", "refuse", "(I)I"⟩
theorem ce_M_refuse : am_callee y_M_refuse b_M_refuse 2 (some .int) 1 := ⟨am_gi (tb_7 (List.mem_of_getElem? (i := 139) rfl)) rfl, ini_M, ⟨by decide, by decide, by decide +kernel⟩, by decide⟩
theorem in_M_refuse : Cond.instanceMethod y_M_refuse ∈ am_gt ∧ Cond.selects y_M_refuse.cls y_M_refuse y_M_refuse ∈ am_gt := ⟨am_gi (tb_7 (List.mem_of_getElem? (i := 138) rfl)) rfl, am_sel (q := (y_M_refuse, 51)) (am_pv_5 (List.mem_of_getElem? (i := 7) rfl))⟩
abbrev b_M_squarePart : ByteArray := prog_14_method_48_code
abbrev y_M_squarePart : MethodName := ⟨"UnseenRingModel", "squarePart", "()Z"⟩
theorem ce_M_squarePart : am_callee y_M_squarePart b_M_squarePart 3 (some .boolean) 0 := ⟨am_gi (tb_7 (List.mem_of_getElem? (i := 143) rfl)) rfl, ini_M, ⟨by decide, by decide, by decide +kernel⟩, by decide⟩
theorem in_M_squarePart : Cond.instanceMethod y_M_squarePart ∈ am_gt ∧ Cond.selects y_M_squarePart.cls y_M_squarePart y_M_squarePart ∈ am_gt := ⟨am_gi (tb_7 (List.mem_of_getElem? (i := 142) rfl)) rfl, am_sel (q := (y_M_squarePart, 51)) (am_pv_5 (List.mem_of_getElem? (i := 8) rfl))⟩
abbrev b_M_inWords : ByteArray := prog_14_method_26_code
abbrev y_M_inWords : MethodName := ⟨"UnseenRingModel", "inWords", "(Ljava/lang/String;)I"⟩
theorem ce_M_inWords : am_callee y_M_inWords b_M_inWords 7 (some .int) 1 := ⟨am_gi (tb_7 (List.mem_of_getElem? (i := 148) rfl)) rfl, ini_M, ⟨by decide, by decide, by decide +kernel⟩, by decide⟩
theorem in_M_inWords : Cond.instanceMethod y_M_inWords ∈ am_gt ∧ Cond.selects y_M_inWords.cls y_M_inWords y_M_inWords ∈ am_gt := ⟨am_gi (tb_7 (List.mem_of_getElem? (i := 147) rfl)) rfl, am_sel (q := (y_M_inWords, 51)) (am_pv_5 (List.mem_of_getElem? (i := 9) rfl))⟩
abbrev b_M_fails : ByteArray := prog_14_method_27_code
abbrev y_M_fails : MethodName := ⟨"UnseenRingModel", "fails", "(I)Z"⟩
theorem ce_M_fails : am_callee y_M_fails b_M_fails 2 (some .boolean) 1 := ⟨am_gi (tb_7 (List.mem_of_getElem? (i := 154) rfl)) rfl, ini_M, ⟨by decide, by decide, by decide +kernel⟩, by decide⟩
theorem in_M_fails : Cond.instanceMethod y_M_fails ∈ am_gt ∧ Cond.selects y_M_fails.cls y_M_fails y_M_fails ∈ am_gt := ⟨am_gi (tb_7 (List.mem_of_getElem? (i := 153) rfl)) rfl, am_sel (q := (y_M_fails, 51)) (am_pv_5 (List.mem_of_getElem? (i := 10) rfl))⟩
abbrev b_M_aSquare : ByteArray := prog_14_method_44_code
abbrev y_M_aSquare : MethodName := ⟨"UnseenRingModel", "aSquare", "()Z"⟩
theorem ce_M_aSquare : am_callee y_M_aSquare b_M_aSquare 1 (some .boolean) 0 := ⟨am_gi (tb_7 (List.mem_of_getElem? (i := 158) rfl)) rfl, ini_M, ⟨by decide, by decide, by decide +kernel⟩, by decide⟩
theorem in_M_aSquare : Cond.instanceMethod y_M_aSquare ∈ am_gt ∧ Cond.selects y_M_aSquare.cls y_M_aSquare y_M_aSquare ∈ am_gt := ⟨am_gi (tb_7 (List.mem_of_getElem? (i := 157) rfl)) rfl, am_sel (q := (y_M_aSquare, 51)) (am_pv_5 (List.mem_of_getElem? (i := 11) rfl))⟩
abbrev b_M_number : ByteArray := prog_14_method_31_code
abbrev y_M_number : MethodName := ⟨"UnseenRingModel", "number", "(III)Z"⟩
theorem ce_M_number : am_callee y_M_number b_M_number 4 (some .boolean) 3 := ⟨am_gi (tb_7 (List.mem_of_getElem? (i := 162) rfl)) rfl, ini_M, ⟨by decide, by decide, by decide +kernel⟩, by decide⟩
theorem in_M_number : Cond.instanceMethod y_M_number ∈ am_gt ∧ Cond.selects y_M_number.cls y_M_number y_M_number ∈ am_gt := ⟨am_gi (tb_7 (List.mem_of_getElem? (i := 161) rfl)) rfl, am_sel (q := (y_M_number, 51)) (am_pv_5 (List.mem_of_getElem? (i := 12) rfl))⟩
abbrev b_M_wantWord : ByteArray := prog_14_method_30_code
abbrev y_M_wantWord : MethodName := ⟨"UnseenRingModel", "wantWord", "(Ljava/lang/String;I)Z"⟩
theorem ce_M_wantWord : am_callee y_M_wantWord b_M_wantWord 3 (some .boolean) 2 := ⟨am_gi (tb_7 (List.mem_of_getElem? (i := 166) rfl)) rfl, ini_M, ⟨by decide, by decide, by decide +kernel⟩, by decide⟩
theorem in_M_wantWord : Cond.instanceMethod y_M_wantWord ∈ am_gt ∧ Cond.selects y_M_wantWord.cls y_M_wantWord y_M_wantWord ∈ am_gt := ⟨am_gi (tb_7 (List.mem_of_getElem? (i := 165) rfl)) rfl, am_sel (q := (y_M_wantWord, 51)) (am_pv_5 (List.mem_of_getElem? (i := 13) rfl))⟩
abbrev b_M_newCellTo : ByteArray := prog_14_method_43_code
abbrev y_M_newCellTo : MethodName := ⟨"UnseenRingModel", "newCellTo", "(I)Z"⟩
theorem ce_M_newCellTo : am_callee y_M_newCellTo b_M_newCellTo 2 (some .boolean) 1 := ⟨am_gi (tb_7 (List.mem_of_getElem? (i := 170) rfl)) rfl, ini_M, ⟨by decide, by decide, by decide +kernel⟩, by decide⟩
theorem in_M_newCellTo : Cond.instanceMethod y_M_newCellTo ∈ am_gt ∧ Cond.selects y_M_newCellTo.cls y_M_newCellTo y_M_newCellTo ∈ am_gt := ⟨am_gi (tb_7 (List.mem_of_getElem? (i := 169) rfl)) rfl, am_sel (q := (y_M_newCellTo, 51)) (am_pv_5 (List.mem_of_getElem? (i := 14) rfl))⟩
abbrev b_M_cellsOf : ByteArray := prog_14_method_38_code
abbrev y_M_cellsOf : MethodName := ⟨"UnseenRingModel", "cellsOf", "(I)I"⟩
theorem ce_M_cellsOf : am_callee y_M_cellsOf b_M_cellsOf 2 (some .int) 1 := ⟨am_gi (tb_7 (List.mem_of_getElem? (i := 174) rfl)) rfl, ini_M, ⟨by decide, by decide, by decide +kernel⟩, by decide⟩
theorem in_M_cellsOf : Cond.instanceMethod y_M_cellsOf ∈ am_gt ∧ Cond.selects y_M_cellsOf.cls y_M_cellsOf y_M_cellsOf ∈ am_gt := ⟨am_gi (tb_7 (List.mem_of_getElem? (i := 173) rfl)) rfl, am_sel (q := (y_M_cellsOf, 51)) (am_pv_5 (List.mem_of_getElem? (i := 15) rfl))⟩
abbrev b_M_aTune : ByteArray := prog_14_method_45_code
abbrev y_M_aTune : MethodName := ⟨"UnseenRingModel", "aTune", "()Z"⟩
theorem ce_M_aTune : am_callee y_M_aTune b_M_aTune 2 (some .boolean) 0 := ⟨am_gi (tb_7 (List.mem_of_getElem? (i := 178) rfl)) rfl, ini_M, ⟨by decide, by decide, by decide +kernel⟩, by decide⟩
theorem in_M_aTune : Cond.instanceMethod y_M_aTune ∈ am_gt ∧ Cond.selects y_M_aTune.cls y_M_aTune y_M_aTune ∈ am_gt := ⟨am_gi (tb_7 (List.mem_of_getElem? (i := 177) rfl)) rfl, am_sel (q := (y_M_aTune, 51)) (am_pv_6 (List.mem_of_getElem? (i := 0) rfl))⟩
abbrev b_M_isFull : ByteArray := prog_14_method_42_code
abbrev y_M_isFull : MethodName := ⟨"UnseenRingModel", "isFull", "(II)Z"⟩
theorem ce_M_isFull : am_callee y_M_isFull b_M_isFull 3 (some .boolean) 2 := ⟨am_gi (tb_7 (List.mem_of_getElem? (i := 182) rfl)) rfl, ini_M, ⟨by decide, by decide, by decide +kernel⟩, by decide⟩
theorem in_M_isFull : Cond.instanceMethod y_M_isFull ∈ am_gt ∧ Cond.selects y_M_isFull.cls y_M_isFull y_M_isFull ∈ am_gt := ⟨am_gi (tb_7 (List.mem_of_getElem? (i := 181) rfl)) rfl, am_sel (q := (y_M_isFull, 51)) (am_pv_6 (List.mem_of_getElem? (i := 1) rfl))⟩
abbrev b_M_isName : ByteArray := prog_14_method_32_code
abbrev y_M_isName : MethodName := ⟨"UnseenRingModel", "isName", "(Ljava/lang/String;)Z"⟩
theorem ce_M_isName : am_callee y_M_isName b_M_isName 2 (some .boolean) 1 := ⟨am_gi (tb_7 (List.mem_of_getElem? (i := 186) rfl)) rfl, ini_M, ⟨by decide, by decide, by decide +kernel⟩, by decide⟩
theorem in_M_isName : Cond.instanceMethod y_M_isName ∈ am_gt ∧ Cond.selects y_M_isName.cls y_M_isName y_M_isName ∈ am_gt := ⟨am_gi (tb_7 (List.mem_of_getElem? (i := 185) rfl)) rfl, am_sel (q := (y_M_isName, 51)) (am_pv_6 (List.mem_of_getElem? (i := 2) rfl))⟩
abbrev b_M_findHere : ByteArray := prog_14_method_34_code
abbrev y_M_findHere : MethodName := ⟨"UnseenRingModel", "findHere", "(II)I"⟩
theorem ce_M_findHere : am_callee y_M_findHere b_M_findHere 4 (some .int) 2 := ⟨am_gi (tb_7 (List.mem_of_getElem? (i := 190) rfl)) rfl, ini_M, ⟨by decide, by decide, by decide +kernel⟩, by decide⟩
theorem in_M_findHere : Cond.instanceMethod y_M_findHere ∈ am_gt ∧ Cond.selects y_M_findHere.cls y_M_findHere y_M_findHere ∈ am_gt := ⟨am_gi (tb_7 (List.mem_of_getElem? (i := 189) rfl)) rfl, am_sel (q := (y_M_findHere, 51)) (am_pv_6 (List.mem_of_getElem? (i := 3) rfl))⟩
abbrev b_M_nameHere : ByteArray := prog_14_method_33_code
abbrev y_M_nameHere : MethodName := ⟨"UnseenRingModel", "nameHere", "()J"⟩
theorem ce_M_nameHere : am_callee y_M_nameHere b_M_nameHere 4 (some .long) 0 := ⟨am_gi (tb_7 (List.mem_of_getElem? (i := 194) rfl)) rfl, ini_M, ⟨by decide, by decide, by decide +kernel⟩, by decide⟩
theorem in_M_nameHere : Cond.instanceMethod y_M_nameHere ∈ am_gt ∧ Cond.selects y_M_nameHere.cls y_M_nameHere y_M_nameHere ∈ am_gt := ⟨am_gi (tb_7 (List.mem_of_getElem? (i := 193) rfl)) rfl, am_sel (q := (y_M_nameHere, 51)) (am_pv_6 (List.mem_of_getElem? (i := 4) rfl))⟩
abbrev b_M_aHearer : ByteArray := prog_14_method_46_code
abbrev y_M_aHearer : MethodName := ⟨"UnseenRingModel", "aHearer", "()Z"⟩
theorem ce_M_aHearer : am_callee y_M_aHearer b_M_aHearer 4 (some .boolean) 0 := ⟨am_gi (tb_7 (List.mem_of_getElem? (i := 198) rfl)) rfl, ini_M, ⟨by decide, by decide, by decide +kernel⟩, by decide⟩
theorem in_M_aHearer : Cond.instanceMethod y_M_aHearer ∈ am_gt ∧ Cond.selects y_M_aHearer.cls y_M_aHearer y_M_aHearer ∈ am_gt := ⟨am_gi (tb_7 (List.mem_of_getElem? (i := 197) rfl)) rfl, am_sel (q := (y_M_aHearer, 51)) (am_pv_6 (List.mem_of_getElem? (i := 5) rfl))⟩
abbrev b_M_hearerRow : ByteArray := prog_14_method_37_code
abbrev y_M_hearerRow : MethodName := ⟨"UnseenRingModel", "hearerRow", "(I)I"⟩
theorem ce_M_hearerRow : am_callee y_M_hearerRow b_M_hearerRow 1 (some .int) 1 := ⟨am_gi (tb_7 (List.mem_of_getElem? (i := 201) rfl)) rfl, ini_M, ⟨by decide, by decide, by decide +kernel⟩, by decide⟩
theorem st_M_hearerRow : Cond.static y_M_hearerRow ∈ am_gt := am_gi (tb_7 (List.mem_of_getElem? (i := 200) rfl)) rfl
abbrev b_M_perhaps : ByteArray := prog_14_method_41_code
abbrev y_M_perhaps : MethodName := ⟨"UnseenRingModel", "perhaps", "(IIIII)Z"⟩
theorem ce_M_perhaps : am_callee y_M_perhaps b_M_perhaps 6 (some .boolean) 5 := ⟨am_gi (tb_7 (List.mem_of_getElem? (i := 205) rfl)) rfl, ini_M, ⟨by decide, by decide, by decide +kernel⟩, by decide⟩
theorem in_M_perhaps : Cond.instanceMethod y_M_perhaps ∈ am_gt ∧ Cond.selects y_M_perhaps.cls y_M_perhaps y_M_perhaps ∈ am_gt := ⟨am_gi (tb_7 (List.mem_of_getElem? (i := 204) rfl)) rfl, am_sel (q := (y_M_perhaps, 51)) (am_pv_6 (List.mem_of_getElem? (i := 6) rfl))⟩
abbrev b_M_isThere : ByteArray := prog_14_method_40_code
abbrev y_M_isThere : MethodName := ⟨"UnseenRingModel", "isThere", "(I)Z"⟩
theorem ce_M_isThere : am_callee y_M_isThere b_M_isThere 2 (some .boolean) 1 := ⟨am_gi (tb_7 (List.mem_of_getElem? (i := 209) rfl)) rfl, ini_M, ⟨by decide, by decide, by decide +kernel⟩, by decide⟩
theorem in_M_isThere : Cond.instanceMethod y_M_isThere ∈ am_gt ∧ Cond.selects y_M_isThere.cls y_M_isThere y_M_isThere ∈ am_gt := ⟨am_gi (tb_7 (List.mem_of_getElem? (i := 208) rfl)) rfl, am_sel (q := (y_M_isThere, 51)) (am_pv_6 (List.mem_of_getElem? (i := 7) rfl))⟩
abbrev b_M_isIn : ByteArray := prog_14_method_39_code
abbrev y_M_isIn : MethodName := ⟨"UnseenRingModel", "isIn", "(II)Z"⟩
theorem ce_M_isIn : am_callee y_M_isIn b_M_isIn 3 (some .boolean) 2 := ⟨am_gi (tb_7 (List.mem_of_getElem? (i := 213) rfl)) rfl, ini_M, ⟨by decide, by decide, by decide +kernel⟩, by decide⟩
theorem in_M_isIn : Cond.instanceMethod y_M_isIn ∈ am_gt ∧ Cond.selects y_M_isIn.cls y_M_isIn y_M_isIn ∈ am_gt := ⟨am_gi (tb_7 (List.mem_of_getElem? (i := 212) rfl)) rfl, am_sel (q := (y_M_isIn, 51)) (am_pv_6 (List.mem_of_getElem? (i := 8) rfl))⟩
abbrev b_M_aDog : ByteArray := prog_14_method_47_code
abbrev y_M_aDog : MethodName := ⟨"UnseenRingModel", "aDog", "()Z"⟩
theorem ce_M_aDog : am_callee y_M_aDog b_M_aDog 1 (some .boolean) 0 := ⟨am_gi (tb_7 (List.mem_of_getElem? (i := 217) rfl)) rfl, ini_M, ⟨by decide, by decide, by decide +kernel⟩, by decide⟩
theorem in_M_aDog : Cond.instanceMethod y_M_aDog ∈ am_gt ∧ Cond.selects y_M_aDog.cls y_M_aDog y_M_aDog ∈ am_gt := ⟨am_gi (tb_7 (List.mem_of_getElem? (i := 216) rfl)) rfl, am_sel (q := (y_M_aDog, 51)) (am_pv_6 (List.mem_of_getElem? (i := 9) rfl))⟩
abbrev b_M_wantSign : ByteArray := prog_14_method_29_code
abbrev y_M_wantSign : MethodName := ⟨"UnseenRingModel", "wantSign", "(I)Z"⟩
theorem ce_M_wantSign : am_callee y_M_wantSign b_M_wantSign 2 (some .boolean) 1 := ⟨am_gi (tb_7 (List.mem_of_getElem? (i := 221) rfl)) rfl, ini_M, ⟨by decide, by decide, by decide +kernel⟩, by decide⟩
theorem in_M_wantSign : Cond.instanceMethod y_M_wantSign ∈ am_gt ∧ Cond.selects y_M_wantSign.cls y_M_wantSign y_M_wantSign ∈ am_gt := ⟨am_gi (tb_7 (List.mem_of_getElem? (i := 220) rfl)) rfl, am_sel (q := (y_M_wantSign, 51)) (am_pv_6 (List.mem_of_getElem? (i := 10) rfl))⟩
abbrev b_M_isSign : ByteArray := prog_14_method_25_code
abbrev y_M_isSign : MethodName := ⟨"UnseenRingModel", "isSign", "(I)Z"⟩
theorem ce_M_isSign : am_callee y_M_isSign b_M_isSign 2 (some .boolean) 1 := ⟨am_gi (tb_7 (List.mem_of_getElem? (i := 225) rfl)) rfl, ini_M, ⟨by decide, by decide, by decide +kernel⟩, by decide⟩
theorem in_M_isSign : Cond.instanceMethod y_M_isSign ∈ am_gt ∧ Cond.selects y_M_isSign.cls y_M_isSign y_M_isSign ∈ am_gt := ⟨am_gi (tb_7 (List.mem_of_getElem? (i := 224) rfl)) rfl, am_sel (q := (y_M_isSign, 51)) (am_pv_6 (List.mem_of_getElem? (i := 11) rfl))⟩
abbrev b_M_taken : ByteArray := prog_14_method_36_code
abbrev y_M_taken : MethodName := ⟨"UnseenRingModel", "taken", "(I)I"⟩
theorem ce_M_taken : am_callee y_M_taken b_M_taken 2 (some .int) 1 := ⟨am_gi (tb_7 (List.mem_of_getElem? (i := 229) rfl)) rfl, ini_M, ⟨by decide, by decide, by decide +kernel⟩, by decide⟩
theorem in_M_taken : Cond.instanceMethod y_M_taken ∈ am_gt ∧ Cond.selects y_M_taken.cls y_M_taken y_M_taken ∈ am_gt := ⟨am_gi (tb_7 (List.mem_of_getElem? (i := 228) rfl)) rfl, am_sel (q := (y_M_taken, 51)) (am_pv_6 (List.mem_of_getElem? (i := 12) rfl))⟩
abbrev b_M_gives : ByteArray := prog_14_method_8_code
abbrev y_M_gives : MethodName := ⟨"UnseenRingModel", "gives", "(I)I"⟩
theorem ce_M_gives : am_callee y_M_gives b_M_gives 2 (some .int) 1 := ⟨am_gi (tb_7 (List.mem_of_getElem? (i := 233) rfl)) rfl, ini_M, ⟨by decide, by decide, by decide +kernel⟩, by decide⟩
theorem in_M_gives : Cond.instanceMethod y_M_gives ∈ am_gt ∧ Cond.selects y_M_gives.cls y_M_gives y_M_gives ∈ am_gt := ⟨am_gi (tb_7 (List.mem_of_getElem? (i := 232) rfl)) rfl, am_sel (q := (y_M_gives, 51)) (am_pv_6 (List.mem_of_getElem? (i := 13) rfl))⟩
abbrev b_M_days : ByteArray := prog_14_method_56_code
abbrev y_M_days : MethodName := ⟨"UnseenRingModel", "days", "(I)I"⟩
theorem ce_M_days : am_callee y_M_days b_M_days 4 (some .int) 1 := ⟨am_gi (tb_7 (List.mem_of_getElem? (i := 237) rfl)) rfl, ini_M, ⟨by decide, by decide, by decide +kernel⟩, by decide⟩
theorem in_M_days : Cond.instanceMethod y_M_days ∈ am_gt ∧ Cond.selects y_M_days.cls y_M_days y_M_days ∈ am_gt := ⟨am_gi (tb_7 (List.mem_of_getElem? (i := 235) rfl)) rfl, am_gi (tb_7 (List.mem_of_getElem? (i := 236) rfl)) rfl⟩
abbrev b_M_dayStep : ByteArray := prog_14_method_55_code
abbrev y_M_dayStep : MethodName := ⟨"UnseenRingModel", "dayStep", "()Z"⟩
theorem ce_M_dayStep : am_callee y_M_dayStep b_M_dayStep 6 (some .boolean) 0 := ⟨am_gi (tb_8 (List.mem_of_getElem? (i := 1) rfl)) rfl, ini_M, ⟨by decide, by decide, by decide +kernel⟩, by decide⟩
theorem in_M_dayStep : Cond.instanceMethod y_M_dayStep ∈ am_gt ∧ Cond.selects y_M_dayStep.cls y_M_dayStep y_M_dayStep ∈ am_gt := ⟨am_gi (tb_8 (List.mem_of_getElem? (i := 0) rfl)) rfl, am_sel (q := (y_M_dayStep, 51)) (am_pv_6 (List.mem_of_getElem? (i := 14) rfl))⟩
abbrev b_M_dayOrder : ByteArray := prog_14_method_54_code
abbrev y_M_dayOrder : MethodName := ⟨"UnseenRingModel", "dayOrder", "(II)Z"⟩
theorem ce_M_dayOrder : am_callee y_M_dayOrder b_M_dayOrder 3 (some .boolean) 2 := ⟨am_gi (tb_8 (List.mem_of_getElem? (i := 5) rfl)) rfl, ini_M, ⟨by decide, by decide, by decide +kernel⟩, by decide⟩
theorem in_M_dayOrder : Cond.instanceMethod y_M_dayOrder ∈ am_gt ∧ Cond.selects y_M_dayOrder.cls y_M_dayOrder y_M_dayOrder ∈ am_gt := ⟨am_gi (tb_8 (List.mem_of_getElem? (i := 4) rfl)) rfl, am_sel (q := (y_M_dayOrder, 51)) (am_pv_6 (List.mem_of_getElem? (i := 15) rfl))⟩
abbrev b_M_tuneTo : ByteArray := prog_14_method_50_code
abbrev y_M_tuneTo : MethodName := ⟨"UnseenRingModel", "tuneTo", "(I)Z"⟩
theorem ce_M_tuneTo : am_callee y_M_tuneTo b_M_tuneTo 2 (some .boolean) 1 := ⟨am_gi (tb_8 (List.mem_of_getElem? (i := 9) rfl)) rfl, ini_M, ⟨by decide, by decide, by decide +kernel⟩, by decide⟩
theorem in_M_tuneTo : Cond.instanceMethod y_M_tuneTo ∈ am_gt ∧ Cond.selects y_M_tuneTo.cls y_M_tuneTo y_M_tuneTo ∈ am_gt := ⟨am_gi (tb_8 (List.mem_of_getElem? (i := 8) rfl)) rfl, am_sel (q := (y_M_tuneTo, 51)) (am_pv_7 (List.mem_of_getElem? (i := 0) rfl))⟩
abbrev b_M_cellTo : ByteArray := prog_14_method_51_code
abbrev y_M_cellTo : MethodName := ⟨"UnseenRingModel", "cellTo", "(I)Z"⟩
theorem ce_M_cellTo : am_callee y_M_cellTo b_M_cellTo 2 (some .boolean) 1 := ⟨am_gi (tb_8 (List.mem_of_getElem? (i := 13) rfl)) rfl, ini_M, ⟨by decide, by decide, by decide +kernel⟩, by decide⟩
theorem in_M_cellTo : Cond.instanceMethod y_M_cellTo ∈ am_gt ∧ Cond.selects y_M_cellTo.cls y_M_cellTo y_M_cellTo ∈ am_gt := ⟨am_gi (tb_8 (List.mem_of_getElem? (i := 12) rfl)) rfl, am_sel (q := (y_M_cellTo, 51)) (am_pv_7 (List.mem_of_getElem? (i := 1) rfl))⟩
abbrev b_M_hearerTo : ByteArray := prog_14_method_52_code
abbrev y_M_hearerTo : MethodName := ⟨"UnseenRingModel", "hearerTo", "(I)Z"⟩
theorem ce_M_hearerTo : am_callee y_M_hearerTo b_M_hearerTo 2 (some .boolean) 1 := ⟨am_gi (tb_8 (List.mem_of_getElem? (i := 17) rfl)) rfl, ini_M, ⟨by decide, by decide, by decide +kernel⟩, by decide⟩
theorem in_M_hearerTo : Cond.instanceMethod y_M_hearerTo ∈ am_gt ∧ Cond.selects y_M_hearerTo.cls y_M_hearerTo y_M_hearerTo ∈ am_gt := ⟨am_gi (tb_8 (List.mem_of_getElem? (i := 16) rfl)) rfl, am_sel (q := (y_M_hearerTo, 51)) (am_pv_7 (List.mem_of_getElem? (i := 2) rfl))⟩
abbrev b_M_test : ByteArray := prog_14_method_53_code
abbrev y_M_test : MethodName := ⟨"UnseenRingModel", "test", "(I)Z"⟩
theorem ce_M_test : am_callee y_M_test b_M_test 3 (some .boolean) 1 := ⟨am_gi (tb_8 (List.mem_of_getElem? (i := 21) rfl)) rfl, ini_M, ⟨by decide, by decide, by decide +kernel⟩, by decide⟩
theorem in_M_test : Cond.instanceMethod y_M_test ∈ am_gt ∧ Cond.selects y_M_test.cls y_M_test y_M_test ∈ am_gt := ⟨am_gi (tb_8 (List.mem_of_getElem? (i := 20) rfl)) rfl, am_sel (q := (y_M_test, 51)) (am_pv_7 (List.mem_of_getElem? (i := 3) rfl))⟩
abbrev b_M_told : ByteArray := prog_14_method_68_code
abbrev y_M_told : MethodName := ⟨"UnseenRingModel", "told", "(I)I"⟩
theorem ce_M_told : am_callee y_M_told b_M_told 2 (some .int) 1 := ⟨am_gi (tb_8 (List.mem_of_getElem? (i := 25) rfl)) rfl, ini_M, ⟨by decide, by decide, by decide +kernel⟩, by decide⟩
theorem in_M_told : Cond.instanceMethod y_M_told ∈ am_gt ∧ Cond.selects y_M_told.cls y_M_told y_M_told ∈ am_gt := ⟨am_gi (tb_8 (List.mem_of_getElem? (i := 23) rfl)) rfl, am_gi (tb_8 (List.mem_of_getElem? (i := 24) rfl)) rfl⟩
abbrev b_M_areSeen : ByteArray := prog_14_method_67_code
abbrev y_M_areSeen : MethodName := ⟨"UnseenRingModel", "areSeen", "()I"⟩
theorem ce_M_areSeen : am_callee y_M_areSeen b_M_areSeen 3 (some .int) 0 := ⟨am_gi (tb_8 (List.mem_of_getElem? (i := 29) rfl)) rfl, ini_M, ⟨by decide, by decide, by decide +kernel⟩, by decide⟩
theorem in_M_areSeen : Cond.instanceMethod y_M_areSeen ∈ am_gt ∧ Cond.selects y_M_areSeen.cls y_M_areSeen y_M_areSeen ∈ am_gt := ⟨am_gi (tb_8 (List.mem_of_getElem? (i := 28) rfl)) rfl, am_sel (q := (y_M_areSeen, 51)) (am_pv_7 (List.mem_of_getElem? (i := 4) rfl))⟩
abbrev b_M_hearerOf : ByteArray := prog_14_method_62_code
abbrev y_M_hearerOf : MethodName := ⟨"UnseenRingModel", "hearerOf", "(II)I"⟩
theorem ce_M_hearerOf : am_callee y_M_hearerOf b_M_hearerOf 3 (some .int) 2 := ⟨am_gi (tb_8 (List.mem_of_getElem? (i := 33) rfl)) rfl, ini_M, ⟨by decide, by decide, by decide +kernel⟩, by decide⟩
theorem in_M_hearerOf : Cond.instanceMethod y_M_hearerOf ∈ am_gt ∧ Cond.selects y_M_hearerOf.cls y_M_hearerOf y_M_hearerOf ∈ am_gt := ⟨am_gi (tb_8 (List.mem_of_getElem? (i := 32) rfl)) rfl, am_sel (q := (y_M_hearerOf, 51)) (am_pv_7 (List.mem_of_getElem? (i := 5) rfl))⟩
abbrev b_M_dogsUp : ByteArray := prog_14_method_66_code
abbrev y_M_dogsUp : MethodName := ⟨"UnseenRingModel", "dogsUp", "()I"⟩
theorem ce_M_dogsUp : am_callee y_M_dogsUp b_M_dogsUp 3 (some .int) 0 := ⟨am_gi (tb_8 (List.mem_of_getElem? (i := 37) rfl)) rfl, ini_M, ⟨by decide, by decide, by decide +kernel⟩, by decide⟩
theorem in_M_dogsUp : Cond.instanceMethod y_M_dogsUp ∈ am_gt ∧ Cond.selects y_M_dogsUp.cls y_M_dogsUp y_M_dogsUp ∈ am_gt := ⟨am_gi (tb_8 (List.mem_of_getElem? (i := 36) rfl)) rfl, am_sel (q := (y_M_dogsUp, 51)) (am_pv_7 (List.mem_of_getElem? (i := 6) rfl))⟩
abbrev b_M_dogsBy : ByteArray := prog_14_method_65_code
abbrev y_M_dogsBy : MethodName := ⟨"UnseenRingModel", "dogsBy", "(I)I"⟩
theorem ce_M_dogsBy : am_callee y_M_dogsBy b_M_dogsBy 4 (some .int) 1 := ⟨am_gi (tb_8 (List.mem_of_getElem? (i := 41) rfl)) rfl, ini_M, ⟨by decide, by decide, by decide +kernel⟩, by decide⟩
theorem in_M_dogsBy : Cond.instanceMethod y_M_dogsBy ∈ am_gt ∧ Cond.selects y_M_dogsBy.cls y_M_dogsBy y_M_dogsBy ∈ am_gt := ⟨am_gi (tb_8 (List.mem_of_getElem? (i := 40) rfl)) rfl, am_sel (q := (y_M_dogsBy, 51)) (am_pv_7 (List.mem_of_getElem? (i := 7) rfl))⟩
abbrev b_M_farBetween : ByteArray := prog_14_method_63_code
abbrev y_M_farBetween : MethodName := ⟨"UnseenRingModel", "farBetween", "(II)I"⟩
theorem ce_M_farBetween : am_callee y_M_farBetween b_M_farBetween 6 (some .int) 2 := ⟨am_gi (tb_8 (List.mem_of_getElem? (i := 45) rfl)) rfl, ini_M, ⟨by decide, by decide, by decide +kernel⟩, by decide⟩
theorem in_M_farBetween : Cond.instanceMethod y_M_farBetween ∈ am_gt ∧ Cond.selects y_M_farBetween.cls y_M_farBetween y_M_farBetween ∈ am_gt := ⟨am_gi (tb_8 (List.mem_of_getElem? (i := 44) rfl)) rfl, am_sel (q := (y_M_farBetween, 51)) (am_pv_7 (List.mem_of_getElem? (i := 8) rfl))⟩
abbrev b_M_hearer : ByteArray := prog_14_method_69_code
abbrev y_M_hearer : MethodName := ⟨"UnseenRingModel", "hearer", "(II)I"⟩
theorem ce_M_hearer : am_callee y_M_hearer b_M_hearer 3 (some .int) 2 := ⟨am_gi (tb_8 (List.mem_of_getElem? (i := 50) rfl)) rfl, ini_M, ⟨by decide, by decide, by decide +kernel⟩, by decide⟩
theorem in_M_hearer : Cond.instanceMethod y_M_hearer ∈ am_gt ∧ Cond.selects y_M_hearer.cls y_M_hearer y_M_hearer ∈ am_gt := ⟨am_gi (tb_8 (List.mem_of_getElem? (i := 48) rfl)) rfl, am_gi (tb_8 (List.mem_of_getElem? (i := 49) rfl)) rfl⟩
abbrev b_M_isHearer : ByteArray := prog_14_method_59_code
abbrev y_M_isHearer : MethodName := ⟨"UnseenRingModel", "isHearer", "(I)Z"⟩
theorem ce_M_isHearer : am_callee y_M_isHearer b_M_isHearer 2 (some .boolean) 1 := ⟨am_gi (tb_8 (List.mem_of_getElem? (i := 54) rfl)) rfl, ini_M, ⟨by decide, by decide, by decide +kernel⟩, by decide⟩
theorem in_M_isHearer : Cond.instanceMethod y_M_isHearer ∈ am_gt ∧ Cond.selects y_M_isHearer.cls y_M_isHearer y_M_isHearer ∈ am_gt := ⟨am_gi (tb_8 (List.mem_of_getElem? (i := 53) rfl)) rfl, am_sel (q := (y_M_isHearer, 51)) (am_pv_7 (List.mem_of_getElem? (i := 9) rfl))⟩
abbrev b_M_farOf : ByteArray := prog_14_method_64_code
abbrev y_M_farOf : MethodName := ⟨"UnseenRingModel", "farOf", "(I)I"⟩
theorem ce_M_farOf : am_callee y_M_farOf b_M_farOf 2 (some .int) 1 := ⟨am_gi (tb_8 (List.mem_of_getElem? (i := 58) rfl)) rfl, ini_M, ⟨by decide, by decide, by decide +kernel⟩, by decide⟩
theorem in_M_farOf : Cond.instanceMethod y_M_farOf ∈ am_gt ∧ Cond.selects y_M_farOf.cls y_M_farOf y_M_farOf ∈ am_gt := ⟨am_gi (tb_8 (List.mem_of_getElem? (i := 57) rfl)) rfl, am_sel (q := (y_M_farOf, 51)) (am_pv_7 (List.mem_of_getElem? (i := 10) rfl))⟩
abbrev b_M_dog : ByteArray := prog_14_method_70_code
abbrev y_M_dog : MethodName := ⟨"UnseenRingModel", "dog", "(II)I"⟩
theorem ce_M_dog : am_callee y_M_dog b_M_dog 3 (some .int) 2 := ⟨am_gi (tb_8 (List.mem_of_getElem? (i := 62) rfl)) rfl, ini_M, ⟨by decide, by decide, by decide +kernel⟩, by decide⟩
theorem in_M_dog : Cond.instanceMethod y_M_dog ∈ am_gt ∧ Cond.selects y_M_dog.cls y_M_dog y_M_dog ∈ am_gt := ⟨am_gi (tb_8 (List.mem_of_getElem? (i := 60) rfl)) rfl, am_gi (tb_8 (List.mem_of_getElem? (i := 61) rfl)) rfl⟩
abbrev b_M_cell : ByteArray := prog_14_method_72_code
abbrev y_M_cell : MethodName := ⟨"UnseenRingModel", "cell", "(II)I"⟩
theorem ce_M_cell : am_callee y_M_cell b_M_cell 3 (some .int) 2 := ⟨am_gi (tb_8 (List.mem_of_getElem? (i := 66) rfl)) rfl, ini_M, ⟨by decide, by decide, by decide +kernel⟩, by decide⟩
theorem in_M_cell : Cond.instanceMethod y_M_cell ∈ am_gt ∧ Cond.selects y_M_cell.cls y_M_cell y_M_cell ∈ am_gt := ⟨am_gi (tb_8 (List.mem_of_getElem? (i := 64) rfl)) rfl, am_gi (tb_8 (List.mem_of_getElem? (i := 65) rfl)) rfl⟩
abbrev b_M_isCell : ByteArray := prog_14_method_57_code
abbrev y_M_isCell : MethodName := ⟨"UnseenRingModel", "isCell", "(I)Z"⟩
theorem ce_M_isCell : am_callee y_M_isCell b_M_isCell 2 (some .boolean) 1 := ⟨am_gi (tb_8 (List.mem_of_getElem? (i := 70) rfl)) rfl, ini_M, ⟨by decide, by decide, by decide +kernel⟩, by decide⟩
theorem in_M_isCell : Cond.instanceMethod y_M_isCell ∈ am_gt ∧ Cond.selects y_M_isCell.cls y_M_isCell y_M_isCell ∈ am_gt := ⟨am_gi (tb_8 (List.mem_of_getElem? (i := 69) rfl)) rfl, am_sel (q := (y_M_isCell, 51)) (am_pv_7 (List.mem_of_getElem? (i := 11) rfl))⟩
abbrev b_M_hearersBy : ByteArray := prog_14_method_71_code
abbrev y_M_hearersBy : MethodName := ⟨"UnseenRingModel", "hearersBy", "(II)I"⟩
theorem ce_M_hearersBy : am_callee y_M_hearersBy b_M_hearersBy 5 (some .int) 2 := ⟨am_gi (tb_8 (List.mem_of_getElem? (i := 74) rfl)) rfl, ini_M, ⟨by decide, by decide, by decide +kernel⟩, by decide⟩
theorem in_M_hearersBy : Cond.instanceMethod y_M_hearersBy ∈ am_gt ∧ Cond.selects y_M_hearersBy.cls y_M_hearersBy y_M_hearersBy ∈ am_gt := ⟨am_gi (tb_8 (List.mem_of_getElem? (i := 73) rfl)) rfl, am_sel (q := (y_M_hearersBy, 51)) (am_pv_7 (List.mem_of_getElem? (i := 12) rfl))⟩
abbrev b_M_likers : ByteArray := prog_14_method_74_code
abbrev y_M_likers : MethodName := ⟨"UnseenRingModel", "likers", "(I)I"⟩
theorem ce_M_likers : am_callee y_M_likers b_M_likers 2 (some .int) 1 := ⟨am_gi (tb_8 (List.mem_of_getElem? (i := 78) rfl)) rfl, ini_M, ⟨by decide, by decide, by decide +kernel⟩, by decide⟩
theorem in_M_likers : Cond.instanceMethod y_M_likers ∈ am_gt ∧ Cond.selects y_M_likers.cls y_M_likers y_M_likers ∈ am_gt := ⟨am_gi (tb_8 (List.mem_of_getElem? (i := 76) rfl)) rfl, am_gi (tb_8 (List.mem_of_getElem? (i := 77) rfl)) rfl⟩
abbrev b_M_isTune : ByteArray := prog_14_method_58_code
abbrev y_M_isTune : MethodName := ⟨"UnseenRingModel", "isTune", "(I)Z"⟩
theorem ce_M_isTune : am_callee y_M_isTune b_M_isTune 2 (some .boolean) 1 := ⟨am_gi (tb_8 (List.mem_of_getElem? (i := 82) rfl)) rfl, ini_M, ⟨by decide, by decide, by decide +kernel⟩, by decide⟩
theorem in_M_isTune : Cond.instanceMethod y_M_isTune ∈ am_gt ∧ Cond.selects y_M_isTune.cls y_M_isTune y_M_isTune ∈ am_gt := ⟨am_gi (tb_8 (List.mem_of_getElem? (i := 81) rfl)) rfl, am_sel (q := (y_M_isTune, 51)) (am_pv_7 (List.mem_of_getElem? (i := 13) rfl))⟩
abbrev b_M_likersOf : ByteArray := prog_14_method_73_code
abbrev y_M_likersOf : MethodName := ⟨"UnseenRingModel", "likersOf", "(I)I"⟩
theorem ce_M_likersOf : am_callee y_M_likersOf b_M_likersOf 4 (some .int) 1 := ⟨am_gi (tb_8 (List.mem_of_getElem? (i := 86) rfl)) rfl, ini_M, ⟨by decide, by decide, by decide +kernel⟩, by decide⟩
theorem in_M_likersOf : Cond.instanceMethod y_M_likersOf ∈ am_gt ∧ Cond.selects y_M_likersOf.cls y_M_likersOf y_M_likersOf ∈ am_gt := ⟨am_gi (tb_8 (List.mem_of_getElem? (i := 85) rfl)) rfl, am_sel (q := (y_M_likersOf, 51)) (am_pv_7 (List.mem_of_getElem? (i := 14) rfl))⟩
abbrev b_M_play : ByteArray := prog_14_method_77_code
abbrev y_M_play : MethodName := ⟨"UnseenRingModel", "play", "(I)I"⟩
theorem ce_M_play : am_callee y_M_play b_M_play 2 (some .int) 1 := ⟨am_gi (tb_8 (List.mem_of_getElem? (i := 90) rfl)) rfl, ini_M, ⟨by decide, by decide, by decide +kernel⟩, by decide⟩
theorem in_M_play : Cond.instanceMethod y_M_play ∈ am_gt ∧ Cond.selects y_M_play.cls y_M_play y_M_play ∈ am_gt := ⟨am_gi (tb_8 (List.mem_of_getElem? (i := 88) rfl)) rfl, am_gi (tb_8 (List.mem_of_getElem? (i := 89) rfl)) rfl⟩
abbrev b_M_plays : ByteArray := prog_14_method_76_code
abbrev y_M_plays : MethodName := ⟨"UnseenRingModel", "plays", "(I)I"⟩
theorem ce_M_plays : am_callee y_M_plays b_M_plays 5 (some .int) 1 := ⟨am_gi (tb_8 (List.mem_of_getElem? (i := 94) rfl)) rfl, ini_M, ⟨by decide, by decide, by decide +kernel⟩, by decide⟩
theorem in_M_plays : Cond.instanceMethod y_M_plays ∈ am_gt ∧ Cond.selects y_M_plays.cls y_M_plays y_M_plays ∈ am_gt := ⟨am_gi (tb_8 (List.mem_of_getElem? (i := 93) rfl)) rfl, am_sel (q := (y_M_plays, 51)) (am_pv_7 (List.mem_of_getElem? (i := 15) rfl))⟩
abbrev b_M_nearer : ByteArray := prog_14_method_75_code
abbrev y_M_nearer : MethodName := ⟨"UnseenRingModel", "nearer", "(I)I"⟩
theorem ce_M_nearer : am_callee y_M_nearer b_M_nearer 5 (some .int) 1 := ⟨am_gi (tb_8 (List.mem_of_getElem? (i := 98) rfl)) rfl, ini_M, ⟨by decide, by decide, by decide +kernel⟩, by decide⟩
theorem in_M_nearer : Cond.instanceMethod y_M_nearer ∈ am_gt ∧ Cond.selects y_M_nearer.cls y_M_nearer y_M_nearer ∈ am_gt := ⟨am_gi (tb_8 (List.mem_of_getElem? (i := 97) rfl)) rfl, am_sel (q := (y_M_nearer, 51)) (am_pv_8 (List.mem_of_getElem? (i := 0) rfl))⟩
abbrev b_M_grind : ByteArray := prog_14_method_79_code
abbrev y_M_grind : MethodName := ⟨"UnseenRingModel", "grind", "(I)I"⟩
theorem ce_M_grind : am_callee y_M_grind b_M_grind 3 (some .int) 1 := ⟨am_gi (tb_8 (List.mem_of_getElem? (i := 102) rfl)) rfl, ini_M, ⟨by decide, by decide, by decide +kernel⟩, by decide⟩
theorem in_M_grind : Cond.instanceMethod y_M_grind ∈ am_gt ∧ Cond.selects y_M_grind.cls y_M_grind y_M_grind ∈ am_gt := ⟨am_gi (tb_8 (List.mem_of_getElem? (i := 100) rfl)) rfl, am_gi (tb_8 (List.mem_of_getElem? (i := 101) rfl)) rfl⟩
abbrev b_M_grinds : ByteArray := prog_14_method_78_code
abbrev y_M_grinds : MethodName := ⟨"UnseenRingModel", "grinds", "(I)Z"⟩
theorem ce_M_grinds : am_callee y_M_grinds b_M_grinds 3 (some .boolean) 1 := ⟨am_gi (tb_8 (List.mem_of_getElem? (i := 106) rfl)) rfl, ini_M, ⟨by decide, by decide, by decide +kernel⟩, by decide⟩
theorem in_M_grinds : Cond.instanceMethod y_M_grinds ∈ am_gt ∧ Cond.selects y_M_grinds.cls y_M_grinds y_M_grinds ∈ am_gt := ⟨am_gi (tb_8 (List.mem_of_getElem? (i := 105) rfl)) rfl, am_sel (q := (y_M_grinds, 51)) (am_pv_8 (List.mem_of_getElem? (i := 1) rfl))⟩
abbrev b_M_throwAt : ByteArray := prog_14_method_81_code
abbrev y_M_throwAt : MethodName := ⟨"UnseenRingModel", "throwAt", "(I)I"⟩
theorem ce_M_throwAt : am_callee y_M_throwAt b_M_throwAt 3 (some .int) 1 := ⟨am_gi (tb_8 (List.mem_of_getElem? (i := 110) rfl)) rfl, ini_M, ⟨by decide, by decide, by decide +kernel⟩, by decide⟩
theorem in_M_throwAt : Cond.instanceMethod y_M_throwAt ∈ am_gt ∧ Cond.selects y_M_throwAt.cls y_M_throwAt y_M_throwAt ∈ am_gt := ⟨am_gi (tb_8 (List.mem_of_getElem? (i := 108) rfl)) rfl, am_gi (tb_8 (List.mem_of_getElem? (i := 109) rfl)) rfl⟩
abbrev b_M_hits : ByteArray := prog_14_method_80_code
abbrev y_M_hits : MethodName := ⟨"UnseenRingModel", "hits", "(I)I"⟩
theorem ce_M_hits : am_callee y_M_hits b_M_hits 4 (some .int) 1 := ⟨am_gi (tb_8 (List.mem_of_getElem? (i := 114) rfl)) rfl, ini_M, ⟨by decide, by decide, by decide +kernel⟩, by decide⟩
theorem in_M_hits : Cond.instanceMethod y_M_hits ∈ am_gt ∧ Cond.selects y_M_hits.cls y_M_hits y_M_hits ∈ am_gt := ⟨am_gi (tb_8 (List.mem_of_getElem? (i := 113) rfl)) rfl, am_sel (q := (y_M_hits, 51)) (am_pv_8 (List.mem_of_getElem? (i := 2) rfl))⟩
abbrev b_M_brush : ByteArray := prog_14_method_83_code
abbrev y_M_brush : MethodName := ⟨"UnseenRingModel", "brush", "()I"⟩
theorem ce_M_brush : am_callee y_M_brush b_M_brush 2 (some .int) 0 := ⟨am_gi (tb_8 (List.mem_of_getElem? (i := 118) rfl)) rfl, ini_M, ⟨by decide, by decide, by decide +kernel⟩, by decide⟩
theorem in_M_brush : Cond.instanceMethod y_M_brush ∈ am_gt ∧ Cond.selects y_M_brush.cls y_M_brush y_M_brush ∈ am_gt := ⟨am_gi (tb_8 (List.mem_of_getElem? (i := 116) rfl)) rfl, am_gi (tb_8 (List.mem_of_getElem? (i := 117) rfl)) rfl⟩
abbrev b_M_brushes : ByteArray := prog_14_method_82_code
abbrev y_M_brushes : MethodName := ⟨"UnseenRingModel", "brushes", "()I"⟩
theorem ce_M_brushes : am_callee y_M_brushes b_M_brushes 3 (some .int) 0 := ⟨am_gi (tb_8 (List.mem_of_getElem? (i := 122) rfl)) rfl, ini_M, ⟨by decide, by decide, by decide +kernel⟩, by decide⟩
theorem in_M_brushes : Cond.instanceMethod y_M_brushes ∈ am_gt ∧ Cond.selects y_M_brushes.cls y_M_brushes y_M_brushes ∈ am_gt := ⟨am_gi (tb_8 (List.mem_of_getElem? (i := 121) rfl)) rfl, am_sel (q := (y_M_brushes, 51)) (am_pv_8 (List.mem_of_getElem? (i := 3) rfl))⟩
abbrev b_M_bits : ByteArray := prog_14_method_61_code
abbrev y_M_bits : MethodName := ⟨"UnseenRingModel", "bits", "(I)I"⟩
theorem ce_M_bits : am_callee y_M_bits b_M_bits 3 (some .int) 1 := ⟨am_gi (tb_8 (List.mem_of_getElem? (i := 125) rfl)) rfl, ini_M, ⟨by decide, by decide, by decide +kernel⟩, by decide⟩
theorem st_M_bits : Cond.static y_M_bits ∈ am_gt := am_gi (tb_8 (List.mem_of_getElem? (i := 124) rfl)) rfl
abbrev b_M_send : ByteArray := prog_14_method_85_code
abbrev y_M_send : MethodName := ⟨"UnseenRingModel", "send", "(II)I"⟩
theorem ce_M_send : am_callee y_M_send b_M_send 4 (some .int) 2 := ⟨am_gi (tb_8 (List.mem_of_getElem? (i := 129) rfl)) rfl, ini_M, ⟨by decide, by decide, by decide +kernel⟩, by decide⟩
theorem in_M_send : Cond.instanceMethod y_M_send ∈ am_gt ∧ Cond.selects y_M_send.cls y_M_send y_M_send ∈ am_gt := ⟨am_gi (tb_8 (List.mem_of_getElem? (i := 127) rfl)) rfl, am_gi (tb_8 (List.mem_of_getElem? (i := 128) rfl)) rfl⟩
abbrev b_M_sends : ByteArray := prog_14_method_84_code
abbrev y_M_sends : MethodName := ⟨"UnseenRingModel", "sends", "(II)Z"⟩
theorem ce_M_sends : am_callee y_M_sends b_M_sends 4 (some .boolean) 2 := ⟨am_gi (tb_8 (List.mem_of_getElem? (i := 133) rfl)) rfl, ini_M, ⟨by decide, by decide, by decide +kernel⟩, by decide⟩
theorem in_M_sends : Cond.instanceMethod y_M_sends ∈ am_gt ∧ Cond.selects y_M_sends.cls y_M_sends y_M_sends ∈ am_gt := ⟨am_gi (tb_8 (List.mem_of_getElem? (i := 132) rfl)) rfl, am_sel (q := (y_M_sends, 51)) (am_pv_8 (List.mem_of_getElem? (i := 4) rfl))⟩
abbrev b_M_give : ByteArray := prog_14_method_86_code
abbrev y_M_give : MethodName := ⟨"UnseenRingModel", "give", "(II)I"⟩
theorem ce_M_give : am_callee y_M_give b_M_give 4 (some .int) 2 := ⟨am_gi (tb_8 (List.mem_of_getElem? (i := 137) rfl)) rfl, ini_M, ⟨by decide, by decide, by decide +kernel⟩, by decide⟩
theorem in_M_give : Cond.instanceMethod y_M_give ∈ am_gt ∧ Cond.selects y_M_give.cls y_M_give y_M_give ∈ am_gt := ⟨am_gi (tb_8 (List.mem_of_getElem? (i := 135) rfl)) rfl, am_gi (tb_8 (List.mem_of_getElem? (i := 136) rfl)) rfl⟩
abbrev b_M_isFrom : ByteArray := prog_14_method_18_code
abbrev y_M_isFrom : MethodName := ⟨"UnseenRingModel", "isFrom", "(JJJ)Z"⟩
theorem ce_M_isFrom : am_callee y_M_isFrom b_M_isFrom 6 (some .boolean) 3 := ⟨am_gi (tb_8 (List.mem_of_getElem? (i := 141) rfl)) rfl, ini_M, ⟨by decide, by decide, by decide +kernel⟩, by decide⟩
theorem st_M_isFrom : Cond.static y_M_isFrom ∈ am_gt := am_gi (tb_8 (List.mem_of_getElem? (i := 140) rfl)) rfl
abbrev b_M_teach : ByteArray := prog_14_method_87_code
abbrev y_M_teach : MethodName := ⟨"UnseenRingModel", "teach", "(IIZ)Z"⟩
theorem ce_M_teach : am_callee y_M_teach b_M_teach 4 (some .boolean) 3 := ⟨am_gi (tb_8 (List.mem_of_getElem? (i := 145) rfl)) rfl, ini_M, ⟨by decide, by decide, by decide +kernel⟩, by decide⟩
theorem in_M_teach : Cond.instanceMethod y_M_teach ∈ am_gt ∧ Cond.selects y_M_teach.cls y_M_teach y_M_teach ∈ am_gt := ⟨am_gi (tb_8 (List.mem_of_getElem? (i := 143) rfl)) rfl, am_gi (tb_8 (List.mem_of_getElem? (i := 144) rfl)) rfl⟩
abbrev b_M_come : ByteArray := prog_14_method_88_code
abbrev y_M_come : MethodName := ⟨"UnseenRingModel", "come", "(I)I"⟩
theorem ce_M_come : am_callee y_M_come b_M_come 3 (some .int) 1 := ⟨am_gi (tb_8 (List.mem_of_getElem? (i := 149) rfl)) rfl, ini_M, ⟨by decide, by decide, by decide +kernel⟩, by decide⟩
theorem in_M_come : Cond.instanceMethod y_M_come ∈ am_gt ∧ Cond.selects y_M_come.cls y_M_come y_M_come ∈ am_gt := ⟨am_gi (tb_8 (List.mem_of_getElem? (i := 147) rfl)) rfl, am_gi (tb_8 (List.mem_of_getElem? (i := 148) rfl)) rfl⟩
abbrev b_M_empty : ByteArray := prog_14_method_90_code
abbrev y_M_empty : MethodName := ⟨"UnseenRingModel", "empty", "()I"⟩
theorem ce_M_empty : am_callee y_M_empty b_M_empty 2 (some .int) 0 := ⟨am_gi (tb_8 (List.mem_of_getElem? (i := 153) rfl)) rfl, ini_M, ⟨by decide, by decide, by decide +kernel⟩, by decide⟩
theorem in_M_empty : Cond.instanceMethod y_M_empty ∈ am_gt ∧ Cond.selects y_M_empty.cls y_M_empty y_M_empty ∈ am_gt := ⟨am_gi (tb_8 (List.mem_of_getElem? (i := 151) rfl)) rfl, am_gi (tb_8 (List.mem_of_getElem? (i := 152) rfl)) rfl⟩
abbrev b_M_empties : ByteArray := prog_14_method_89_code
abbrev y_M_empties : MethodName := ⟨"UnseenRingModel", "empties", "()I"⟩
theorem ce_M_empties : am_callee y_M_empties b_M_empties 2 (some .int) 0 := ⟨am_gi (tb_8 (List.mem_of_getElem? (i := 157) rfl)) rfl, ini_M, ⟨by decide, by decide, by decide +kernel⟩, by decide⟩
theorem in_M_empties : Cond.instanceMethod y_M_empties ∈ am_gt ∧ Cond.selects y_M_empties.cls y_M_empties y_M_empties ∈ am_gt := ⟨am_gi (tb_8 (List.mem_of_getElem? (i := 156) rfl)) rfl, am_sel (q := (y_M_empties, 51)) (am_pv_8 (List.mem_of_getElem? (i := 5) rfl))⟩
abbrev b_M_rule : ByteArray := prog_14_method_91_code
abbrev y_M_rule : MethodName := ⟨"UnseenRingModel", "rule", "(I)Z"⟩
theorem ce_M_rule : am_callee y_M_rule b_M_rule 2 (some .boolean) 1 := ⟨am_gi (tb_8 (List.mem_of_getElem? (i := 161) rfl)) rfl, ini_M, ⟨by decide, by decide, by decide +kernel⟩, by decide⟩
theorem in_M_rule : Cond.instanceMethod y_M_rule ∈ am_gt ∧ Cond.selects y_M_rule.cls y_M_rule y_M_rule ∈ am_gt := ⟨am_gi (tb_8 (List.mem_of_getElem? (i := 159) rfl)) rfl, am_gi (tb_8 (List.mem_of_getElem? (i := 160) rfl)) rfl⟩
abbrev b_M_takings : ByteArray := prog_14_method_97_code
abbrev y_M_takings : MethodName := ⟨"UnseenRingModel", "takings", "(II)I"⟩
theorem ce_M_takings : am_callee y_M_takings b_M_takings 3 (some .int) 2 := ⟨am_gi (tb_8 (List.mem_of_getElem? (i := 166) rfl)) rfl, ini_M, ⟨by decide, by decide, by decide +kernel⟩, by decide⟩
theorem in_M_takings : Cond.instanceMethod y_M_takings ∈ am_gt ∧ Cond.selects y_M_takings.cls y_M_takings y_M_takings ∈ am_gt := ⟨am_gi (tb_8 (List.mem_of_getElem? (i := 164) rfl)) rfl, am_gi (tb_8 (List.mem_of_getElem? (i := 165) rfl)) rfl⟩
abbrev b_M_isPlay : ByteArray := prog_14_method_96_code
abbrev y_M_isPlay : MethodName := ⟨"UnseenRingModel", "isPlay", "(II)Z"⟩
theorem ce_M_isPlay : am_callee y_M_isPlay b_M_isPlay 3 (some .boolean) 2 := ⟨am_gi (tb_8 (List.mem_of_getElem? (i := 170) rfl)) rfl, ini_M, ⟨by decide, by decide, by decide +kernel⟩, by decide⟩
theorem in_M_isPlay : Cond.instanceMethod y_M_isPlay ∈ am_gt ∧ Cond.selects y_M_isPlay.cls y_M_isPlay y_M_isPlay ∈ am_gt := ⟨am_gi (tb_8 (List.mem_of_getElem? (i := 169) rfl)) rfl, am_sel (q := (y_M_isPlay, 51)) (am_pv_8 (List.mem_of_getElem? (i := 6) rfl))⟩
abbrev b_M_comesBy : ByteArray := prog_14_method_95_code
abbrev y_M_comesBy : MethodName := ⟨"UnseenRingModel", "comesBy", "(III)I"⟩
theorem ce_M_comesBy : am_callee y_M_comesBy b_M_comesBy 6 (some .int) 3 := ⟨am_gi (tb_8 (List.mem_of_getElem? (i := 175) rfl)) rfl, ini_M, ⟨by decide, by decide, by decide +kernel⟩, by decide⟩
theorem in_M_comesBy : Cond.instanceMethod y_M_comesBy ∈ am_gt ∧ Cond.selects y_M_comesBy.cls y_M_comesBy y_M_comesBy ∈ am_gt := ⟨am_gi (tb_8 (List.mem_of_getElem? (i := 174) rfl)) rfl, am_sel (q := (y_M_comesBy, 51)) (am_pv_8 (List.mem_of_getElem? (i := 7) rfl))⟩
abbrev b_M_keeps : ByteArray := prog_14_method_93_code
abbrev y_M_keeps : MethodName := ⟨"UnseenRingModel", "keeps", "(I)V"⟩
theorem ce_M_keeps : am_callee y_M_keeps b_M_keeps 3 (none) 1 := ⟨am_gi (tb_8 (List.mem_of_getElem? (i := 179) rfl)) rfl, ini_M, ⟨by decide, by decide, by decide +kernel⟩, by decide⟩
theorem in_M_keeps : Cond.instanceMethod y_M_keeps ∈ am_gt ∧ Cond.selects y_M_keeps.cls y_M_keeps y_M_keeps ∈ am_gt := ⟨am_gi (tb_8 (List.mem_of_getElem? (i := 178) rfl)) rfl, am_sel (q := (y_M_keeps, 51)) (am_pv_8 (List.mem_of_getElem? (i := 8) rfl))⟩
abbrev b_M_restores : ByteArray := prog_14_method_94_code
abbrev y_M_restores : MethodName := ⟨"UnseenRingModel", "restores", "(I)V"⟩
theorem ce_M_restores : am_callee y_M_restores b_M_restores 3 (none) 1 := ⟨am_gi (tb_8 (List.mem_of_getElem? (i := 183) rfl)) rfl, ini_M, ⟨by decide, by decide, by decide +kernel⟩, by decide⟩
theorem in_M_restores : Cond.instanceMethod y_M_restores ∈ am_gt ∧ Cond.selects y_M_restores.cls y_M_restores y_M_restores ∈ am_gt := ⟨am_gi (tb_8 (List.mem_of_getElem? (i := 182) rfl)) rfl, am_sel (q := (y_M_restores, 51)) (am_pv_8 (List.mem_of_getElem? (i := 9) rfl))⟩
abbrev b_M_pitch : ByteArray := prog_14_method_98_code
abbrev y_M_pitch : MethodName := ⟨"UnseenRingModel", "pitch", "(III)I"⟩
theorem ce_M_pitch : am_callee y_M_pitch b_M_pitch 4 (some .int) 3 := ⟨am_gi (tb_8 (List.mem_of_getElem? (i := 187) rfl)) rfl, ini_M, ⟨by decide, by decide, by decide +kernel⟩, by decide⟩
theorem in_M_pitch : Cond.instanceMethod y_M_pitch ∈ am_gt ∧ Cond.selects y_M_pitch.cls y_M_pitch y_M_pitch ∈ am_gt := ⟨am_gi (tb_8 (List.mem_of_getElem? (i := 185) rfl)) rfl, am_gi (tb_8 (List.mem_of_getElem? (i := 186) rfl)) rfl⟩
abbrev b_M_bestPitch : ByteArray := prog_14_method_99_code
abbrev y_M_bestPitch : MethodName := ⟨"UnseenRingModel", "bestPitch", "(II)I"⟩
theorem ce_M_bestPitch : am_callee y_M_bestPitch b_M_bestPitch 5 (some .int) 2 := ⟨am_gi (tb_8 (List.mem_of_getElem? (i := 191) rfl)) rfl, ini_M, ⟨by decide, by decide, by decide +kernel⟩, by decide⟩
theorem in_M_bestPitch : Cond.instanceMethod y_M_bestPitch ∈ am_gt ∧ Cond.selects y_M_bestPitch.cls y_M_bestPitch y_M_bestPitch ∈ am_gt := ⟨am_gi (tb_8 (List.mem_of_getElem? (i := 189) rfl)) rfl, am_gi (tb_8 (List.mem_of_getElem? (i := 190) rfl)) rfl⟩
abbrev b_M_soon : ByteArray := prog_14_method_100_code
abbrev y_M_soon : MethodName := ⟨"UnseenRingModel", "soon", "(I)I"⟩
theorem ce_M_soon : am_callee y_M_soon b_M_soon 3 (some .int) 1 := ⟨am_gi (tb_8 (List.mem_of_getElem? (i := 195) rfl)) rfl, ini_M, ⟨by decide, by decide, by decide +kernel⟩, by decide⟩
theorem in_M_soon : Cond.instanceMethod y_M_soon ∈ am_gt ∧ Cond.selects y_M_soon.cls y_M_soon y_M_soon ∈ am_gt := ⟨am_gi (tb_8 (List.mem_of_getElem? (i := 193) rfl)) rfl, am_gi (tb_8 (List.mem_of_getElem? (i := 194) rfl)) rfl⟩
abbrev b_M_gather : ByteArray := prog_14_method_104_code
abbrev y_M_gather : MethodName := ⟨"UnseenRingModel", "gather", "(I)I"⟩
theorem ce_M_gather : am_callee y_M_gather b_M_gather 3 (some .int) 1 := ⟨am_gi (tb_8 (List.mem_of_getElem? (i := 199) rfl)) rfl, ini_M, ⟨by decide, by decide, by decide +kernel⟩, by decide⟩
theorem in_M_gather : Cond.instanceMethod y_M_gather ∈ am_gt ∧ Cond.selects y_M_gather.cls y_M_gather y_M_gather ∈ am_gt := ⟨am_gi (tb_8 (List.mem_of_getElem? (i := 197) rfl)) rfl, am_gi (tb_8 (List.mem_of_getElem? (i := 198) rfl)) rfl⟩
abbrev b_M_isGather : ByteArray := prog_14_method_103_code
abbrev y_M_isGather : MethodName := ⟨"UnseenRingModel", "isGather", "(I)Z"⟩
theorem ce_M_isGather : am_callee y_M_isGather b_M_isGather 2 (some .boolean) 1 := ⟨am_gi (tb_8 (List.mem_of_getElem? (i := 203) rfl)) rfl, ini_M, ⟨by decide, by decide, by decide +kernel⟩, by decide⟩
theorem in_M_isGather : Cond.instanceMethod y_M_isGather ∈ am_gt ∧ Cond.selects y_M_isGather.cls y_M_isGather y_M_isGather ∈ am_gt := ⟨am_gi (tb_8 (List.mem_of_getElem? (i := 202) rfl)) rfl, am_sel (q := (y_M_isGather, 51)) (am_pv_8 (List.mem_of_getElem? (i := 10) rfl))⟩
abbrev b_M_areHearers : ByteArray := prog_14_method_60_code
abbrev y_M_areHearers : MethodName := ⟨"UnseenRingModel", "areHearers", "(J)Z"⟩
theorem ce_M_areHearers : am_callee y_M_areHearers b_M_areHearers 3 (some .boolean) 1 := ⟨am_gi (tb_8 (List.mem_of_getElem? (i := 207) rfl)) rfl, ini_M, ⟨by decide, by decide, by decide +kernel⟩, by decide⟩
theorem in_M_areHearers : Cond.instanceMethod y_M_areHearers ∈ am_gt ∧ Cond.selects y_M_areHearers.cls y_M_areHearers y_M_areHearers ∈ am_gt := ⟨am_gi (tb_8 (List.mem_of_getElem? (i := 206) rfl)) rfl, am_sel (q := (y_M_areHearers, 51)) (am_pv_8 (List.mem_of_getElem? (i := 11) rfl))⟩
abbrev b_M_laysGather : ByteArray := prog_14_method_102_code
abbrev y_M_laysGather : MethodName := ⟨"UnseenRingModel", "laysGather", "(I)I"⟩
theorem ce_M_laysGather : am_callee y_M_laysGather b_M_laysGather 7 (some .int) 1 := ⟨am_gi (tb_8 (List.mem_of_getElem? (i := 211) rfl)) rfl, ini_M, ⟨by decide, by decide, by decide +kernel⟩, by decide⟩
theorem in_M_laysGather : Cond.instanceMethod y_M_laysGather ∈ am_gt ∧ Cond.selects y_M_laysGather.cls y_M_laysGather y_M_laysGather ∈ am_gt := ⟨am_gi (tb_8 (List.mem_of_getElem? (i := 210) rfl)) rfl, am_sel (q := (y_M_laysGather, 51)) (am_pv_8 (List.mem_of_getElem? (i := 12) rfl))⟩
abbrev b_M_behindTune : ByteArray := prog_14_method_101_code
abbrev y_M_behindTune : MethodName := ⟨"UnseenRingModel", "behindTune", "(II)I"⟩
theorem ce_M_behindTune : am_callee y_M_behindTune b_M_behindTune 9 (some .int) 2 := ⟨am_gi (tb_8 (List.mem_of_getElem? (i := 216) rfl)) rfl, ini_M, ⟨by decide, by decide, by decide +kernel⟩, by decide⟩
theorem in_M_behindTune : Cond.instanceMethod y_M_behindTune ∈ am_gt ∧ Cond.selects y_M_behindTune.cls y_M_behindTune y_M_behindTune ∈ am_gt := ⟨am_gi (tb_8 (List.mem_of_getElem? (i := 215) rfl)) rfl, am_sel (q := (y_M_behindTune, 51)) (am_pv_8 (List.mem_of_getElem? (i := 13) rfl))⟩
abbrev b_M_gatherAt : ByteArray := prog_14_method_105_code
abbrev y_M_gatherAt : MethodName := ⟨"UnseenRingModel", "gatherAt", "(II)I"⟩
theorem ce_M_gatherAt : am_callee y_M_gatherAt b_M_gatherAt 6 (some .int) 2 := ⟨am_gi (tb_8 (List.mem_of_getElem? (i := 220) rfl)) rfl, ini_M, ⟨by decide, by decide, by decide +kernel⟩, by decide⟩
theorem in_M_gatherAt : Cond.instanceMethod y_M_gatherAt ∈ am_gt ∧ Cond.selects y_M_gatherAt.cls y_M_gatherAt y_M_gatherAt ∈ am_gt := ⟨am_gi (tb_8 (List.mem_of_getElem? (i := 218) rfl)) rfl, am_gi (tb_8 (List.mem_of_getElem? (i := 219) rfl)) rfl⟩
abbrev b_M_explain : ByteArray := prog_14_method_109_code
abbrev y_M_explain : MethodName := ⟨"UnseenRingModel", "explain", "(I)I"⟩
theorem ce_M_explain : am_callee y_M_explain b_M_explain 3 (some .int) 1 := ⟨am_gi (tb_8 (List.mem_of_getElem? (i := 224) rfl)) rfl, ini_M, ⟨by decide, by decide, by decide +kernel⟩, by decide⟩
theorem in_M_explain : Cond.instanceMethod y_M_explain ∈ am_gt ∧ Cond.selects y_M_explain.cls y_M_explain y_M_explain ∈ am_gt := ⟨am_gi (tb_8 (List.mem_of_getElem? (i := 222) rfl)) rfl, am_gi (tb_8 (List.mem_of_getElem? (i := 223) rfl)) rfl⟩
abbrev b_M_areDogs : ByteArray := prog_14_method_106_code
abbrev y_M_areDogs : MethodName := ⟨"UnseenRingModel", "areDogs", "(J)Z"⟩
theorem ce_M_areDogs : am_callee y_M_areDogs b_M_areDogs 3 (some .boolean) 1 := ⟨am_gi (tb_8 (List.mem_of_getElem? (i := 228) rfl)) rfl, ini_M, ⟨by decide, by decide, by decide +kernel⟩, by decide⟩
theorem in_M_areDogs : Cond.instanceMethod y_M_areDogs ∈ am_gt ∧ Cond.selects y_M_areDogs.cls y_M_areDogs y_M_areDogs ∈ am_gt := ⟨am_gi (tb_8 (List.mem_of_getElem? (i := 227) rfl)) rfl, am_sel (q := (y_M_areDogs, 51)) (am_pv_8 (List.mem_of_getElem? (i := 14) rfl))⟩
abbrev b_M_laysPlacings : ByteArray := prog_14_method_108_code
abbrev y_M_laysPlacings : MethodName := ⟨"UnseenRingModel", "laysPlacings", "(II)V"⟩
theorem ce_M_laysPlacings : am_callee y_M_laysPlacings b_M_laysPlacings 5 (none) 2 := ⟨am_gi (tb_8 (List.mem_of_getElem? (i := 232) rfl)) rfl, ini_M, ⟨by decide, by decide, by decide +kernel⟩, by decide⟩
theorem in_M_laysPlacings : Cond.instanceMethod y_M_laysPlacings ∈ am_gt ∧ Cond.selects y_M_laysPlacings.cls y_M_laysPlacings y_M_laysPlacings ∈ am_gt := ⟨am_gi (tb_8 (List.mem_of_getElem? (i := 231) rfl)) rfl, am_sel (q := (y_M_laysPlacings, 51)) (am_pv_8 (List.mem_of_getElem? (i := 15) rfl))⟩
abbrev b_M_counts : ByteArray := prog_14_method_107_code
abbrev y_M_counts : MethodName := ⟨"UnseenRingModel", "counts", "(I)V"⟩
theorem ce_M_counts : am_callee y_M_counts b_M_counts 5 (none) 1 := ⟨am_gi (tb_8 (List.mem_of_getElem? (i := 236) rfl)) rfl, ini_M, ⟨by decide, by decide, by decide +kernel⟩, by decide⟩
theorem in_M_counts : Cond.instanceMethod y_M_counts ∈ am_gt ∧ Cond.selects y_M_counts.cls y_M_counts y_M_counts ∈ am_gt := ⟨am_gi (tb_8 (List.mem_of_getElem? (i := 235) rfl)) rfl, am_sel (q := (y_M_counts, 51)) (am_pv_9 (List.mem_of_getElem? (i := 0) rfl))⟩
abbrev b_M_placings : ByteArray := prog_14_method_112_code
abbrev y_M_placings : MethodName := ⟨"UnseenRingModel", "placings", "(II)I"⟩
theorem ce_M_placings : am_callee y_M_placings b_M_placings 3 (some .int) 2 := ⟨am_gi (tb_9 (List.mem_of_getElem? (i := 0) rfl)) rfl, ini_M, ⟨by decide, by decide, by decide +kernel⟩, by decide⟩
theorem in_M_placings : Cond.instanceMethod y_M_placings ∈ am_gt ∧ Cond.selects y_M_placings.cls y_M_placings y_M_placings ∈ am_gt := ⟨am_gi (tb_8 (List.mem_of_getElem? (i := 238) rfl)) rfl, am_gi (tb_8 (List.mem_of_getElem? (i := 239) rfl)) rfl⟩
abbrev b_M_isPlacing : ByteArray := prog_14_method_111_code
abbrev y_M_isPlacing : MethodName := ⟨"UnseenRingModel", "isPlacing", "(II)Z"⟩
theorem ce_M_isPlacing : am_callee y_M_isPlacing b_M_isPlacing 3 (some .boolean) 2 := ⟨am_gi (tb_9 (List.mem_of_getElem? (i := 4) rfl)) rfl, ini_M, ⟨by decide, by decide, by decide +kernel⟩, by decide⟩
theorem in_M_isPlacing : Cond.instanceMethod y_M_isPlacing ∈ am_gt ∧ Cond.selects y_M_isPlacing.cls y_M_isPlacing y_M_isPlacing ∈ am_gt := ⟨am_gi (tb_9 (List.mem_of_getElem? (i := 3) rfl)) rfl, am_sel (q := (y_M_isPlacing, 51)) (am_pv_9 (List.mem_of_getElem? (i := 1) rfl))⟩
abbrev b_M_placingsOf : ByteArray := prog_14_method_110_code
abbrev y_M_placingsOf : MethodName := ⟨"UnseenRingModel", "placingsOf", "(II)I"⟩
theorem ce_M_placingsOf : am_callee y_M_placingsOf b_M_placingsOf 6 (some .int) 2 := ⟨am_gi (tb_9 (List.mem_of_getElem? (i := 9) rfl)) rfl, ini_M, ⟨by decide, by decide, by decide +kernel⟩, by decide⟩
theorem in_M_placingsOf : Cond.instanceMethod y_M_placingsOf ∈ am_gt ∧ Cond.selects y_M_placingsOf.cls y_M_placingsOf y_M_placingsOf ∈ am_gt := ⟨am_gi (tb_9 (List.mem_of_getElem? (i := 8) rfl)) rfl, am_sel (q := (y_M_placingsOf, 51)) (am_pv_9 (List.mem_of_getElem? (i := 2) rfl))⟩
abbrev b_M_oddsThat : ByteArray := prog_14_method_113_code
abbrev y_M_oddsThat : MethodName := ⟨"UnseenRingModel", "oddsThat", "(III)Z"⟩
theorem ce_M_oddsThat : am_callee y_M_oddsThat b_M_oddsThat 4 (some .boolean) 3 := ⟨am_gi (tb_9 (List.mem_of_getElem? (i := 13) rfl)) rfl, ini_M, ⟨by decide, by decide, by decide +kernel⟩, by decide⟩
theorem in_M_oddsThat : Cond.instanceMethod y_M_oddsThat ∈ am_gt ∧ Cond.selects y_M_oddsThat.cls y_M_oddsThat y_M_oddsThat ∈ am_gt := ⟨am_gi (tb_9 (List.mem_of_getElem? (i := 11) rfl)) rfl, am_gi (tb_9 (List.mem_of_getElem? (i := 12) rfl)) rfl⟩
abbrev b_M_tellsBy : ByteArray := prog_14_method_10_code
abbrev y_M_tellsBy : MethodName := ⟨"UnseenRingModel", "tellsBy", "(JJ)Z"⟩
theorem ce_M_tellsBy : am_callee y_M_tellsBy b_M_tellsBy 11 (some .boolean) 2 := ⟨am_gi (tb_9 (List.mem_of_getElem? (i := 17) rfl)) rfl, ini_M, ⟨by decide, by decide, by decide +kernel⟩, by decide⟩
theorem in_M_tellsBy : Cond.instanceMethod y_M_tellsBy ∈ am_gt ∧ Cond.selects y_M_tellsBy.cls y_M_tellsBy y_M_tellsBy ∈ am_gt := ⟨am_gi (tb_9 (List.mem_of_getElem? (i := 16) rfl)) rfl, am_sel (q := (y_M_tellsBy, 51)) (am_pv_9 (List.mem_of_getElem? (i := 3) rfl))⟩
abbrev b_M_aim : ByteArray := prog_14_method_114_code
abbrev y_M_aim : MethodName := ⟨"UnseenRingModel", "aim", "(II)I"⟩
theorem ce_M_aim : am_callee y_M_aim b_M_aim 5 (some .int) 2 := ⟨am_gi (tb_9 (List.mem_of_getElem? (i := 21) rfl)) rfl, ini_M, ⟨by decide, by decide, by decide +kernel⟩, by decide⟩
theorem in_M_aim : Cond.instanceMethod y_M_aim ∈ am_gt ∧ Cond.selects y_M_aim.cls y_M_aim y_M_aim ∈ am_gt := ⟨am_gi (tb_9 (List.mem_of_getElem? (i := 19) rfl)) rfl, am_gi (tb_9 (List.mem_of_getElem? (i := 20) rfl)) rfl⟩
abbrev b_M_cover : ByteArray := prog_14_method_118_code
abbrev y_M_cover : MethodName := ⟨"UnseenRingModel", "cover", "(II)I"⟩
theorem ce_M_cover : am_callee y_M_cover b_M_cover 4 (some .int) 2 := ⟨am_gi (tb_9 (List.mem_of_getElem? (i := 25) rfl)) rfl, ini_M, ⟨by decide, by decide, by decide +kernel⟩, by decide⟩
theorem in_M_cover : Cond.instanceMethod y_M_cover ∈ am_gt ∧ Cond.selects y_M_cover.cls y_M_cover y_M_cover ∈ am_gt := ⟨am_gi (tb_9 (List.mem_of_getElem? (i := 23) rfl)) rfl, am_gi (tb_9 (List.mem_of_getElem? (i := 24) rfl)) rfl⟩
abbrev b_M_wrongCells : ByteArray := prog_14_method_115_code
abbrev y_M_wrongCells : MethodName := ⟨"UnseenRingModel", "wrongCells", "(II)I"⟩
theorem ce_M_wrongCells : am_callee y_M_wrongCells b_M_wrongCells 4 (some .int) 2 := ⟨am_gi (tb_9 (List.mem_of_getElem? (i := 29) rfl)) rfl, ini_M, ⟨by decide, by decide, by decide +kernel⟩, by decide⟩
theorem in_M_wrongCells : Cond.instanceMethod y_M_wrongCells ∈ am_gt ∧ Cond.selects y_M_wrongCells.cls y_M_wrongCells y_M_wrongCells ∈ am_gt := ⟨am_gi (tb_9 (List.mem_of_getElem? (i := 28) rfl)) rfl, am_sel (q := (y_M_wrongCells, 51)) (am_pv_9 (List.mem_of_getElem? (i := 4) rfl))⟩
abbrev b_M_laysThrows : ByteArray := prog_14_method_117_code
abbrev y_M_laysThrows : MethodName := ⟨"UnseenRingModel", "laysThrows", "(II)V"⟩
theorem ce_M_laysThrows : am_callee y_M_laysThrows b_M_laysThrows 9 (none) 2 := ⟨am_gi (tb_9 (List.mem_of_getElem? (i := 34) rfl)) rfl, ini_M, ⟨by decide, by decide, by decide +kernel⟩, by decide⟩
theorem in_M_laysThrows : Cond.instanceMethod y_M_laysThrows ∈ am_gt ∧ Cond.selects y_M_laysThrows.cls y_M_laysThrows y_M_laysThrows ∈ am_gt := ⟨am_gi (tb_9 (List.mem_of_getElem? (i := 33) rfl)) rfl, am_sel (q := (y_M_laysThrows, 51)) (am_pv_9 (List.mem_of_getElem? (i := 5) rfl))⟩
abbrev b_M_hitFrom : ByteArray := prog_14_method_116_code
abbrev y_M_hitFrom : MethodName := ⟨"UnseenRingModel", "hitFrom", "(III)I"⟩
theorem ce_M_hitFrom : am_callee y_M_hitFrom b_M_hitFrom 6 (some .int) 3 := ⟨am_gi (tb_9 (List.mem_of_getElem? (i := 38) rfl)) rfl, ini_M, ⟨by decide, by decide, by decide +kernel⟩, by decide⟩
theorem in_M_hitFrom : Cond.instanceMethod y_M_hitFrom ∈ am_gt ∧ Cond.selects y_M_hitFrom.cls y_M_hitFrom y_M_hitFrom ∈ am_gt := ⟨am_gi (tb_9 (List.mem_of_getElem? (i := 37) rfl)) rfl, am_sel (q := (y_M_hitFrom, 51)) (am_pv_9 (List.mem_of_getElem? (i := 6) rfl))⟩
abbrev b_M_coverAt : ByteArray := prog_14_method_119_code
abbrev y_M_coverAt : MethodName := ⟨"UnseenRingModel", "coverAt", "(III)I"⟩
theorem ce_M_coverAt : am_callee y_M_coverAt b_M_coverAt 9 (some .int) 3 := ⟨am_gi (tb_9 (List.mem_of_getElem? (i := 42) rfl)) rfl, ini_M, ⟨by decide, by decide, by decide +kernel⟩, by decide⟩
theorem in_M_coverAt : Cond.instanceMethod y_M_coverAt ∈ am_gt ∧ Cond.selects y_M_coverAt.cls y_M_coverAt y_M_coverAt ∈ am_gt := ⟨am_gi (tb_9 (List.mem_of_getElem? (i := 40) rfl)) rfl, am_gi (tb_9 (List.mem_of_getElem? (i := 41) rfl)) rfl⟩
abbrev b_M_fits : ByteArray := prog_14_method_122_code
abbrev y_M_fits : MethodName := ⟨"UnseenRingModel", "fits", "(III)I"⟩
theorem ce_M_fits : am_callee y_M_fits b_M_fits 7 (some .int) 3 := ⟨am_gi (tb_9 (List.mem_of_getElem? (i := 46) rfl)) rfl, ini_M, ⟨by decide, by decide, by decide +kernel⟩, by decide⟩
theorem in_M_fits : Cond.instanceMethod y_M_fits ∈ am_gt ∧ Cond.selects y_M_fits.cls y_M_fits y_M_fits ∈ am_gt := ⟨am_gi (tb_9 (List.mem_of_getElem? (i := 44) rfl)) rfl, am_gi (tb_9 (List.mem_of_getElem? (i := 45) rfl)) rfl⟩
abbrev b_M_wrongSeen : ByteArray := prog_14_method_120_code
abbrev y_M_wrongSeen : MethodName := ⟨"UnseenRingModel", "wrongSeen", "(III)I"⟩
theorem ce_M_wrongSeen : am_callee y_M_wrongSeen b_M_wrongSeen 6 (some .int) 3 := ⟨am_gi (tb_9 (List.mem_of_getElem? (i := 50) rfl)) rfl, ini_M, ⟨by decide, by decide, by decide +kernel⟩, by decide⟩
theorem in_M_wrongSeen : Cond.instanceMethod y_M_wrongSeen ∈ am_gt ∧ Cond.selects y_M_wrongSeen.cls y_M_wrongSeen y_M_wrongSeen ∈ am_gt := ⟨am_gi (tb_9 (List.mem_of_getElem? (i := 49) rfl)) rfl, am_sel (q := (y_M_wrongSeen, 51)) (am_pv_9 (List.mem_of_getElem? (i := 7) rfl))⟩
abbrev b_M_isLiking : ByteArray := prog_14_method_121_code
abbrev y_M_isLiking : MethodName := ⟨"UnseenRingModel", "isLiking", "(IIII)Z"⟩
theorem ce_M_isLiking : am_callee y_M_isLiking b_M_isLiking 8 (some .boolean) 4 := ⟨am_gi (tb_9 (List.mem_of_getElem? (i := 54) rfl)) rfl, ini_M, ⟨by decide, by decide, by decide +kernel⟩, by decide⟩
theorem in_M_isLiking : Cond.instanceMethod y_M_isLiking ∈ am_gt ∧ Cond.selects y_M_isLiking.cls y_M_isLiking y_M_isLiking ∈ am_gt := ⟨am_gi (tb_9 (List.mem_of_getElem? (i := 53) rfl)) rfl, am_sel (q := (y_M_isLiking, 51)) (am_pv_9 (List.mem_of_getElem? (i := 8) rfl))⟩
abbrev b_M_sure : ByteArray := prog_14_method_123_code
abbrev y_M_sure : MethodName := ⟨"UnseenRingModel", "sure", "(III)I"⟩
theorem ce_M_sure : am_callee y_M_sure b_M_sure 8 (some .int) 3 := ⟨am_gi (tb_9 (List.mem_of_getElem? (i := 58) rfl)) rfl, ini_M, ⟨by decide, by decide, by decide +kernel⟩, by decide⟩
theorem in_M_sure : Cond.instanceMethod y_M_sure ∈ am_gt ∧ Cond.selects y_M_sure.cls y_M_sure y_M_sure ∈ am_gt := ⟨am_gi (tb_9 (List.mem_of_getElem? (i := 56) rfl)) rfl, am_gi (tb_9 (List.mem_of_getElem? (i := 57) rfl)) rfl⟩
abbrev b_M_orNone : ByteArray := prog_14_method_9_code
abbrev y_M_orNone : MethodName := ⟨"UnseenRingModel", "orNone", "(I)I"⟩
theorem ce_M_orNone : am_callee y_M_orNone b_M_orNone 2 (some .int) 1 := ⟨am_gi (tb_9 (List.mem_of_getElem? (i := 62) rfl)) rfl, ini_M, ⟨by decide, by decide, by decide +kernel⟩, by decide⟩
theorem in_M_orNone : Cond.instanceMethod y_M_orNone ∈ am_gt ∧ Cond.selects y_M_orNone.cls y_M_orNone y_M_orNone ∈ am_gt := ⟨am_gi (tb_9 (List.mem_of_getElem? (i := 61) rfl)) rfl, am_sel (q := (y_M_orNone, 51)) (am_pv_9 (List.mem_of_getElem? (i := 9) rfl))⟩
abbrev b_M_rounds : ByteArray := prog_14_method_128_code
abbrev y_M_rounds : MethodName := ⟨"UnseenRingModel", "rounds", "(II)I"⟩
theorem ce_M_rounds : am_callee y_M_rounds b_M_rounds 4 (some .int) 2 := ⟨am_gi (tb_9 (List.mem_of_getElem? (i := 66) rfl)) rfl, ini_M, ⟨by decide, by decide, by decide +kernel⟩, by decide⟩
theorem in_M_rounds : Cond.instanceMethod y_M_rounds ∈ am_gt ∧ Cond.selects y_M_rounds.cls y_M_rounds y_M_rounds ∈ am_gt := ⟨am_gi (tb_9 (List.mem_of_getElem? (i := 64) rfl)) rfl, am_gi (tb_9 (List.mem_of_getElem? (i := 65) rfl)) rfl⟩
abbrev b_M_isKnowing : ByteArray := prog_14_method_127_code
abbrev y_M_isKnowing : MethodName := ⟨"UnseenRingModel", "isKnowing", "(II)Z"⟩
theorem ce_M_isKnowing : am_callee y_M_isKnowing b_M_isKnowing 3 (some .boolean) 2 := ⟨am_gi (tb_9 (List.mem_of_getElem? (i := 70) rfl)) rfl, ini_M, ⟨by decide, by decide, by decide +kernel⟩, by decide⟩
theorem in_M_isKnowing : Cond.instanceMethod y_M_isKnowing ∈ am_gt ∧ Cond.selects y_M_isKnowing.cls y_M_isKnowing y_M_isKnowing ∈ am_gt := ⟨am_gi (tb_9 (List.mem_of_getElem? (i := 69) rfl)) rfl, am_sel (q := (y_M_isKnowing, 51)) (am_pv_9 (List.mem_of_getElem? (i := 10) rfl))⟩
abbrev b_M_laysWorlds : ByteArray := prog_14_method_125_code
abbrev y_M_laysWorlds : MethodName := ⟨"UnseenRingModel", "laysWorlds", "(I)V"⟩
theorem ce_M_laysWorlds : am_callee y_M_laysWorlds b_M_laysWorlds 3 (none) 1 := ⟨am_gi (tb_9 (List.mem_of_getElem? (i := 74) rfl)) rfl, ini_M, ⟨by decide, by decide, by decide +kernel⟩, by decide⟩
theorem in_M_laysWorlds : Cond.instanceMethod y_M_laysWorlds ∈ am_gt ∧ Cond.selects y_M_laysWorlds.cls y_M_laysWorlds y_M_laysWorlds ∈ am_gt := ⟨am_gi (tb_9 (List.mem_of_getElem? (i := 73) rfl)) rfl, am_sel (q := (y_M_laysWorlds, 51)) (am_pv_9 (List.mem_of_getElem? (i := 11) rfl))⟩
abbrev b_M_knowing : ByteArray := prog_14_method_124_code
abbrev y_M_knowing : MethodName := ⟨"UnseenRingModel", "knowing", "(I)I"⟩
theorem ce_M_knowing : am_callee y_M_knowing b_M_knowing 7 (some .int) 1 := ⟨am_gi (tb_9 (List.mem_of_getElem? (i := 78) rfl)) rfl, ini_M, ⟨by decide, by decide, by decide +kernel⟩, by decide⟩
theorem in_M_knowing : Cond.instanceMethod y_M_knowing ∈ am_gt ∧ Cond.selects y_M_knowing.cls y_M_knowing y_M_knowing ∈ am_gt := ⟨am_gi (tb_9 (List.mem_of_getElem? (i := 77) rfl)) rfl, am_sel (q := (y_M_knowing, 51)) (am_pv_9 (List.mem_of_getElem? (i := 12) rfl))⟩
abbrev b_M_tellsAll : ByteArray := prog_14_method_126_code
abbrev y_M_tellsAll : MethodName := ⟨"UnseenRingModel", "tellsAll", "(I)Z"⟩
theorem ce_M_tellsAll : am_callee y_M_tellsAll b_M_tellsAll 4 (some .boolean) 1 := ⟨am_gi (tb_9 (List.mem_of_getElem? (i := 82) rfl)) rfl, ini_M, ⟨by decide, by decide, by decide +kernel⟩, by decide⟩
theorem in_M_tellsAll : Cond.instanceMethod y_M_tellsAll ∈ am_gt ∧ Cond.selects y_M_tellsAll.cls y_M_tellsAll y_M_tellsAll ∈ am_gt := ⟨am_gi (tb_9 (List.mem_of_getElem? (i := 81) rfl)) rfl, am_sel (q := (y_M_tellsAll, 51)) (am_pv_9 (List.mem_of_getElem? (i := 13) rfl))⟩
abbrev b_M_knowers : ByteArray := prog_14_method_129_code
abbrev y_M_knowers : MethodName := ⟨"UnseenRingModel", "knowers", "(III)I"⟩
theorem ce_M_knowers : am_callee y_M_knowers b_M_knowers 5 (some .int) 3 := ⟨am_gi (tb_9 (List.mem_of_getElem? (i := 86) rfl)) rfl, ini_M, ⟨by decide, by decide, by decide +kernel⟩, by decide⟩
theorem in_M_knowers : Cond.instanceMethod y_M_knowers ∈ am_gt ∧ Cond.selects y_M_knowers.cls y_M_knowers y_M_knowers ∈ am_gt := ⟨am_gi (tb_9 (List.mem_of_getElem? (i := 84) rfl)) rfl, am_gi (tb_9 (List.mem_of_getElem? (i := 85) rfl)) rfl⟩
abbrev b_M_game : ByteArray := prog_14_method_133_code
abbrev y_M_game : MethodName := ⟨"UnseenRingModel", "game", "(I)I"⟩
theorem ce_M_game : am_callee y_M_game b_M_game 2 (some .int) 1 := ⟨am_gi (tb_9 (List.mem_of_getElem? (i := 90) rfl)) rfl, ini_M, ⟨by decide, by decide, by decide +kernel⟩, by decide⟩
theorem in_M_game : Cond.instanceMethod y_M_game ∈ am_gt ∧ Cond.selects y_M_game.cls y_M_game y_M_game ∈ am_gt := ⟨am_gi (tb_9 (List.mem_of_getElem? (i := 88) rfl)) rfl, am_gi (tb_9 (List.mem_of_getElem? (i := 89) rfl)) rfl⟩
abbrev b_M_playing : ByteArray := prog_14_method_132_code
abbrev y_M_playing : MethodName := ⟨"UnseenRingModel", "playing", "(I)I"⟩
theorem ce_M_playing : am_callee y_M_playing b_M_playing 7 (some .int) 1 := ⟨am_gi (tb_9 (List.mem_of_getElem? (i := 94) rfl)) rfl, ini_M, ⟨by decide, by decide, by decide +kernel⟩, by decide⟩
theorem in_M_playing : Cond.instanceMethod y_M_playing ∈ am_gt ∧ Cond.selects y_M_playing.cls y_M_playing y_M_playing ∈ am_gt := ⟨am_gi (tb_9 (List.mem_of_getElem? (i := 93) rfl)) rfl, am_sel (q := (y_M_playing, 51)) (am_pv_9 (List.mem_of_getElem? (i := 14) rfl))⟩
abbrev b_M_beginsAt : ByteArray := prog_14_method_131_code
abbrev y_M_beginsAt : MethodName := ⟨"UnseenRingModel", "beginsAt", "(III)V"⟩
theorem ce_M_beginsAt : am_callee y_M_beginsAt b_M_beginsAt 4 (none) 3 := ⟨am_gi (tb_9 (List.mem_of_getElem? (i := 98) rfl)) rfl, ini_M, ⟨by decide, by decide, by decide +kernel⟩, by decide⟩
theorem in_M_beginsAt : Cond.instanceMethod y_M_beginsAt ∈ am_gt ∧ Cond.selects y_M_beginsAt.cls y_M_beginsAt y_M_beginsAt ∈ am_gt := ⟨am_gi (tb_9 (List.mem_of_getElem? (i := 97) rfl)) rfl, am_sel (q := (y_M_beginsAt, 51)) (am_pv_9 (List.mem_of_getElem? (i := 15) rfl))⟩
abbrev b_M_levelAt : ByteArray := prog_14_method_92_code
abbrev y_M_levelAt : MethodName := ⟨"UnseenRingModel", "levelAt", "(I)I"⟩
theorem ce_M_levelAt : am_callee y_M_levelAt b_M_levelAt 1 (some .int) 1 := ⟨am_gi (tb_9 (List.mem_of_getElem? (i := 101) rfl)) rfl, ini_M, ⟨by decide, by decide, by decide +kernel⟩, by decide⟩
theorem st_M_levelAt : Cond.static y_M_levelAt ∈ am_gt := am_gi (tb_9 (List.mem_of_getElem? (i := 100) rfl)) rfl
abbrev b_M_settles : ByteArray := prog_14_method_130_code
abbrev y_M_settles : MethodName := ⟨"UnseenRingModel", "settles", "(II)V"⟩
theorem ce_M_settles : am_callee y_M_settles b_M_settles 4 (none) 2 := ⟨am_gi (tb_9 (List.mem_of_getElem? (i := 105) rfl)) rfl, ini_M, ⟨by decide, by decide, by decide +kernel⟩, by decide⟩
theorem in_M_settles : Cond.instanceMethod y_M_settles ∈ am_gt ∧ Cond.selects y_M_settles.cls y_M_settles y_M_settles ∈ am_gt := ⟨am_gi (tb_9 (List.mem_of_getElem? (i := 104) rfl)) rfl, am_sel (q := (y_M_settles, 51)) (am_pv_10 (List.mem_of_getElem? (i := 0) rfl))⟩
abbrev b_M_moveOf : ByteArray := prog_14_method_134_code
abbrev y_M_moveOf : MethodName := ⟨"UnseenRingModel", "moveOf", "(I)I"⟩
theorem ce_M_moveOf : am_callee y_M_moveOf b_M_moveOf 2 (some .int) 1 := ⟨am_gi (tb_9 (List.mem_of_getElem? (i := 109) rfl)) rfl, ini_M, ⟨by decide, by decide, by decide +kernel⟩, by decide⟩
theorem in_M_moveOf : Cond.instanceMethod y_M_moveOf ∈ am_gt ∧ Cond.selects y_M_moveOf.cls y_M_moveOf y_M_moveOf ∈ am_gt := ⟨am_gi (tb_9 (List.mem_of_getElem? (i := 107) rfl)) rfl, am_gi (tb_9 (List.mem_of_getElem? (i := 108) rfl)) rfl⟩
abbrev b_M_crowd : ByteArray := prog_14_method_135_code
abbrev y_M_crowd : MethodName := ⟨"UnseenRingModel", "crowd", "(I)Z"⟩
theorem ce_M_crowd : am_callee y_M_crowd b_M_crowd 7 (some .boolean) 1 := ⟨am_gi (tb_9 (List.mem_of_getElem? (i := 113) rfl)) rfl, ini_M, ⟨by decide, by decide, by decide +kernel⟩, by decide⟩
theorem in_M_crowd : Cond.instanceMethod y_M_crowd ∈ am_gt ∧ Cond.selects y_M_crowd.cls y_M_crowd y_M_crowd ∈ am_gt := ⟨am_gi (tb_9 (List.mem_of_getElem? (i := 111) rfl)) rfl, am_gi (tb_9 (List.mem_of_getElem? (i := 112) rfl)) rfl⟩
abbrev b_M_share : ByteArray := prog_14_method_137_code
abbrev y_M_share : MethodName := ⟨"UnseenRingModel", "share", "(I)Z"⟩
theorem ce_M_share : am_callee y_M_share b_M_share 2 (some .boolean) 1 := ⟨am_gi (tb_9 (List.mem_of_getElem? (i := 118) rfl)) rfl, ini_M, ⟨by decide, by decide, by decide +kernel⟩, by decide⟩
theorem in_M_share : Cond.instanceMethod y_M_share ∈ am_gt ∧ Cond.selects y_M_share.cls y_M_share y_M_share ∈ am_gt := ⟨am_gi (tb_9 (List.mem_of_getElem? (i := 116) rfl)) rfl, am_gi (tb_9 (List.mem_of_getElem? (i := 117) rfl)) rfl⟩
abbrev b_M_allCoins : ByteArray := prog_14_method_136_code
abbrev y_M_allCoins : MethodName := ⟨"UnseenRingModel", "allCoins", "()I"⟩
theorem ce_M_allCoins : am_callee y_M_allCoins b_M_allCoins 3 (some .int) 0 := ⟨am_gi (tb_9 (List.mem_of_getElem? (i := 122) rfl)) rfl, ini_M, ⟨by decide, by decide, by decide +kernel⟩, by decide⟩
theorem in_M_allCoins : Cond.instanceMethod y_M_allCoins ∈ am_gt ∧ Cond.selects y_M_allCoins.cls y_M_allCoins y_M_allCoins ∈ am_gt := ⟨am_gi (tb_9 (List.mem_of_getElem? (i := 121) rfl)) rfl, am_sel (q := (y_M_allCoins, 51)) (am_pv_10 (List.mem_of_getElem? (i := 1) rfl))⟩
abbrev b_M_copyCells : ByteArray := prog_14_method_138_code
abbrev y_M_copyCells : MethodName := ⟨"UnseenRingModel", "copyCells", "(I)I"⟩
theorem ce_M_copyCells : am_callee y_M_copyCells b_M_copyCells 3 (some .int) 1 := ⟨am_gi (tb_9 (List.mem_of_getElem? (i := 126) rfl)) rfl, ini_M, ⟨by decide, by decide, by decide +kernel⟩, by decide⟩
theorem in_M_copyCells : Cond.instanceMethod y_M_copyCells ∈ am_gt ∧ Cond.selects y_M_copyCells.cls y_M_copyCells y_M_copyCells ∈ am_gt := ⟨am_gi (tb_9 (List.mem_of_getElem? (i := 124) rfl)) rfl, am_gi (tb_9 (List.mem_of_getElem? (i := 125) rfl)) rfl⟩
abbrev b_M_live : ByteArray := prog_14_method_147_code
abbrev y_M_live : MethodName := ⟨"UnseenRingModel", "live", "(I)I"⟩
theorem ce_M_live : am_callee y_M_live b_M_live 3 (some .int) 1 := ⟨am_gi (tb_9 (List.mem_of_getElem? (i := 130) rfl)) rfl, ini_M, ⟨by decide, by decide, by decide +kernel⟩, by decide⟩
theorem in_M_live : Cond.instanceMethod y_M_live ∈ am_gt ∧ Cond.selects y_M_live.cls y_M_live y_M_live ∈ am_gt := ⟨am_gi (tb_9 (List.mem_of_getElem? (i := 128) rfl)) rfl, am_gi (tb_9 (List.mem_of_getElem? (i := 129) rfl)) rfl⟩
abbrev b_M_lives : ByteArray := prog_14_method_146_code
abbrev y_M_lives : MethodName := ⟨"UnseenRingModel", "lives", "(I)V"⟩
theorem ce_M_lives : am_callee y_M_lives b_M_lives 4 (none) 1 := ⟨am_gi (tb_9 (List.mem_of_getElem? (i := 135) rfl)) rfl, ini_M, ⟨by decide, by decide, by decide +kernel⟩, by decide⟩
theorem in_M_lives : Cond.instanceMethod y_M_lives ∈ am_gt ∧ Cond.selects y_M_lives.cls y_M_lives y_M_lives ∈ am_gt := ⟨am_gi (tb_9 (List.mem_of_getElem? (i := 134) rfl)) rfl, am_sel (q := (y_M_lives, 51)) (am_pv_10 (List.mem_of_getElem? (i := 2) rfl))⟩
abbrev b_M_does : ByteArray := prog_14_method_143_code
abbrev y_M_does : MethodName := ⟨"UnseenRingModel", "does", "(I)Z"⟩
theorem ce_M_does : am_callee y_M_does b_M_does 3 (some .boolean) 1 := ⟨am_gi (tb_9 (List.mem_of_getElem? (i := 139) rfl)) rfl, ini_M, ⟨by decide, by decide, by decide +kernel⟩, by decide⟩
theorem in_M_does : Cond.instanceMethod y_M_does ∈ am_gt ∧ Cond.selects y_M_does.cls y_M_does y_M_does ∈ am_gt := ⟨am_gi (tb_9 (List.mem_of_getElem? (i := 138) rfl)) rfl, am_sel (q := (y_M_does, 51)) (am_pv_10 (List.mem_of_getElem? (i := 3) rfl))⟩
abbrev b_M_playsBy : ByteArray := prog_14_method_140_code
abbrev y_M_playsBy : MethodName := ⟨"UnseenRingModel", "playsBy", "(I)Z"⟩
theorem ce_M_playsBy : am_callee y_M_playsBy b_M_playsBy 2 (some .boolean) 1 := ⟨am_gi (tb_9 (List.mem_of_getElem? (i := 143) rfl)) rfl, ini_M, ⟨by decide, by decide, by decide +kernel⟩, by decide⟩
theorem in_M_playsBy : Cond.instanceMethod y_M_playsBy ∈ am_gt ∧ Cond.selects y_M_playsBy.cls y_M_playsBy y_M_playsBy ∈ am_gt := ⟨am_gi (tb_9 (List.mem_of_getElem? (i := 142) rfl)) rfl, am_sel (q := (y_M_playsBy, 51)) (am_pv_10 (List.mem_of_getElem? (i := 4) rfl))⟩
abbrev b_M_hitsBy : ByteArray := prog_14_method_141_code
abbrev y_M_hitsBy : MethodName := ⟨"UnseenRingModel", "hitsBy", "(I)Z"⟩
theorem ce_M_hitsBy : am_callee y_M_hitsBy b_M_hitsBy 2 (some .boolean) 1 := ⟨am_gi (tb_9 (List.mem_of_getElem? (i := 147) rfl)) rfl, ini_M, ⟨by decide, by decide, by decide +kernel⟩, by decide⟩
theorem in_M_hitsBy : Cond.instanceMethod y_M_hitsBy ∈ am_gt ∧ Cond.selects y_M_hitsBy.cls y_M_hitsBy y_M_hitsBy ∈ am_gt := ⟨am_gi (tb_9 (List.mem_of_getElem? (i := 146) rfl)) rfl, am_sel (q := (y_M_hitsBy, 51)) (am_pv_10 (List.mem_of_getElem? (i := 5) rfl))⟩
abbrev b_M_doesAny : ByteArray := prog_14_method_142_code
abbrev y_M_doesAny : MethodName := ⟨"UnseenRingModel", "doesAny", "()Z"⟩
theorem ce_M_doesAny : am_callee y_M_doesAny b_M_doesAny 3 (some .boolean) 0 := ⟨am_gi (tb_9 (List.mem_of_getElem? (i := 151) rfl)) rfl, ini_M, ⟨by decide, by decide, by decide +kernel⟩, by decide⟩
theorem in_M_doesAny : Cond.instanceMethod y_M_doesAny ∈ am_gt ∧ Cond.selects y_M_doesAny.cls y_M_doesAny y_M_doesAny ∈ am_gt := ⟨am_gi (tb_9 (List.mem_of_getElem? (i := 150) rfl)) rfl, am_sel (q := (y_M_doesAny, 51)) (am_pv_10 (List.mem_of_getElem? (i := 6) rfl))⟩
abbrev b_M_draw : ByteArray := prog_14_method_139_code
abbrev y_M_draw : MethodName := ⟨"UnseenRingModel", "draw", "(I)I"⟩
theorem ce_M_draw : am_callee y_M_draw b_M_draw 2 (some .int) 1 := ⟨am_gi (tb_9 (List.mem_of_getElem? (i := 155) rfl)) rfl, ini_M, ⟨by decide, by decide, by decide +kernel⟩, by decide⟩
theorem in_M_draw : Cond.instanceMethod y_M_draw ∈ am_gt ∧ Cond.selects y_M_draw.cls y_M_draw y_M_draw ∈ am_gt := ⟨am_gi (tb_9 (List.mem_of_getElem? (i := 154) rfl)) rfl, am_sel (q := (y_M_draw, 51)) (am_pv_10 (List.mem_of_getElem? (i := 7) rfl))⟩
abbrev b_M_holds : ByteArray := prog_14_method_144_code
abbrev y_M_holds : MethodName := ⟨"UnseenRingModel", "holds", "(I)Z"⟩
theorem ce_M_holds : am_callee y_M_holds b_M_holds 5 (some .boolean) 1 := ⟨am_gi (tb_9 (List.mem_of_getElem? (i := 160) rfl)) rfl, ini_M, ⟨by decide, by decide, by decide +kernel⟩, by decide⟩
theorem in_M_holds : Cond.instanceMethod y_M_holds ∈ am_gt ∧ Cond.selects y_M_holds.cls y_M_holds y_M_holds ∈ am_gt := ⟨am_gi (tb_9 (List.mem_of_getElem? (i := 159) rfl)) rfl, am_sel (q := (y_M_holds, 51)) (am_pv_10 (List.mem_of_getElem? (i := 8) rfl))⟩
abbrev b_M_behindEnds : ByteArray := prog_14_method_145_code
abbrev y_M_behindEnds : MethodName := ⟨"UnseenRingModel", "behindEnds", "(I)I"⟩
theorem ce_M_behindEnds : am_callee y_M_behindEnds b_M_behindEnds 5 (some .int) 1 := ⟨am_gi (tb_9 (List.mem_of_getElem? (i := 164) rfl)) rfl, ini_M, ⟨by decide, by decide, by decide +kernel⟩, by decide⟩
theorem in_M_behindEnds : Cond.instanceMethod y_M_behindEnds ∈ am_gt ∧ Cond.selects y_M_behindEnds.cls y_M_behindEnds y_M_behindEnds ∈ am_gt := ⟨am_gi (tb_9 (List.mem_of_getElem? (i := 163) rfl)) rfl, am_sel (q := (y_M_behindEnds, 51)) (am_pv_10 (List.mem_of_getElem? (i := 9) rfl))⟩
abbrev b_M_lived : ByteArray := prog_14_method_148_code
abbrev y_M_lived : MethodName := ⟨"UnseenRingModel", "lived", "(I)I"⟩
theorem ce_M_lived : am_callee y_M_lived b_M_lived 2 (some .int) 1 := ⟨am_gi (tb_9 (List.mem_of_getElem? (i := 168) rfl)) rfl, ini_M, ⟨by decide, by decide, by decide +kernel⟩, by decide⟩
theorem in_M_lived : Cond.instanceMethod y_M_lived ∈ am_gt ∧ Cond.selects y_M_lived.cls y_M_lived y_M_lived ∈ am_gt := ⟨am_gi (tb_9 (List.mem_of_getElem? (i := 166) rfl)) rfl, am_gi (tb_9 (List.mem_of_getElem? (i := 167) rfl)) rfl⟩
abbrev b_M_mean : ByteArray := prog_14_method_149_code
abbrev y_M_mean : MethodName := ⟨"UnseenRingModel", "mean", "(II)Z"⟩
theorem ce_M_mean : am_callee y_M_mean b_M_mean 6 (some .boolean) 2 := ⟨am_gi (tb_9 (List.mem_of_getElem? (i := 172) rfl)) rfl, ini_M, ⟨by decide, by decide, by decide +kernel⟩, by decide⟩
theorem in_M_mean : Cond.instanceMethod y_M_mean ∈ am_gt ∧ Cond.selects y_M_mean.cls y_M_mean y_M_mean ∈ am_gt := ⟨am_gi (tb_9 (List.mem_of_getElem? (i := 170) rfl)) rfl, am_gi (tb_9 (List.mem_of_getElem? (i := 171) rfl)) rfl⟩
abbrev b_M_mark : ByteArray := prog_14_method_151_code
abbrev y_M_mark : MethodName := ⟨"UnseenRingModel", "mark", "()I"⟩
theorem ce_M_mark : am_callee y_M_mark b_M_mark 1 (some .int) 0 := ⟨am_gi (tb_9 (List.mem_of_getElem? (i := 176) rfl)) rfl, ini_M, ⟨by decide, by decide, by decide +kernel⟩, by decide⟩
theorem in_M_mark : Cond.instanceMethod y_M_mark ∈ am_gt ∧ Cond.selects y_M_mark.cls y_M_mark y_M_mark ∈ am_gt := ⟨am_gi (tb_9 (List.mem_of_getElem? (i := 174) rfl)) rfl, am_gi (tb_9 (List.mem_of_getElem? (i := 175) rfl)) rfl⟩
abbrev b_M_copies : ByteArray := prog_14_method_150_code
abbrev y_M_copies : MethodName := ⟨"UnseenRingModel", "copies", "(II)V"⟩
theorem ce_M_copies : am_callee y_M_copies b_M_copies 4 (none) 2 := ⟨am_gi (tb_9 (List.mem_of_getElem? (i := 180) rfl)) rfl, ini_M, ⟨by decide, by decide, by decide +kernel⟩, by decide⟩
theorem in_M_copies : Cond.instanceMethod y_M_copies ∈ am_gt ∧ Cond.selects y_M_copies.cls y_M_copies y_M_copies ∈ am_gt := ⟨am_gi (tb_9 (List.mem_of_getElem? (i := 179) rfl)) rfl, am_sel (q := (y_M_copies, 51)) (am_pv_10 (List.mem_of_getElem? (i := 10) rfl))⟩
abbrev b_M_undo : ByteArray := prog_14_method_152_code
abbrev y_M_undo : MethodName := ⟨"UnseenRingModel", "undo", "()I"⟩
theorem ce_M_undo : am_callee y_M_undo b_M_undo 1 (some .int) 0 := ⟨am_gi (tb_9 (List.mem_of_getElem? (i := 184) rfl)) rfl, ini_M, ⟨by decide, by decide, by decide +kernel⟩, by decide⟩
theorem in_M_undo : Cond.instanceMethod y_M_undo ∈ am_gt ∧ Cond.selects y_M_undo.cls y_M_undo y_M_undo ∈ am_gt := ⟨am_gi (tb_9 (List.mem_of_getElem? (i := 182) rfl)) rfl, am_gi (tb_9 (List.mem_of_getElem? (i := 183) rfl)) rfl⟩
abbrev b_Law_law : ByteArray := code
abbrev y_Law_law : MethodName := ⟨"UnseenRingLaw", "law", "([I)Z"⟩
theorem is_copy : Cond.initialized "java/lang/System" ∈ am_gt := am_gi (tb_1 (List.mem_of_getElem? (i := 19) rfl)) rfl
theorem cl_Law_7 : Cond.classLink "UnseenRingLaw" 7 "UnseenRing" ∈ am_gt := am_gi (tb_1 (List.mem_of_getElem? (i := 22) rfl)) rfl
theorem it_U : Cond.instantiable "UnseenRing" 18 ∈ am_gt := am_gi (tb_1 (List.mem_of_getElem? (i := 23) rfl)) rfl
theorem lk_Law_9 : am_link "UnseenRingLaw" 9 y_U_init := Or.inl (am_gi (tb_1 (List.mem_of_getElem? (i := 24) rfl)) rfl)
theorem lo_U_1 : Cond.methodLink "UnseenRing" 1 Lib.objectInit ∈ am_gt := am_gi (tb_1 (List.mem_of_getElem? (i := 27) rfl)) rfl
theorem oi_i : Cond.instanceMethod Lib.objectInit ∈ am_gt := am_gi (tb_1 (List.mem_of_getElem? (i := 28) rfl)) rfl
theorem oi_c : Cond.code Lib.objectInit ⟨#[0xb1]⟩ 1 none ∈ am_gt := am_gi (tb_1 (List.mem_of_getElem? (i := 29) rfl)) rfl
theorem cl_U_9 : Cond.classLink "UnseenRing" 9 "UnseenRing$Tray" ∈ am_gt := am_gi (tb_1 (List.mem_of_getElem? (i := 30) rfl)) rfl
theorem cl_U_15 : Cond.classLink "UnseenRing" 15 "UnseenRing$Tokens" ∈ am_gt := am_gi (tb_1 (List.mem_of_getElem? (i := 32) rfl)) rfl
theorem it_Tokens : Cond.instantiable "UnseenRing$Tokens" 12 ∈ am_gt := am_gi (tb_1 (List.mem_of_getElem? (i := 33) rfl)) rfl
theorem lk_U_17 : am_link "UnseenRing" 17 y_Tokens_init := Or.inl (am_gi (tb_1 (List.mem_of_getElem? (i := 34) rfl)) rfl)
theorem lo_Tokens_3 : Cond.methodLink "UnseenRing$Tokens" 3 Lib.objectInit ∈ am_gt := am_gi (tb_1 (List.mem_of_getElem? (i := 37) rfl)) rfl
theorem lk_Tokens_53 : am_link "UnseenRing$Tokens" 53 y_String_length := Or.inl (am_gi (tb_1 (List.mem_of_getElem? (i := 39) rfl)) rfl)
theorem lk_String_335 : am_link "java/lang/String" 335 y_String_coder := Or.inl (am_gi (tb_1 (List.mem_of_getElem? (i := 43) rfl)) rfl)
theorem fs_String_38 : Cond.fieldLink "java/lang/String" 38 "java/lang/String" "COMPACT_STRINGS" "Z" ∈ am_gt := am_gi (tb_1 (List.mem_of_getElem? (i := 47) rfl)) rfl
theorem lk_Tokens_58 : am_link "UnseenRing$Tokens" 58 y_String_charAt := Or.inl (am_gi (tb_1 (List.mem_of_getElem? (i := 49) rfl)) rfl)
theorem lk_String_492 : am_link "java/lang/String" 492 y_String_isLatin1 := Or.inl (am_gi (tb_1 (List.mem_of_getElem? (i := 53) rfl)) rfl)
theorem lk_String_495 : am_link "java/lang/String" 495 y_StringLatin1_charAt := Or.inl (am_gi (tb_1 (List.mem_of_getElem? (i := 57) rfl)) rfl)
theorem lk_StringLatin1_9 : am_link "java/lang/StringLatin1" 9 y_String_checkIndex := Or.inl (am_gi (tb_1 (List.mem_of_getElem? (i := 60) rfl)) rfl)
theorem fs_String_1053 : Cond.fieldLink "java/lang/String" 1053 "jdk/internal/util/Preconditions" "SIOOBE_FORMATTER" "Ljava/util/function/BiFunction;" ∈ am_gt := am_gi (tb_1 (List.mem_of_getElem? (i := 63) rfl)) rfl
theorem lk_String_1059 : am_link "java/lang/String" 1059 y_Preconditions_checkIndex := Or.inl (am_gi (tb_1 (List.mem_of_getElem? (i := 65) rfl)) rfl)
theorem lk_String_498 : am_link "java/lang/String" 498 y_StringUTF16_charAt := Or.inl (am_gi (tb_1 (List.mem_of_getElem? (i := 68) rfl)) rfl)
theorem lk_StringUTF16_67 : am_link "java/lang/StringUTF16" 67 y_StringUTF16_checkIndex := Or.inl (am_gi (tb_1 (List.mem_of_getElem? (i := 71) rfl)) rfl)
theorem lk_StringUTF16_48 : am_link "java/lang/StringUTF16" 48 y_StringUTF16_length := Or.inl (am_gi (tb_1 (List.mem_of_getElem? (i := 74) rfl)) rfl)
theorem lk_StringUTF16_414 : am_link "java/lang/StringUTF16" 414 y_String_checkIndex := Or.inl (am_gi (tb_1 (List.mem_of_getElem? (i := 77) rfl)) rfl)
theorem lk_StringUTF16_71 : am_link "java/lang/StringUTF16" 71 y_StringUTF16_getChar := Or.inl (am_gi (tb_1 (List.mem_of_getElem? (i := 78) rfl)) rfl)
theorem fs_StringUTF16_44 : Cond.fieldLink "java/lang/StringUTF16" 44 "java/lang/StringUTF16" "$assertionsDisabled" "Z" ∈ am_gt := am_gi (tb_1 (List.mem_of_getElem? (i := 81) rfl)) rfl
theorem fs_StringUTF16_59 : Cond.fieldLink "java/lang/StringUTF16" 59 "java/lang/StringUTF16" "HI_BYTE_SHIFT" "I" ∈ am_gt := am_gi (tb_1 (List.mem_of_getElem? (i := 83) rfl)) rfl
theorem fs_StringUTF16_63 : Cond.fieldLink "java/lang/StringUTF16" 63 "java/lang/StringUTF16" "LO_BYTE_SHIFT" "I" ∈ am_gt := am_gi (tb_1 (List.mem_of_getElem? (i := 85) rfl)) rfl
theorem lk_Tokens_62 : am_link "UnseenRing$Tokens" 62 y_Tokens_withLetter := Or.inl (am_gi (tb_1 (List.mem_of_getElem? (i := 87) rfl)) rfl)
theorem k_Tokens_113 : Cond.constantLong "UnseenRing$Tokens" 113 (32) ∈ am_gt := am_gi (tb_1 (List.mem_of_getElem? (i := 90) rfl)) rfl
theorem f_Tokens_11 : am_fld "UnseenRing$Tokens" 11 9 0 := ⟨_, rfl, by decide, am_gi (tb_1 (List.mem_of_getElem? (i := 91) rfl)) rfl⟩
theorem f_Tokens_15 : am_fld "UnseenRing$Tokens" 15 9 1 := ⟨_, rfl, by decide, am_gi (tb_1 (List.mem_of_getElem? (i := 92) rfl)) rfl⟩
theorem f_Tokens_19 : am_fld "UnseenRing$Tokens" 19 9 2 := ⟨_, rfl, by decide, am_gi (tb_1 (List.mem_of_getElem? (i := 93) rfl)) rfl⟩
theorem f_Tokens_23 : am_fld "UnseenRing$Tokens" 23 9 3 := ⟨_, rfl, by decide, am_gi (tb_1 (List.mem_of_getElem? (i := 94) rfl)) rfl⟩
theorem f_Tokens_26 : am_fld "UnseenRing$Tokens" 26 9 4 := ⟨_, rfl, by decide, am_gi (tb_1 (List.mem_of_getElem? (i := 95) rfl)) rfl⟩
theorem f_Tokens_29 : am_fld "UnseenRing$Tokens" 29 9 5 := ⟨_, rfl, by decide, am_gi (tb_1 (List.mem_of_getElem? (i := 96) rfl)) rfl⟩
theorem f_Tokens_33 : am_fld "UnseenRing$Tokens" 33 9 6 := ⟨_, rfl, by decide, am_gi (tb_1 (List.mem_of_getElem? (i := 97) rfl)) rfl⟩
theorem f_Tokens_36 : am_fld "UnseenRing$Tokens" 36 9 7 := ⟨_, rfl, by decide, am_gi (tb_1 (List.mem_of_getElem? (i := 98) rfl)) rfl⟩
theorem f_U_171 : am_fld "UnseenRing" 171 9 7 := ⟨_, rfl, by decide, am_gi (tb_1 (List.mem_of_getElem? (i := 99) rfl)) rfl⟩
theorem f_Tokens_39 : am_fld "UnseenRing$Tokens" 39 9 8 := ⟨_, rfl, by decide, am_gi (tb_1 (List.mem_of_getElem? (i := 100) rfl)) rfl⟩
theorem f_DaysReader_30 : am_fld "UnseenRing$DaysReader" 30 9 8 := ⟨_, rfl, by decide, am_gi (tb_1 (List.mem_of_getElem? (i := 101) rfl)) rfl⟩
theorem f_SquareReader_32 : am_fld "UnseenRing$SquareReader" 32 9 8 := ⟨_, rfl, by decide, am_gi (tb_1 (List.mem_of_getElem? (i := 102) rfl)) rfl⟩
theorem f_Tokens_42 : am_fld "UnseenRing$Tokens" 42 9 9 := ⟨_, rfl, by decide, am_gi (tb_1 (List.mem_of_getElem? (i := 103) rfl)) rfl⟩
theorem f_SquareReader_40 : am_fld "UnseenRing$SquareReader" 40 9 9 := ⟨_, rfl, by decide, am_gi (tb_1 (List.mem_of_getElem? (i := 104) rfl)) rfl⟩
theorem f_DaysReader_45 : am_fld "UnseenRing$DaysReader" 45 9 9 := ⟨_, rfl, by decide, am_gi (tb_1 (List.mem_of_getElem? (i := 105) rfl)) rfl⟩
theorem f_Tokens_45 : am_fld "UnseenRing$Tokens" 45 9 10 := ⟨_, rfl, by decide, am_gi (tb_1 (List.mem_of_getElem? (i := 106) rfl)) rfl⟩
theorem f_U_196 : am_fld "UnseenRing" 196 9 10 := ⟨_, rfl, by decide, am_gi (tb_1 (List.mem_of_getElem? (i := 107) rfl)) rfl⟩
theorem f_Tokens_48 : am_fld "UnseenRing$Tokens" 48 9 11 := ⟨_, rfl, by decide, am_gi (tb_1 (List.mem_of_getElem? (i := 108) rfl)) rfl⟩
theorem f_U_199 : am_fld "UnseenRing" 199 9 11 := ⟨_, rfl, by decide, am_gi (tb_1 (List.mem_of_getElem? (i := 109) rfl)) rfl⟩
theorem ar_byte : Cond.arrayClass .byte ∈ am_gt := am_gi (tb_1 (List.mem_of_getElem? (i := 135) rfl)) rfl
theorem ar_long : Cond.arrayClass .long ∈ am_gt := am_gi (tb_1 (List.mem_of_getElem? (i := 136) rfl)) rfl
theorem ar_int : Cond.arrayClass .int ∈ am_gt := am_gi (tb_1 (List.mem_of_getElem? (i := 137) rfl)) rfl
theorem cl_U_22 : Cond.classLink "UnseenRing" 22 "UnseenRing$SquareReader" ∈ am_gt := am_gi (tb_1 (List.mem_of_getElem? (i := 138) rfl)) rfl
theorem it_SquareReader : Cond.instantiable "UnseenRing$SquareReader" 3 ∈ am_gt := am_gi (tb_1 (List.mem_of_getElem? (i := 139) rfl)) rfl
theorem lk_U_24 : am_link "UnseenRing" 24 y_SquareReader_init := Or.inr ⟨_, tb_1 (List.mem_of_getElem? (i := 140) rfl)⟩
theorem lo_SquareReader_3 : Cond.methodLink "UnseenRing$SquareReader" 3 Lib.objectInit ∈ am_gt := am_gi (tb_1 (List.mem_of_getElem? (i := 143) rfl)) rfl
theorem f_SquareReader_9 : am_fld "UnseenRing$SquareReader" 9 8 0 := ⟨_, rfl, by decide, am_gi (tb_1 (List.mem_of_getElem? (i := 144) rfl)) rfl⟩
theorem f_SquareReader_15 : am_fld "UnseenRing$SquareReader" 15 8 1 := ⟨_, rfl, by decide, am_gi (tb_1 (List.mem_of_getElem? (i := 145) rfl)) rfl⟩
theorem f_SquareReader_18 : am_fld "UnseenRing$SquareReader" 18 8 2 := ⟨_, rfl, by decide, am_gi (tb_1 (List.mem_of_getElem? (i := 146) rfl)) rfl⟩
theorem cl_U_29 : Cond.classLink "UnseenRing" 29 "UnseenRing$DaysReader" ∈ am_gt := am_gi (tb_1 (List.mem_of_getElem? (i := 154) rfl)) rfl
theorem it_DaysReader : Cond.instantiable "UnseenRing$DaysReader" 2 ∈ am_gt := am_gi (tb_1 (List.mem_of_getElem? (i := 155) rfl)) rfl
theorem lk_U_31 : am_link "UnseenRing" 31 y_DaysReader_init := Or.inr ⟨_, tb_1 (List.mem_of_getElem? (i := 156) rfl)⟩
theorem lo_DaysReader_3 : Cond.methodLink "UnseenRing$DaysReader" 3 Lib.objectInit ∈ am_gt := am_gi (tb_1 (List.mem_of_getElem? (i := 159) rfl)) rfl
theorem f_DaysReader_11 : am_fld "UnseenRing$DaysReader" 11 2 0 := ⟨_, rfl, by decide, am_gi (tb_1 (List.mem_of_getElem? (i := 160) rfl)) rfl⟩
theorem f_DaysReader_15 : am_fld "UnseenRing$DaysReader" 15 2 1 := ⟨_, rfl, by decide, am_gi (tb_1 (List.mem_of_getElem? (i := 161) rfl)) rfl⟩
theorem cl_U_36 : Cond.classLink "UnseenRing" 36 "UnseenRing$Square" ∈ am_gt := am_gi (tb_1 (List.mem_of_getElem? (i := 167) rfl)) rfl
theorem cl_U_42 : Cond.classLink "UnseenRing" 42 "UnseenRing$Life" ∈ am_gt := am_gi (tb_1 (List.mem_of_getElem? (i := 169) rfl)) rfl
theorem it_Life : Cond.instantiable "UnseenRing$Life" 12 ∈ am_gt := am_gi (tb_1 (List.mem_of_getElem? (i := 170) rfl)) rfl
theorem lk_U_44 : am_link "UnseenRing" 44 y_Life_init := Or.inr ⟨_, tb_1 (List.mem_of_getElem? (i := 171) rfl)⟩
theorem lo_Life_3 : Cond.methodLink "UnseenRing$Life" 3 Lib.objectInit ∈ am_gt := am_gi (tb_1 (List.mem_of_getElem? (i := 174) rfl)) rfl
theorem f_Life_11 : am_fld "UnseenRing$Life" 11 4 0 := ⟨_, rfl, by decide, am_gi (tb_1 (List.mem_of_getElem? (i := 175) rfl)) rfl⟩
theorem f_Life_17 : am_fld "UnseenRing$Life" 17 4 1 := ⟨_, rfl, by decide, am_gi (tb_1 (List.mem_of_getElem? (i := 176) rfl)) rfl⟩
theorem f_Life_21 : am_fld "UnseenRing$Life" 21 4 2 := ⟨_, rfl, by decide, am_gi (tb_1 (List.mem_of_getElem? (i := 177) rfl)) rfl⟩
theorem f_Life_24 : am_fld "UnseenRing$Life" 24 4 3 := ⟨_, rfl, by decide, am_gi (tb_1 (List.mem_of_getElem? (i := 178) rfl)) rfl⟩
theorem f_Life_27 : am_fld "UnseenRing$Life" 27 4 4 := ⟨_, rfl, by decide, am_gi (tb_1 (List.mem_of_getElem? (i := 179) rfl)) rfl⟩
theorem f_Life_31 : am_fld "UnseenRing$Life" 31 4 5 := ⟨_, rfl, by decide, am_gi (tb_1 (List.mem_of_getElem? (i := 180) rfl)) rfl⟩
theorem f_Life_34 : am_fld "UnseenRing$Life" 34 4 6 := ⟨_, rfl, by decide, am_gi (tb_1 (List.mem_of_getElem? (i := 181) rfl)) rfl⟩
theorem f_Life_37 : am_fld "UnseenRing$Life" 37 4 7 := ⟨_, rfl, by decide, am_gi (tb_1 (List.mem_of_getElem? (i := 182) rfl)) rfl⟩
theorem f_Life_40 : am_fld "UnseenRing$Life" 40 4 8 := ⟨_, rfl, by decide, am_gi (tb_1 (List.mem_of_getElem? (i := 183) rfl)) rfl⟩
theorem f_Life_43 : am_fld "UnseenRing$Life" 43 4 9 := ⟨_, rfl, by decide, am_gi (tb_1 (List.mem_of_getElem? (i := 184) rfl)) rfl⟩
theorem f_Life_46 : am_fld "UnseenRing$Life" 46 4 10 := ⟨_, rfl, by decide, am_gi (tb_1 (List.mem_of_getElem? (i := 185) rfl)) rfl⟩
theorem f_U_398 : am_fld "UnseenRing" 398 4 10 := ⟨_, rfl, by decide, am_gi (tb_1 (List.mem_of_getElem? (i := 186) rfl)) rfl⟩
theorem f_Life_49 : am_fld "UnseenRing$Life" 49 4 11 := ⟨_, rfl, by decide, am_gi (tb_1 (List.mem_of_getElem? (i := 187) rfl)) rfl⟩
theorem f_U_399 : am_fld "UnseenRing" 399 4 11 := ⟨_, rfl, by decide, am_gi (tb_1 (List.mem_of_getElem? (i := 188) rfl)) rfl⟩
theorem cl_U_52 : Cond.classLink "UnseenRing" 52 "UnseenRing$Rows" ∈ am_gt := am_gi (tb_1 (List.mem_of_getElem? (i := 214) rfl)) rfl
theorem it_Rows : Cond.instantiable "UnseenRing$Rows" 6 ∈ am_gt := am_gi (tb_1 (List.mem_of_getElem? (i := 215) rfl)) rfl
theorem lk_U_54 : am_link "UnseenRing" 54 y_Rows_init := Or.inr ⟨_, tb_1 (List.mem_of_getElem? (i := 216) rfl)⟩
theorem lo_Rows_3 : Cond.methodLink "UnseenRing$Rows" 3 Lib.objectInit ∈ am_gt := am_gi (tb_1 (List.mem_of_getElem? (i := 219) rfl)) rfl
theorem f_Rows_11 : am_fld "UnseenRing$Rows" 11 6 0 := ⟨_, rfl, by decide, am_gi (tb_1 (List.mem_of_getElem? (i := 220) rfl)) rfl⟩
theorem f_Rows_15 : am_fld "UnseenRing$Rows" 15 6 1 := ⟨_, rfl, by decide, am_gi (tb_1 (List.mem_of_getElem? (i := 221) rfl)) rfl⟩
theorem f_Rows_18 : am_fld "UnseenRing$Rows" 18 6 2 := ⟨_, rfl, by decide, am_gi (tb_1 (List.mem_of_getElem? (i := 222) rfl)) rfl⟩
theorem f_Rows_21 : am_fld "UnseenRing$Rows" 21 6 3 := ⟨_, rfl, by decide, am_gi (tb_1 (List.mem_of_getElem? (i := 223) rfl)) rfl⟩
theorem f_Rows_24 : am_fld "UnseenRing$Rows" 24 6 4 := ⟨_, rfl, by decide, am_gi (tb_1 (List.mem_of_getElem? (i := 224) rfl)) rfl⟩
theorem f_Rows_28 : am_fld "UnseenRing$Rows" 28 6 5 := ⟨_, rfl, by decide, am_gi (tb_1 (List.mem_of_getElem? (i := 225) rfl)) rfl⟩
theorem cl_U_59 : Cond.classLink "UnseenRing" 59 "UnseenRing$Placings" ∈ am_gt := am_gi (tb_1 (List.mem_of_getElem? (i := 239) rfl)) rfl
theorem it_Placings : Cond.instantiable "UnseenRing$Placings" 3 ∈ am_gt := am_gi (tb_2 (List.mem_of_getElem? (i := 0) rfl)) rfl
theorem lk_U_61 : am_link "UnseenRing" 61 y_Placings_init := Or.inr ⟨_, tb_2 (List.mem_of_getElem? (i := 1) rfl)⟩
theorem lo_Placings_3 : Cond.methodLink "UnseenRing$Placings" 3 Lib.objectInit ∈ am_gt := am_gi (tb_2 (List.mem_of_getElem? (i := 4) rfl)) rfl
theorem f_Placings_9 : am_fld "UnseenRing$Placings" 9 5 0 := ⟨_, rfl, by decide, am_gi (tb_2 (List.mem_of_getElem? (i := 5) rfl)) rfl⟩
theorem f_Placings_15 : am_fld "UnseenRing$Placings" 15 5 1 := ⟨_, rfl, by decide, am_gi (tb_2 (List.mem_of_getElem? (i := 6) rfl)) rfl⟩
theorem f_Placings_18 : am_fld "UnseenRing$Placings" 18 5 2 := ⟨_, rfl, by decide, am_gi (tb_2 (List.mem_of_getElem? (i := 7) rfl)) rfl⟩
theorem cl_U_66 : Cond.classLink "UnseenRing" 66 "UnseenRing$Covering" ∈ am_gt := am_gi (tb_2 (List.mem_of_getElem? (i := 15) rfl)) rfl
theorem it_Covering : Cond.instantiable "UnseenRing$Covering" 4 ∈ am_gt := am_gi (tb_2 (List.mem_of_getElem? (i := 16) rfl)) rfl
theorem lk_U_68 : am_link "UnseenRing" 68 y_Covering_init := Or.inr ⟨_, tb_2 (List.mem_of_getElem? (i := 17) rfl)⟩
theorem lo_Covering_3 : Cond.methodLink "UnseenRing$Covering" 3 Lib.objectInit ∈ am_gt := am_gi (tb_2 (List.mem_of_getElem? (i := 20) rfl)) rfl
theorem f_Covering_9 : am_fld "UnseenRing$Covering" 9 0 0 := ⟨_, rfl, by decide, am_gi (tb_2 (List.mem_of_getElem? (i := 21) rfl)) rfl⟩
theorem f_Covering_15 : am_fld "UnseenRing$Covering" 15 0 1 := ⟨_, rfl, by decide, am_gi (tb_2 (List.mem_of_getElem? (i := 22) rfl)) rfl⟩
theorem f_Covering_18 : am_fld "UnseenRing$Covering" 18 0 2 := ⟨_, rfl, by decide, am_gi (tb_2 (List.mem_of_getElem? (i := 23) rfl)) rfl⟩
theorem f_Covering_22 : am_fld "UnseenRing$Covering" 22 0 3 := ⟨_, rfl, by decide, am_gi (tb_2 (List.mem_of_getElem? (i := 24) rfl)) rfl⟩
theorem cl_U_73 : Cond.classLink "UnseenRing" 73 "UnseenRing$Knowing" ∈ am_gt := am_gi (tb_2 (List.mem_of_getElem? (i := 34) rfl)) rfl
theorem it_Knowing : Cond.instantiable "UnseenRing$Knowing" 3 ∈ am_gt := am_gi (tb_2 (List.mem_of_getElem? (i := 35) rfl)) rfl
theorem lk_U_75 : am_link "UnseenRing" 75 y_Knowing_init := Or.inr ⟨_, tb_2 (List.mem_of_getElem? (i := 36) rfl)⟩
theorem lo_Knowing_3 : Cond.methodLink "UnseenRing$Knowing" 3 Lib.objectInit ∈ am_gt := am_gi (tb_2 (List.mem_of_getElem? (i := 39) rfl)) rfl
theorem f_Knowing_9 : am_fld "UnseenRing$Knowing" 9 3 0 := ⟨_, rfl, by decide, am_gi (tb_2 (List.mem_of_getElem? (i := 40) rfl)) rfl⟩
theorem f_Knowing_15 : am_fld "UnseenRing$Knowing" 15 3 1 := ⟨_, rfl, by decide, am_gi (tb_2 (List.mem_of_getElem? (i := 41) rfl)) rfl⟩
theorem f_Knowing_19 : am_fld "UnseenRing$Knowing" 19 3 2 := ⟨_, rfl, by decide, am_gi (tb_2 (List.mem_of_getElem? (i := 42) rfl)) rfl⟩
theorem it_Square : Cond.instantiable "UnseenRing$Square" 16 ∈ am_gt := am_gi (tb_2 (List.mem_of_getElem? (i := 50) rfl)) rfl
theorem lk_U_80 : am_link "UnseenRing" 80 y_Square_init := Or.inr ⟨_, tb_2 (List.mem_of_getElem? (i := 51) rfl)⟩
theorem lo_Square_3 : Cond.methodLink "UnseenRing$Square" 3 Lib.objectInit ∈ am_gt := am_gi (tb_2 (List.mem_of_getElem? (i := 54) rfl)) rfl
theorem cl_Square_28 : Cond.classLink "UnseenRing$Square" 28 "UnseenRing$Days" ∈ am_gt := am_gi (tb_2 (List.mem_of_getElem? (i := 55) rfl)) rfl
theorem it_Days : Cond.instantiable "UnseenRing$Days" 8 ∈ am_gt := am_gi (tb_2 (List.mem_of_getElem? (i := 56) rfl)) rfl
theorem lk_Square_30 : am_link "UnseenRing$Square" 30 y_Days_init := Or.inr ⟨_, tb_2 (List.mem_of_getElem? (i := 57) rfl)⟩
theorem lo_Days_3 : Cond.methodLink "UnseenRing$Days" 3 Lib.objectInit ∈ am_gt := am_gi (tb_2 (List.mem_of_getElem? (i := 60) rfl)) rfl
theorem f_Days_9 : am_fld "UnseenRing$Days" 9 1 0 := ⟨_, rfl, by decide, am_gi (tb_2 (List.mem_of_getElem? (i := 61) rfl)) rfl⟩
theorem f_Life_62 : am_fld "UnseenRing$Life" 62 1 0 := ⟨_, rfl, by decide, am_gi (tb_2 (List.mem_of_getElem? (i := 62) rfl)) rfl⟩
theorem f_DaysReader_113 : am_fld "UnseenRing$DaysReader" 113 1 0 := ⟨_, rfl, by decide, am_gi (tb_2 (List.mem_of_getElem? (i := 63) rfl)) rfl⟩
theorem f_Days_13 : am_fld "UnseenRing$Days" 13 1 1 := ⟨_, rfl, by decide, am_gi (tb_2 (List.mem_of_getElem? (i := 64) rfl)) rfl⟩
theorem f_Life_82 : am_fld "UnseenRing$Life" 82 1 1 := ⟨_, rfl, by decide, am_gi (tb_2 (List.mem_of_getElem? (i := 65) rfl)) rfl⟩
theorem f_DaysReader_110 : am_fld "UnseenRing$DaysReader" 110 1 1 := ⟨_, rfl, by decide, am_gi (tb_2 (List.mem_of_getElem? (i := 66) rfl)) rfl⟩
theorem f_Days_16 : am_fld "UnseenRing$Days" 16 1 2 := ⟨_, rfl, by decide, am_gi (tb_2 (List.mem_of_getElem? (i := 67) rfl)) rfl⟩
theorem f_Life_102 : am_fld "UnseenRing$Life" 102 1 2 := ⟨_, rfl, by decide, am_gi (tb_2 (List.mem_of_getElem? (i := 68) rfl)) rfl⟩
theorem f_DaysReader_125 : am_fld "UnseenRing$DaysReader" 125 1 2 := ⟨_, rfl, by decide, am_gi (tb_2 (List.mem_of_getElem? (i := 69) rfl)) rfl⟩
theorem f_Days_19 : am_fld "UnseenRing$Days" 19 1 3 := ⟨_, rfl, by decide, am_gi (tb_2 (List.mem_of_getElem? (i := 70) rfl)) rfl⟩
theorem f_Life_99 : am_fld "UnseenRing$Life" 99 1 3 := ⟨_, rfl, by decide, am_gi (tb_2 (List.mem_of_getElem? (i := 71) rfl)) rfl⟩
theorem f_DaysReader_131 : am_fld "UnseenRing$DaysReader" 131 1 3 := ⟨_, rfl, by decide, am_gi (tb_2 (List.mem_of_getElem? (i := 72) rfl)) rfl⟩
theorem f_Days_22 : am_fld "UnseenRing$Days" 22 1 4 := ⟨_, rfl, by decide, am_gi (tb_2 (List.mem_of_getElem? (i := 73) rfl)) rfl⟩
theorem f_Life_79 : am_fld "UnseenRing$Life" 79 1 4 := ⟨_, rfl, by decide, am_gi (tb_2 (List.mem_of_getElem? (i := 74) rfl)) rfl⟩
theorem f_Days_25 : am_fld "UnseenRing$Days" 25 1 5 := ⟨_, rfl, by decide, am_gi (tb_2 (List.mem_of_getElem? (i := 75) rfl)) rfl⟩
theorem f_DaysReader_41 : am_fld "UnseenRing$DaysReader" 41 1 5 := ⟨_, rfl, by decide, am_gi (tb_2 (List.mem_of_getElem? (i := 76) rfl)) rfl⟩
theorem f_U_390 : am_fld "UnseenRing" 390 1 5 := ⟨_, rfl, by decide, am_gi (tb_2 (List.mem_of_getElem? (i := 77) rfl)) rfl⟩
theorem f_Days_29 : am_fld "UnseenRing$Days" 29 1 6 := ⟨_, rfl, by decide, am_gi (tb_2 (List.mem_of_getElem? (i := 78) rfl)) rfl⟩
theorem f_Life_59 : am_fld "UnseenRing$Life" 59 1 6 := ⟨_, rfl, by decide, am_gi (tb_2 (List.mem_of_getElem? (i := 79) rfl)) rfl⟩
theorem f_DaysReader_65 : am_fld "UnseenRing$DaysReader" 65 1 6 := ⟨_, rfl, by decide, am_gi (tb_2 (List.mem_of_getElem? (i := 80) rfl)) rfl⟩
theorem f_Days_33 : am_fld "UnseenRing$Days" 33 1 7 := ⟨_, rfl, by decide, am_gi (tb_2 (List.mem_of_getElem? (i := 81) rfl)) rfl⟩
theorem f_DaysReader_56 : am_fld "UnseenRing$DaysReader" 56 1 7 := ⟨_, rfl, by decide, am_gi (tb_2 (List.mem_of_getElem? (i := 82) rfl)) rfl⟩
theorem f_U_193 : am_fld "UnseenRing" 193 1 7 := ⟨_, rfl, by decide, am_gi (tb_2 (List.mem_of_getElem? (i := 83) rfl)) rfl⟩
theorem f_Square_9 : am_fld "UnseenRing$Square" 9 7 0 := ⟨_, rfl, by decide, am_gi (tb_2 (List.mem_of_getElem? (i := 101) rfl)) rfl⟩
theorem f_SquareReader_112 : am_fld "UnseenRing$SquareReader" 112 7 0 := ⟨_, rfl, by decide, am_gi (tb_2 (List.mem_of_getElem? (i := 102) rfl)) rfl⟩
theorem f_Square_15 : am_fld "UnseenRing$Square" 15 7 1 := ⟨_, rfl, by decide, am_gi (tb_2 (List.mem_of_getElem? (i := 103) rfl)) rfl⟩
theorem f_Knowing_38 : am_fld "UnseenRing$Knowing" 38 7 1 := ⟨_, rfl, by decide, am_gi (tb_2 (List.mem_of_getElem? (i := 104) rfl)) rfl⟩
theorem f_U_387 : am_fld "UnseenRing" 387 7 1 := ⟨_, rfl, by decide, am_gi (tb_2 (List.mem_of_getElem? (i := 105) rfl)) rfl⟩
theorem f_Square_19 : am_fld "UnseenRing$Square" 19 7 2 := ⟨_, rfl, by decide, am_gi (tb_2 (List.mem_of_getElem? (i := 106) rfl)) rfl⟩
theorem f_Rows_90 : am_fld "UnseenRing$Rows" 90 7 2 := ⟨_, rfl, by decide, am_gi (tb_2 (List.mem_of_getElem? (i := 107) rfl)) rfl⟩
theorem f_U_261 : am_fld "UnseenRing" 261 7 2 := ⟨_, rfl, by decide, am_gi (tb_2 (List.mem_of_getElem? (i := 108) rfl)) rfl⟩
theorem f_Square_22 : am_fld "UnseenRing$Square" 22 7 3 := ⟨_, rfl, by decide, am_gi (tb_2 (List.mem_of_getElem? (i := 109) rfl)) rfl⟩
theorem f_Rows_48 : am_fld "UnseenRing$Rows" 48 7 3 := ⟨_, rfl, by decide, am_gi (tb_2 (List.mem_of_getElem? (i := 110) rfl)) rfl⟩
theorem f_U_268 : am_fld "UnseenRing" 268 7 3 := ⟨_, rfl, by decide, am_gi (tb_2 (List.mem_of_getElem? (i := 111) rfl)) rfl⟩
theorem f_Square_25 : am_fld "UnseenRing$Square" 25 7 4 := ⟨_, rfl, by decide, am_gi (tb_2 (List.mem_of_getElem? (i := 112) rfl)) rfl⟩
theorem f_SquareReader_124 : am_fld "UnseenRing$SquareReader" 124 7 4 := ⟨_, rfl, by decide, am_gi (tb_2 (List.mem_of_getElem? (i := 113) rfl)) rfl⟩
theorem f_U_214 : am_fld "UnseenRing" 214 7 4 := ⟨_, rfl, by decide, am_gi (tb_2 (List.mem_of_getElem? (i := 114) rfl)) rfl⟩
theorem f_Square_31 : am_fld "UnseenRing$Square" 31 7 5 := ⟨_, rfl, by decide, am_gi (tb_2 (List.mem_of_getElem? (i := 115) rfl)) rfl⟩
theorem f_Life_52 : am_fld "UnseenRing$Life" 52 7 5 := ⟨_, rfl, by decide, am_gi (tb_2 (List.mem_of_getElem? (i := 116) rfl)) rfl⟩
theorem f_U_190 : am_fld "UnseenRing" 190 7 5 := ⟨_, rfl, by decide, am_gi (tb_2 (List.mem_of_getElem? (i := 117) rfl)) rfl⟩
theorem f_Square_35 : am_fld "UnseenRing$Square" 35 7 6 := ⟨_, rfl, by decide, am_gi (tb_2 (List.mem_of_getElem? (i := 118) rfl)) rfl⟩
theorem f_SquareReader_81 : am_fld "UnseenRing$SquareReader" 81 7 6 := ⟨_, rfl, by decide, am_gi (tb_2 (List.mem_of_getElem? (i := 119) rfl)) rfl⟩
theorem f_Square_39 : am_fld "UnseenRing$Square" 39 7 7 := ⟨_, rfl, by decide, am_gi (tb_2 (List.mem_of_getElem? (i := 120) rfl)) rfl⟩
theorem f_SquareReader_84 : am_fld "UnseenRing$SquareReader" 84 7 7 := ⟨_, rfl, by decide, am_gi (tb_2 (List.mem_of_getElem? (i := 121) rfl)) rfl⟩
theorem f_Square_42 : am_fld "UnseenRing$Square" 42 7 8 := ⟨_, rfl, by decide, am_gi (tb_2 (List.mem_of_getElem? (i := 122) rfl)) rfl⟩
theorem f_SquareReader_91 : am_fld "UnseenRing$SquareReader" 91 7 8 := ⟨_, rfl, by decide, am_gi (tb_2 (List.mem_of_getElem? (i := 123) rfl)) rfl⟩
theorem f_Life_150 : am_fld "UnseenRing$Life" 150 7 8 := ⟨_, rfl, by decide, am_gi (tb_2 (List.mem_of_getElem? (i := 124) rfl)) rfl⟩
theorem f_U_278 : am_fld "UnseenRing" 278 7 8 := ⟨_, rfl, by decide, am_gi (tb_2 (List.mem_of_getElem? (i := 125) rfl)) rfl⟩
theorem f_Square_45 : am_fld "UnseenRing$Square" 45 7 9 := ⟨_, rfl, by decide, am_gi (tb_2 (List.mem_of_getElem? (i := 126) rfl)) rfl⟩
theorem f_SquareReader_98 : am_fld "UnseenRing$SquareReader" 98 7 9 := ⟨_, rfl, by decide, am_gi (tb_2 (List.mem_of_getElem? (i := 127) rfl)) rfl⟩
theorem f_U_227 : am_fld "UnseenRing" 227 7 9 := ⟨_, rfl, by decide, am_gi (tb_2 (List.mem_of_getElem? (i := 128) rfl)) rfl⟩
theorem f_Square_48 : am_fld "UnseenRing$Square" 48 7 10 := ⟨_, rfl, by decide, am_gi (tb_2 (List.mem_of_getElem? (i := 129) rfl)) rfl⟩
theorem f_Rows_38 : am_fld "UnseenRing$Rows" 38 7 10 := ⟨_, rfl, by decide, am_gi (tb_2 (List.mem_of_getElem? (i := 130) rfl)) rfl⟩
theorem f_SquareReader_101 : am_fld "UnseenRing$SquareReader" 101 7 10 := ⟨_, rfl, by decide, am_gi (tb_2 (List.mem_of_getElem? (i := 131) rfl)) rfl⟩
theorem f_Life_141 : am_fld "UnseenRing$Life" 141 7 10 := ⟨_, rfl, by decide, am_gi (tb_2 (List.mem_of_getElem? (i := 132) rfl)) rfl⟩
theorem f_U_355 : am_fld "UnseenRing" 355 7 10 := ⟨_, rfl, by decide, am_gi (tb_2 (List.mem_of_getElem? (i := 133) rfl)) rfl⟩
theorem f_Square_51 : am_fld "UnseenRing$Square" 51 7 11 := ⟨_, rfl, by decide, am_gi (tb_2 (List.mem_of_getElem? (i := 134) rfl)) rfl⟩
theorem f_Rows_41 : am_fld "UnseenRing$Rows" 41 7 11 := ⟨_, rfl, by decide, am_gi (tb_2 (List.mem_of_getElem? (i := 135) rfl)) rfl⟩
theorem f_Knowing_35 : am_fld "UnseenRing$Knowing" 35 7 11 := ⟨_, rfl, by decide, am_gi (tb_2 (List.mem_of_getElem? (i := 136) rfl)) rfl⟩
theorem f_SquareReader_65 : am_fld "UnseenRing$SquareReader" 65 7 11 := ⟨_, rfl, by decide, am_gi (tb_2 (List.mem_of_getElem? (i := 137) rfl)) rfl⟩
theorem f_DaysReader_96 : am_fld "UnseenRing$DaysReader" 96 7 11 := ⟨_, rfl, by decide, am_gi (tb_2 (List.mem_of_getElem? (i := 138) rfl)) rfl⟩
theorem f_U_181 : am_fld "UnseenRing" 181 7 11 := ⟨_, rfl, by decide, am_gi (tb_2 (List.mem_of_getElem? (i := 139) rfl)) rfl⟩
theorem f_Square_54 : am_fld "UnseenRing$Square" 54 7 12 := ⟨_, rfl, by decide, am_gi (tb_2 (List.mem_of_getElem? (i := 140) rfl)) rfl⟩
theorem f_SquareReader_68 : am_fld "UnseenRing$SquareReader" 68 7 12 := ⟨_, rfl, by decide, am_gi (tb_2 (List.mem_of_getElem? (i := 141) rfl)) rfl⟩
theorem f_DaysReader_115 : am_fld "UnseenRing$DaysReader" 115 7 12 := ⟨_, rfl, by decide, am_gi (tb_2 (List.mem_of_getElem? (i := 142) rfl)) rfl⟩
theorem f_U_315 : am_fld "UnseenRing" 315 7 12 := ⟨_, rfl, by decide, am_gi (tb_2 (List.mem_of_getElem? (i := 143) rfl)) rfl⟩
theorem f_Square_57 : am_fld "UnseenRing$Square" 57 7 13 := ⟨_, rfl, by decide, am_gi (tb_2 (List.mem_of_getElem? (i := 144) rfl)) rfl⟩
theorem f_Life_96 : am_fld "UnseenRing$Life" 96 7 13 := ⟨_, rfl, by decide, am_gi (tb_2 (List.mem_of_getElem? (i := 145) rfl)) rfl⟩
theorem f_U_408 : am_fld "UnseenRing" 408 7 13 := ⟨_, rfl, by decide, am_gi (tb_2 (List.mem_of_getElem? (i := 146) rfl)) rfl⟩
theorem f_Square_60 : am_fld "UnseenRing$Square" 60 7 14 := ⟨_, rfl, by decide, am_gi (tb_2 (List.mem_of_getElem? (i := 147) rfl)) rfl⟩
theorem f_Square_63 : am_fld "UnseenRing$Square" 63 7 15 := ⟨_, rfl, by decide, am_gi (tb_2 (List.mem_of_getElem? (i := 148) rfl)) rfl⟩
theorem cl_U_88 : Cond.classLink "UnseenRing" 88 "UnseenRing$Days" ∈ am_gt := am_gi (tb_2 (List.mem_of_getElem? (i := 182) rfl)) rfl
theorem lk_U_90 : am_link "UnseenRing" 90 y_Days_init := Or.inr ⟨_, tb_2 (List.mem_of_getElem? (i := 183) rfl)⟩
theorem it_Tray : Cond.instantiable "UnseenRing$Tray" 3 ∈ am_gt := am_gi (tb_2 (List.mem_of_getElem? (i := 184) rfl)) rfl
theorem lk_U_109 : am_link "UnseenRing" 109 y_Tray_init := Or.inr ⟨_, tb_2 (List.mem_of_getElem? (i := 185) rfl)⟩
theorem lo_Tray_3 : Cond.methodLink "UnseenRing$Tray" 3 Lib.objectInit ∈ am_gt := am_gi (tb_2 (List.mem_of_getElem? (i := 188) rfl)) rfl
theorem f_Tray_9 : am_fld "UnseenRing$Tray" 9 10 0 := ⟨_, rfl, by decide, am_gi (tb_2 (List.mem_of_getElem? (i := 189) rfl)) rfl⟩
theorem f_U_151 : am_fld "UnseenRing" 151 10 0 := ⟨_, rfl, by decide, am_gi (tb_2 (List.mem_of_getElem? (i := 190) rfl)) rfl⟩
theorem f_Tray_15 : am_fld "UnseenRing$Tray" 15 10 1 := ⟨_, rfl, by decide, am_gi (tb_2 (List.mem_of_getElem? (i := 191) rfl)) rfl⟩
theorem f_U_145 : am_fld "UnseenRing" 145 10 1 := ⟨_, rfl, by decide, am_gi (tb_2 (List.mem_of_getElem? (i := 192) rfl)) rfl⟩
theorem f_Tray_19 : am_fld "UnseenRing$Tray" 19 10 2 := ⟨_, rfl, by decide, am_gi (tb_2 (List.mem_of_getElem? (i := 193) rfl)) rfl⟩
theorem f_U_148 : am_fld "UnseenRing" 148 10 2 := ⟨_, rfl, by decide, am_gi (tb_2 (List.mem_of_getElem? (i := 194) rfl)) rfl⟩
theorem f_U_11 : am_fld "UnseenRing" 11 11 0 := ⟨_, rfl, by decide, am_gi (tb_2 (List.mem_of_getElem? (i := 202) rfl)) rfl⟩
theorem f_U_18 : am_fld "UnseenRing" 18 11 1 := ⟨_, rfl, by decide, am_gi (tb_2 (List.mem_of_getElem? (i := 203) rfl)) rfl⟩
theorem f_U_25 : am_fld "UnseenRing" 25 11 2 := ⟨_, rfl, by decide, am_gi (tb_2 (List.mem_of_getElem? (i := 204) rfl)) rfl⟩
theorem f_U_32 : am_fld "UnseenRing" 32 11 3 := ⟨_, rfl, by decide, am_gi (tb_2 (List.mem_of_getElem? (i := 205) rfl)) rfl⟩
theorem f_U_38 : am_fld "UnseenRing" 38 11 4 := ⟨_, rfl, by decide, am_gi (tb_2 (List.mem_of_getElem? (i := 206) rfl)) rfl⟩
theorem f_U_45 : am_fld "UnseenRing" 45 11 5 := ⟨_, rfl, by decide, am_gi (tb_2 (List.mem_of_getElem? (i := 207) rfl)) rfl⟩
theorem f_U_49 : am_fld "UnseenRing" 49 11 6 := ⟨_, rfl, by decide, am_gi (tb_2 (List.mem_of_getElem? (i := 208) rfl)) rfl⟩
theorem f_U_55 : am_fld "UnseenRing" 55 11 7 := ⟨_, rfl, by decide, am_gi (tb_2 (List.mem_of_getElem? (i := 209) rfl)) rfl⟩
theorem f_U_62 : am_fld "UnseenRing" 62 11 8 := ⟨_, rfl, by decide, am_gi (tb_2 (List.mem_of_getElem? (i := 210) rfl)) rfl⟩
theorem f_U_69 : am_fld "UnseenRing" 69 11 9 := ⟨_, rfl, by decide, am_gi (tb_2 (List.mem_of_getElem? (i := 211) rfl)) rfl⟩
theorem f_U_76 : am_fld "UnseenRing" 76 11 10 := ⟨_, rfl, by decide, am_gi (tb_2 (List.mem_of_getElem? (i := 212) rfl)) rfl⟩
theorem f_U_81 : am_fld "UnseenRing" 81 11 11 := ⟨_, rfl, by decide, am_gi (tb_2 (List.mem_of_getElem? (i := 213) rfl)) rfl⟩
theorem f_U_85 : am_fld "UnseenRing" 85 11 12 := ⟨_, rfl, by decide, am_gi (tb_2 (List.mem_of_getElem? (i := 214) rfl)) rfl⟩
theorem f_U_91 : am_fld "UnseenRing" 91 11 13 := ⟨_, rfl, by decide, am_gi (tb_2 (List.mem_of_getElem? (i := 215) rfl)) rfl⟩
theorem f_U_95 : am_fld "UnseenRing" 95 11 14 := ⟨_, rfl, by decide, am_gi (tb_2 (List.mem_of_getElem? (i := 216) rfl)) rfl⟩
theorem f_U_99 : am_fld "UnseenRing" 99 11 15 := ⟨_, rfl, by decide, am_gi (tb_2 (List.mem_of_getElem? (i := 217) rfl)) rfl⟩
theorem f_U_102 : am_fld "UnseenRing" 102 11 16 := ⟨_, rfl, by decide, am_gi (tb_2 (List.mem_of_getElem? (i := 218) rfl)) rfl⟩
theorem f_U_106 : am_fld "UnseenRing" 106 11 17 := ⟨_, rfl, by decide, am_gi (tb_2 (List.mem_of_getElem? (i := 219) rfl)) rfl⟩
theorem lk_Law_13 : am_link "UnseenRingLaw" 13 y_U_status := Or.inl (am_gi (tb_3 (List.mem_of_getElem? (i := 17) rfl)) rfl)
theorem lk_Law_18 : am_link "UnseenRingLaw" 18 y_U_top := Or.inl (am_gi (tb_3 (List.mem_of_getElem? (i := 21) rfl)) rfl)
theorem lk_Law_23 : am_link "UnseenRingLaw" 23 y_U_bottom := Or.inl (am_gi (tb_3 (List.mem_of_getElem? (i := 25) rfl)) rfl)
theorem lk_Law_27 : am_link "UnseenRingLaw" 27 y_U_tray := Or.inl (am_gi (tb_3 (List.mem_of_getElem? (i := 29) rfl)) rfl)
theorem lk_U_110 : am_link "UnseenRing" 110 y_U_isTray := Or.inl (am_gi (tb_3 (List.mem_of_getElem? (i := 33) rfl)) rfl)
theorem lk_U_114 : am_link "UnseenRing" 114 y_U_within := Or.inl (am_gi (tb_3 (List.mem_of_getElem? (i := 36) rfl)) rfl)
theorem lk_U_118 : am_link "UnseenRing" 118 y_U_settled := Or.inl (am_gi (tb_3 (List.mem_of_getElem? (i := 39) rfl)) rfl)
theorem lk_U_121 : am_link "UnseenRing" 121 y_Tray_lay := Or.inl (am_gi (tb_3 (List.mem_of_getElem? (i := 43) rfl)) rfl)
theorem lk_Tray_22 : am_link "UnseenRing$Tray" 22 y_Arrays_fillJ := Or.inl (am_gi (tb_3 (List.mem_of_getElem? (i := 47) rfl)) rfl)
theorem lk_Law_34 : am_link "UnseenRingLaw" 34 y_U_write := Or.inl (am_gi (tb_3 (List.mem_of_getElem? (i := 50) rfl)) rfl)
theorem lk_U_125 : am_link "UnseenRing" 125 y_U_placeStatus := Or.inl (am_gi (tb_3 (List.mem_of_getElem? (i := 54) rfl)) rfl)
theorem lk_U_161 : am_link "UnseenRing" 161 y_U_trayStatus := Or.inl (am_gi (tb_3 (List.mem_of_getElem? (i := 58) rfl)) rfl)
theorem lk_U_141 : am_link "UnseenRing" 141 y_Tray_isMissing := Or.inl (am_gi (tb_3 (List.mem_of_getElem? (i := 62) rfl)) rfl)
theorem lk_U_129 : am_link "UnseenRing" 129 y_Tray_put := Or.inl (am_gi (tb_3 (List.mem_of_getElem? (i := 66) rfl)) rfl)
theorem lk_Tray_28 : am_link "UnseenRing$Tray" 28 y_U_within := Or.inr ⟨_, tb_3 (List.mem_of_getElem? (i := 70) rfl)⟩
theorem lk_Tray_32 : am_link "UnseenRing$Tray" 32 y_Tray_cut := Or.inl (am_gi (tb_3 (List.mem_of_getElem? (i := 71) rfl)) rfl)
theorem lk_Law_39 : am_link "UnseenRingLaw" 39 y_U_read := Or.inl (am_gi (tb_3 (List.mem_of_getElem? (i := 75) rfl)) rfl)
theorem lk_U_133 : am_link "UnseenRing" 133 y_U_refused := Or.inl (am_gi (tb_3 (List.mem_of_getElem? (i := 79) rfl)) rfl)
theorem lk_U_137 : am_link "UnseenRing" 137 y_Tray_numberAt := Or.inl (am_gi (tb_3 (List.mem_of_getElem? (i := 83) rfl)) rfl)
theorem k_Tray_36 : Cond.constantLong "UnseenRing$Tray" 36 (-1) ∈ am_gt := am_gi (tb_3 (List.mem_of_getElem? (i := 87) rfl)) rfl
theorem lk_Law_44 : am_link "UnseenRingLaw" 44 y_U_pour := Or.inl (am_gi (tb_3 (List.mem_of_getElem? (i := 88) rfl)) rfl)
theorem la_U_155 : Cond.methodLink "UnseenRing" 155 arraycopyName ∈ am_gt := am_gi (tb_3 (List.mem_of_getElem? (i := 92) rfl)) rfl
theorem sa_copy : Cond.static arraycopyName ∈ am_gt := am_gi (tb_3 (List.mem_of_getElem? (i := 93) rfl)) rfl
theorem na_copy : Cond.native arraycopyName ∈ am_gt := am_gi (tb_3 (List.mem_of_getElem? (i := 94) rfl)) rfl
theorem lk_Law_49 : am_link "UnseenRingLaw" 49 y_U_feed := Or.inl (am_gi (tb_3 (List.mem_of_getElem? (i := 95) rfl)) rfl)
theorem lk_U_164 : am_link "UnseenRing" 164 y_Tokens_hasRoom := Or.inl (am_gi (tb_3 (List.mem_of_getElem? (i := 99) rfl)) rfl)
theorem lk_U_167 : am_link "UnseenRing" 167 y_Tokens_append := Or.inl (am_gi (tb_3 (List.mem_of_getElem? (i := 103) rfl)) rfl)
theorem lk_Law_54 : am_link "UnseenRingLaw" 54 y_U_square := Or.inl (am_gi (tb_3 (List.mem_of_getElem? (i := 107) rfl)) rfl)
theorem lk_U_174 : am_link "UnseenRing" 174 y_SquareReader_readText := Or.inl (am_gi (tb_3 (List.mem_of_getElem? (i := 111) rfl)) rfl)
theorem lk_SquareReader_21 : am_link "UnseenRing$SquareReader" 21 y_Square_reset := Or.inl (am_gi (tb_3 (List.mem_of_getElem? (i := 115) rfl)) rfl)
theorem lk_Square_66 : am_link "UnseenRing$Square" 66 y_Days_clear := Or.inl (am_gi (tb_3 (List.mem_of_getElem? (i := 119) rfl)) rfl)
theorem lk_SquareReader_26 : am_link "UnseenRing$SquareReader" 26 y_Tokens_begin := Or.inl (am_gi (tb_3 (List.mem_of_getElem? (i := 123) rfl)) rfl)
theorem lm_Tokens_66 : Cond.methodLink "UnseenRing$Tokens" 66 Lib.Math.min.name ∈ am_gt := am_gi (tb_3 (List.mem_of_getElem? (i := 127) rfl)) rfl
theorem lk_Tokens_66 : am_link "UnseenRing$Tokens" 66 y_Math_min := Or.inl (am_gi (tb_3 (List.mem_of_getElem? (i := 127) rfl)) rfl)
theorem lk_Tokens_72 : am_link "UnseenRing$Tokens" 72 y_Tokens_scanAll := Or.inl (am_gi (tb_3 (List.mem_of_getElem? (i := 130) rfl)) rfl)
theorem lk_Tokens_89 : am_link "UnseenRing$Tokens" 89 y_Tokens_isLetter := Or.inl (am_gi (tb_3 (List.mem_of_getElem? (i := 134) rfl)) rfl)
theorem lk_Tokens_92 : am_link "UnseenRing$Tokens" 92 y_Tokens_scanWord := Or.inl (am_gi (tb_3 (List.mem_of_getElem? (i := 137) rfl)) rfl)
theorem lk_Tokens_105 : am_link "UnseenRing$Tokens" 105 y_Tokens_add := Or.inl (am_gi (tb_3 (List.mem_of_getElem? (i := 141) rfl)) rfl)
theorem lk_Tokens_109 : am_link "UnseenRing$Tokens" 109 y_Tokens_reservedWord := Or.inl (am_gi (tb_3 (List.mem_of_getElem? (i := 145) rfl)) rfl)
theorem lk_Tokens_95 : am_link "UnseenRing$Tokens" 95 y_Tokens_isDigit := Or.inl (am_gi (tb_3 (List.mem_of_getElem? (i := 149) rfl)) rfl)
theorem lk_Tokens_98 : am_link "UnseenRing$Tokens" 98 y_Tokens_scanNumber := Or.inl (am_gi (tb_3 (List.mem_of_getElem? (i := 152) rfl)) rfl)
theorem lk_Tokens_101 : am_link "UnseenRing$Tokens" 101 y_Tokens_scanSign := Or.inl (am_gi (tb_3 (List.mem_of_getElem? (i := 156) rfl)) rfl)
theorem lk_Tokens_76 : am_link "UnseenRing$Tokens" 76 y_Tokens_advance := Or.inl (am_gi (tb_3 (List.mem_of_getElem? (i := 160) rfl)) rfl)
theorem lk_SquareReader_36 : am_link "UnseenRing$SquareReader" 36 y_SquareReader_readPart := Or.inl (am_gi (tb_3 (List.mem_of_getElem? (i := 164) rfl)) rfl)
theorem lk_SquareReader_43 : am_link "UnseenRing$SquareReader" 43 y_SquareReader_readSize := Or.inl (am_gi (tb_3 (List.mem_of_getElem? (i := 168) rfl)) rfl)
theorem lk_SquareReader_61 : am_link "UnseenRing$SquareReader" 61 y_Tokens_refuse := Or.inl (am_gi (tb_3 (List.mem_of_getElem? (i := 172) rfl)) rfl)
theorem lk_SquareReader_71 : am_link "UnseenRing$SquareReader" 71 y_Tokens_advance := Or.inl (am_gi (tb_3 (List.mem_of_getElem? (i := 176) rfl)) rfl)
theorem lk_SquareReader_74 : am_link "UnseenRing$SquareReader" 74 y_Tokens_takeNumber := Or.inl (am_gi (tb_3 (List.mem_of_getElem? (i := 177) rfl)) rfl)
theorem lk_Tokens_79 : am_link "UnseenRing$Tokens" 79 y_Tokens_refuse := Or.inl (am_gi (tb_3 (List.mem_of_getElem? (i := 181) rfl)) rfl)
theorem lk_Tokens_85 : am_link "UnseenRing$Tokens" 85 y_U_within := Or.inr ⟨_, tb_3 (List.mem_of_getElem? (i := 182) rfl)⟩
theorem lk_SquareReader_78 : am_link "UnseenRing$SquareReader" 78 y_Tokens_takeWord := Or.inl (am_gi (tb_3 (List.mem_of_getElem? (i := 183) rfl)) rfl)
theorem lk_SquareReader_87 : am_link "UnseenRing$SquareReader" 87 y_Tokens_takeSemicolon := Or.inl (am_gi (tb_3 (List.mem_of_getElem? (i := 187) rfl)) rfl)
theorem k_Tokens_83 : Cond.constantLong "UnseenRing$Tokens" 83 (59) ∈ am_gt := am_gi (tb_3 (List.mem_of_getElem? (i := 191) rfl)) rfl
theorem lk_SquareReader_46 : am_link "UnseenRing$SquareReader" 46 y_SquareReader_readOdds := Or.inl (am_gi (tb_3 (List.mem_of_getElem? (i := 192) rfl)) rfl)
theorem lk_SquareReader_49 : am_link "UnseenRing$SquareReader" 49 y_SquareReader_readOrgan := Or.inl (am_gi (tb_3 (List.mem_of_getElem? (i := 196) rfl)) rfl)
theorem lk_SquareReader_94 : am_link "UnseenRing$SquareReader" 94 y_Square_cells := Or.inl (am_gi (tb_3 (List.mem_of_getElem? (i := 200) rfl)) rfl)
theorem lk_SquareReader_52 : am_link "UnseenRing$SquareReader" 52 y_SquareReader_readTune := Or.inl (am_gi (tb_3 (List.mem_of_getElem? (i := 204) rfl)) rfl)
theorem lk_SquareReader_104 : am_link "UnseenRing$SquareReader" 104 y_Tokens_nameHere := Or.inl (am_gi (tb_3 (List.mem_of_getElem? (i := 208) rfl)) rfl)
theorem lk_SquareReader_108 : am_link "UnseenRing$SquareReader" 108 y_Square_tuneNamed := Or.inl (am_gi (tb_3 (List.mem_of_getElem? (i := 212) rfl)) rfl)
theorem lk_SquareReader_55 : am_link "UnseenRing$SquareReader" 55 y_SquareReader_readHearer := Or.inl (am_gi (tb_3 (List.mem_of_getElem? (i := 216) rfl)) rfl)
theorem lk_SquareReader_116 : am_link "UnseenRing$SquareReader" 116 y_SquareReader_readLikes := Or.inl (am_gi (tb_3 (List.mem_of_getElem? (i := 220) rfl)) rfl)
theorem lk_SquareReader_120 : am_link "UnseenRing$SquareReader" 120 y_Square_addHearer := Or.inl (am_gi (tb_3 (List.mem_of_getElem? (i := 224) rfl)) rfl)
theorem lk_SquareReader_58 : am_link "UnseenRing$SquareReader" 58 y_SquareReader_readDog := Or.inl (am_gi (tb_3 (List.mem_of_getElem? (i := 228) rfl)) rfl)
theorem lk_U_178 : am_link "UnseenRing" 178 y_Tokens_clear := Or.inl (am_gi (tb_3 (List.mem_of_getElem? (i := 232) rfl)) rfl)
theorem lk_U_184 : am_link "UnseenRing" 184 y_U_answered := Or.inl (am_gi (tb_3 (List.mem_of_getElem? (i := 236) rfl)) rfl)
theorem lk_Law_59 : am_link "UnseenRingLaw" 59 y_U_days := Or.inl (am_gi (tb_4 (List.mem_of_getElem? (i := 0) rfl)) rfl)
theorem lk_U_187 : am_link "UnseenRing" 187 y_DaysReader_readText := Or.inl (am_gi (tb_4 (List.mem_of_getElem? (i := 4) rfl)) rfl)
theorem lk_DaysReader_19 : am_link "UnseenRing$DaysReader" 19 y_Days_clear := Or.inl (am_gi (tb_4 (List.mem_of_getElem? (i := 8) rfl)) rfl)
theorem lk_DaysReader_24 : am_link "UnseenRing$DaysReader" 24 y_Tokens_begin := Or.inl (am_gi (tb_4 (List.mem_of_getElem? (i := 9) rfl)) rfl)
theorem lk_DaysReader_33 : am_link "UnseenRing$DaysReader" 33 y_DaysReader_readStep := Or.inl (am_gi (tb_4 (List.mem_of_getElem? (i := 10) rfl)) rfl)
theorem lk_DaysReader_48 : am_link "UnseenRing$DaysReader" 48 y_DaysReader_readEnd := Or.inl (am_gi (tb_4 (List.mem_of_getElem? (i := 14) rfl)) rfl)
theorem lk_DaysReader_37 : am_link "UnseenRing$DaysReader" 37 y_Tokens_refuse := Or.inl (am_gi (tb_4 (List.mem_of_getElem? (i := 18) rfl)) rfl)
theorem lk_DaysReader_59 : am_link "UnseenRing$DaysReader" 59 y_Tokens_advance := Or.inl (am_gi (tb_4 (List.mem_of_getElem? (i := 19) rfl)) rfl)
theorem lk_DaysReader_62 : am_link "UnseenRing$DaysReader" 62 y_Days_add := Or.inl (am_gi (tb_4 (List.mem_of_getElem? (i := 20) rfl)) rfl)
theorem lk_DaysReader_79 : am_link "UnseenRing$DaysReader" 79 y_Days_join := Or.inl (am_gi (tb_4 (List.mem_of_getElem? (i := 24) rfl)) rfl)
theorem lk_DaysReader_75 : am_link "UnseenRing$DaysReader" 75 y_Tokens_takeSemicolon := Or.inl (am_gi (tb_4 (List.mem_of_getElem? (i := 28) rfl)) rfl)
theorem lk_DaysReader_52 : am_link "UnseenRing$DaysReader" 52 y_U_within := Or.inr ⟨_, tb_4 (List.mem_of_getElem? (i := 29) rfl)⟩
theorem lk_DaysReader_68 : am_link "UnseenRing$DaysReader" 68 y_DaysReader_readTest := Or.inl (am_gi (tb_4 (List.mem_of_getElem? (i := 30) rfl)) rfl)
theorem lk_DaysReader_92 : am_link "UnseenRing$DaysReader" 92 y_DaysReader_readFirst := Or.inl (am_gi (tb_4 (List.mem_of_getElem? (i := 34) rfl)) rfl)
theorem lk_DaysReader_121 : am_link "UnseenRing$DaysReader" 121 y_Tokens_takeNumber := Or.inl (am_gi (tb_4 (List.mem_of_getElem? (i := 38) rfl)) rfl)
theorem lk_DaysReader_118 : am_link "UnseenRing$DaysReader" 118 y_DaysReader_readCompares := Or.inl (am_gi (tb_4 (List.mem_of_getElem? (i := 39) rfl)) rfl)
theorem lk_DaysReader_128 : am_link "UnseenRing$DaysReader" 128 y_Tokens_takeCompares := Or.inl (am_gi (tb_4 (List.mem_of_getElem? (i := 43) rfl)) rfl)
theorem lk_DaysReader_99 : am_link "UnseenRing$DaysReader" 99 y_DaysReader_readSecond := Or.inl (am_gi (tb_4 (List.mem_of_getElem? (i := 47) rfl)) rfl)
theorem lk_DaysReader_71 : am_link "UnseenRing$DaysReader" 71 y_DaysReader_readRest := Or.inl (am_gi (tb_4 (List.mem_of_getElem? (i := 51) rfl)) rfl)
theorem lk_DaysReader_83 : am_link "UnseenRing$DaysReader" 83 y_DaysReader_readTune := Or.inl (am_gi (tb_4 (List.mem_of_getElem? (i := 55) rfl)) rfl)
theorem lk_DaysReader_102 : am_link "UnseenRing$DaysReader" 102 y_Tokens_nameHere := Or.inl (am_gi (tb_4 (List.mem_of_getElem? (i := 59) rfl)) rfl)
theorem lk_DaysReader_106 : am_link "UnseenRing$DaysReader" 106 y_Square_tuneNamed := Or.inl (am_gi (tb_4 (List.mem_of_getElem? (i := 60) rfl)) rfl)
theorem lk_DaysReader_86 : am_link "UnseenRing$DaysReader" 86 y_Square_cells := Or.inl (am_gi (tb_4 (List.mem_of_getElem? (i := 61) rfl)) rfl)
theorem lk_Law_63 : am_link "UnseenRingLaw" 63 y_U_fault := Or.inl (am_gi (tb_4 (List.mem_of_getElem? (i := 62) rfl)) rfl)
theorem lk_Law_67 : am_link "UnseenRingLaw" 67 y_U_told := Or.inl (am_gi (tb_4 (List.mem_of_getElem? (i := 66) rfl)) rfl)
theorem lk_U_202 : am_link "UnseenRing" 202 y_Square_toldOf := Or.inl (am_gi (tb_4 (List.mem_of_getElem? (i := 70) rfl)) rfl)
theorem lk_Square_87 : am_link "UnseenRing$Square" 87 y_Square_dogsUp := Or.inl (am_gi (tb_4 (List.mem_of_getElem? (i := 74) rfl)) rfl)
theorem lk_Square_117 : am_link "UnseenRing$Square" 117 y_Square_isUp := Or.inl (am_gi (tb_4 (List.mem_of_getElem? (i := 78) rfl)) rfl)
theorem lk_Square_107 : am_link "UnseenRing$Square" 107 y_Square_hearersNear := Or.inl (am_gi (tb_4 (List.mem_of_getElem? (i := 82) rfl)) rfl)
theorem lk_Square_103 : am_link "UnseenRing$Square" 103 y_Square_far := Or.inl (am_gi (tb_4 (List.mem_of_getElem? (i := 86) rfl)) rfl)
theorem lm_Square_98 : Cond.methodLink "UnseenRing$Square" 98 Lib.Math.abs.name ∈ am_gt := am_gi (tb_4 (List.mem_of_getElem? (i := 90) rfl)) rfl
theorem lk_Square_98 : am_link "UnseenRing$Square" 98 y_Math_abs := Or.inl (am_gi (tb_4 (List.mem_of_getElem? (i := 90) rfl)) rfl)
theorem lk_Law_71 : am_link "UnseenRingLaw" 71 y_U_hearer := Or.inl (am_gi (tb_4 (List.mem_of_getElem? (i := 93) rfl)) rfl)
theorem lk_U_205 : am_link "UnseenRing" 205 y_Square_hasHearer := Or.inl (am_gi (tb_4 (List.mem_of_getElem? (i := 97) rfl)) rfl)
theorem lk_Square_83 : am_link "UnseenRing$Square" 83 y_U_within := Or.inr ⟨_, tb_4 (List.mem_of_getElem? (i := 101) rfl)⟩
theorem lk_U_208 : am_link "UnseenRing" 208 y_Square_toldOfHearer := Or.inl (am_gi (tb_4 (List.mem_of_getElem? (i := 102) rfl)) rfl)
theorem lk_Square_90 : am_link "UnseenRing$Square" 90 y_Square_farFromOrgan := Or.inl (am_gi (tb_4 (List.mem_of_getElem? (i := 106) rfl)) rfl)
theorem lk_Square_94 : am_link "UnseenRing$Square" 94 y_Square_isSeen := Or.inl (am_gi (tb_4 (List.mem_of_getElem? (i := 110) rfl)) rfl)
theorem lk_Law_76 : am_link "UnseenRingLaw" 76 y_U_dog := Or.inl (am_gi (tb_4 (List.mem_of_getElem? (i := 114) rfl)) rfl)
theorem lk_U_211 : am_link "UnseenRing" 211 y_Square_hasDog := Or.inl (am_gi (tb_4 (List.mem_of_getElem? (i := 118) rfl)) rfl)
theorem lk_U_218 : am_link "UnseenRing" 218 y_Square_isUp := Or.inl (am_gi (tb_4 (List.mem_of_getElem? (i := 122) rfl)) rfl)
theorem lk_Law_80 : am_link "UnseenRingLaw" 80 y_U_cell := Or.inl (am_gi (tb_4 (List.mem_of_getElem? (i := 123) rfl)) rfl)
theorem lk_U_221 : am_link "UnseenRing" 221 y_Square_hasCell := Or.inl (am_gi (tb_4 (List.mem_of_getElem? (i := 127) rfl)) rfl)
theorem lk_Square_79 : am_link "UnseenRing$Square" 79 y_Square_cells := Or.inl (am_gi (tb_4 (List.mem_of_getElem? (i := 131) rfl)) rfl)
theorem lk_U_224 : am_link "UnseenRing" 224 y_Square_hearersNear := Or.inl (am_gi (tb_4 (List.mem_of_getElem? (i := 132) rfl)) rfl)
theorem lk_U_230 : am_link "UnseenRing" 230 y_Square_far := Or.inl (am_gi (tb_4 (List.mem_of_getElem? (i := 133) rfl)) rfl)
theorem lk_U_233 : am_link "UnseenRing" 233 y_Square_dogsUpFrom := Or.inl (am_gi (tb_4 (List.mem_of_getElem? (i := 134) rfl)) rfl)
theorem lk_Square_114 : am_link "UnseenRing$Square" 114 y_Square_isNear := Or.inl (am_gi (tb_4 (List.mem_of_getElem? (i := 138) rfl)) rfl)
theorem lk_Law_84 : am_link "UnseenRingLaw" 84 y_U_likers := Or.inl (am_gi (tb_4 (List.mem_of_getElem? (i := 142) rfl)) rfl)
theorem lk_U_236 : am_link "UnseenRing" 236 y_Square_hasTune := Or.inl (am_gi (tb_4 (List.mem_of_getElem? (i := 146) rfl)) rfl)
theorem lk_U_239 : am_link "UnseenRing" 239 y_Square_likersOf := Or.inl (am_gi (tb_4 (List.mem_of_getElem? (i := 150) rfl)) rfl)
theorem lk_Square_110 : am_link "UnseenRing$Square" 110 y_Square_doesLike := Or.inl (am_gi (tb_4 (List.mem_of_getElem? (i := 154) rfl)) rfl)
theorem lk_Law_88 : am_link "UnseenRingLaw" 88 y_U_play := Or.inl (am_gi (tb_4 (List.mem_of_getElem? (i := 158) rfl)) rfl)
theorem lk_U_242 : am_link "UnseenRing" 242 y_Square_playTune := Or.inl (am_gi (tb_4 (List.mem_of_getElem? (i := 162) rfl)) rfl)
theorem lk_Square_120 : am_link "UnseenRing$Square" 120 y_Square_likersOf := Or.inl (am_gi (tb_4 (List.mem_of_getElem? (i := 166) rfl)) rfl)
theorem lk_Square_123 : am_link "UnseenRing$Square" 123 y_Square_aStepNearer := Or.inl (am_gi (tb_4 (List.mem_of_getElem? (i := 167) rfl)) rfl)
theorem lk_Square_129 : am_link "UnseenRing$Square" 129 y_Integer_compare := Or.inl (am_gi (tb_4 (List.mem_of_getElem? (i := 171) rfl)) rfl)
theorem lm_Square_126 : Cond.methodLink "UnseenRing$Square" 126 Lib.Math.min.name ∈ am_gt := am_gi (tb_4 (List.mem_of_getElem? (i := 174) rfl)) rfl
theorem lk_Square_126 : am_link "UnseenRing$Square" 126 y_Math_min := Or.inl (am_gi (tb_4 (List.mem_of_getElem? (i := 174) rfl)) rfl)
theorem lk_U_245 : am_link "UnseenRing" 245 y_U_answeredIfItCanBe := Or.inl (am_gi (tb_4 (List.mem_of_getElem? (i := 175) rfl)) rfl)
theorem lk_Law_92 : am_link "UnseenRingLaw" 92 y_U_grind := Or.inl (am_gi (tb_4 (List.mem_of_getElem? (i := 179) rfl)) rfl)
theorem lk_U_248 : am_link "UnseenRing" 248 y_Square_moveOrgan := Or.inl (am_gi (tb_4 (List.mem_of_getElem? (i := 183) rfl)) rfl)
theorem lk_Law_96 : am_link "UnseenRingLaw" 96 y_U_throwAt := Or.inl (am_gi (tb_4 (List.mem_of_getElem? (i := 187) rfl)) rfl)
theorem lk_U_251 : am_link "UnseenRing" 251 y_Square_flour := Or.inl (am_gi (tb_4 (List.mem_of_getElem? (i := 191) rfl)) rfl)
theorem lk_Law_100 : am_link "UnseenRingLaw" 100 y_U_brush := Or.inl (am_gi (tb_4 (List.mem_of_getElem? (i := 195) rfl)) rfl)
theorem lk_U_254 : am_link "UnseenRing" 254 y_Square_brushOff := Or.inl (am_gi (tb_4 (List.mem_of_getElem? (i := 199) rfl)) rfl)
theorem lk_Square_134 : am_link "UnseenRing$Square" 134 y_Integer_bitCount := Or.inl (am_gi (tb_4 (List.mem_of_getElem? (i := 203) rfl)) rfl)
theorem k_Integer_265 : Cond.constant "java/lang/Integer" 265 (1431655765) ∈ am_gt := am_gi (tb_4 (List.mem_of_getElem? (i := 206) rfl)) rfl
theorem k_Integer_266 : Cond.constant "java/lang/Integer" 266 (858993459) ∈ am_gt := am_gi (tb_4 (List.mem_of_getElem? (i := 207) rfl)) rfl
theorem k_Integer_267 : Cond.constant "java/lang/Integer" 267 (252645135) ∈ am_gt := am_gi (tb_4 (List.mem_of_getElem? (i := 208) rfl)) rfl
theorem lk_Law_104 : am_link "UnseenRingLaw" 104 y_U_send := Or.inl (am_gi (tb_4 (List.mem_of_getElem? (i := 209) rfl)) rfl)
theorem lk_U_258 : am_link "UnseenRing" 258 y_Square_moveHearer := Or.inl (am_gi (tb_4 (List.mem_of_getElem? (i := 213) rfl)) rfl)
theorem lk_Law_108 : am_link "UnseenRingLaw" 108 y_U_give := Or.inl (am_gi (tb_4 (List.mem_of_getElem? (i := 217) rfl)) rfl)
theorem lk_Law_112 : am_link "UnseenRingLaw" 112 y_U_teach := Or.inl (am_gi (tb_4 (List.mem_of_getElem? (i := 221) rfl)) rfl)
theorem lk_U_264 : am_link "UnseenRing" 264 y_Square_doesLike := Or.inl (am_gi (tb_4 (List.mem_of_getElem? (i := 225) rfl)) rfl)
theorem lk_Law_117 : am_link "UnseenRingLaw" 117 y_U_come := Or.inl (am_gi (tb_4 (List.mem_of_getElem? (i := 226) rfl)) rfl)
theorem lk_U_271 : am_link "UnseenRing" 271 y_Square_addHearer := Or.inl (am_gi (tb_4 (List.mem_of_getElem? (i := 230) rfl)) rfl)
theorem lk_Law_121 : am_link "UnseenRingLaw" 121 y_U_empty := Or.inl (am_gi (tb_4 (List.mem_of_getElem? (i := 231) rfl)) rfl)
theorem lk_U_275 : am_link "UnseenRing" 275 y_Square_emptyCup := Or.inl (am_gi (tb_4 (List.mem_of_getElem? (i := 235) rfl)) rfl)
theorem lk_Law_125 : am_link "UnseenRingLaw" 125 y_U_rule := Or.inl (am_gi (tb_4 (List.mem_of_getElem? (i := 239) rfl)) rfl)
theorem lk_Law_130 : am_link "UnseenRingLaw" 130 y_U_takings := Or.inl (am_gi (tb_5 (List.mem_of_getElem? (i := 3) rfl)) rfl)
theorem lk_U_281 : am_link "UnseenRing" 281 y_U_pitch := Or.inl (am_gi (tb_5 (List.mem_of_getElem? (i := 7) rfl)) rfl)
theorem lk_U_285 : am_link "UnseenRing" 285 y_Square_coinsFrom := Or.inl (am_gi (tb_5 (List.mem_of_getElem? (i := 11) rfl)) rfl)
theorem lm_Square_137 : Cond.methodLink "UnseenRing$Square" 137 Lib.Math.max.name ∈ am_gt := am_gi (tb_5 (List.mem_of_getElem? (i := 15) rfl)) rfl
theorem lk_Square_137 : am_link "UnseenRing$Square" 137 y_Math_max := Or.inl (am_gi (tb_5 (List.mem_of_getElem? (i := 15) rfl)) rfl)
theorem lk_Law_134 : am_link "UnseenRingLaw" 134 y_U_pitch := Or.inl (am_gi (tb_5 (List.mem_of_getElem? (i := 18) rfl)) rfl)
theorem lk_Law_139 : am_link "UnseenRingLaw" 139 y_U_bestPitch := Or.inl (am_gi (tb_5 (List.mem_of_getElem? (i := 19) rfl)) rfl)
theorem lk_U_288 : am_link "UnseenRing" 288 y_Square_cells := Or.inl (am_gi (tb_5 (List.mem_of_getElem? (i := 23) rfl)) rfl)
theorem lk_Law_143 : am_link "UnseenRingLaw" 143 y_U_soon := Or.inl (am_gi (tb_5 (List.mem_of_getElem? (i := 24) rfl)) rfl)
theorem lk_U_291 : am_link "UnseenRing" 291 y_Square_farFromOrgan := Or.inl (am_gi (tb_5 (List.mem_of_getElem? (i := 28) rfl)) rfl)
theorem lk_Law_147 : am_link "UnseenRingLaw" 147 y_U_gather := Or.inl (am_gi (tb_5 (List.mem_of_getElem? (i := 29) rfl)) rfl)
theorem lk_U_294 : am_link "UnseenRing" 294 y_U_canGather := Or.inl (am_gi (tb_5 (List.mem_of_getElem? (i := 33) rfl)) rfl)
theorem lk_U_307 : am_link "UnseenRing" 307 y_U_isSet := Or.inl (am_gi (tb_5 (List.mem_of_getElem? (i := 37) rfl)) rfl)
theorem lk_U_310 : am_link "UnseenRing" 310 y_Integer_bitCount := Or.inl (am_gi (tb_5 (List.mem_of_getElem? (i := 40) rfl)) rfl)
theorem lk_U_297 : am_link "UnseenRing" 297 y_Rows_fewestTunes := Or.inl (am_gi (tb_5 (List.mem_of_getElem? (i := 41) rfl)) rfl)
theorem lk_Rows_32 : am_link "UnseenRing$Rows" 32 y_Arrays_fillI := Or.inl (am_gi (tb_5 (List.mem_of_getElem? (i := 45) rfl)) rfl)
theorem lk_Rows_44 : am_link "UnseenRing$Rows" 44 y_Square_farFromOrgan := Or.inl (am_gi (tb_5 (List.mem_of_getElem? (i := 48) rfl)) rfl)
theorem lk_Rows_49 : am_link "UnseenRing$Rows" 49 y_Rows_index := Or.inl (am_gi (tb_5 (List.mem_of_getElem? (i := 49) rfl)) rfl)
theorem lk_Rows_53 : am_link "UnseenRing$Rows" 53 y_Rows_fewestFrom := Or.inl (am_gi (tb_5 (List.mem_of_getElem? (i := 52) rfl)) rfl)
theorem lk_Rows_56 : am_link "UnseenRing$Rows" 56 y_Rows_left := Or.inl (am_gi (tb_5 (List.mem_of_getElem? (i := 56) rfl)) rfl)
theorem lm_Rows_59 : Cond.methodLink "UnseenRing$Rows" 59 Lib.Math.min.name ∈ am_gt := am_gi (tb_5 (List.mem_of_getElem? (i := 60) rfl)) rfl
theorem lk_Rows_59 : am_link "UnseenRing$Rows" 59 y_Math_min := Or.inl (am_gi (tb_5 (List.mem_of_getElem? (i := 60) rfl)) rfl)
theorem lk_U_301 : am_link "UnseenRing" 301 y_U_answeredIfThereIs := Or.inl (am_gi (tb_5 (List.mem_of_getElem? (i := 61) rfl)) rfl)
theorem lk_Law_151 : am_link "UnseenRingLaw" 151 y_U_gatherAt := Or.inl (am_gi (tb_5 (List.mem_of_getElem? (i := 65) rfl)) rfl)
theorem lk_U_304 : am_link "UnseenRing" 304 y_Rows_tuneOfRow := Or.inl (am_gi (tb_5 (List.mem_of_getElem? (i := 69) rfl)) rfl)
theorem lk_Rows_65 : am_link "UnseenRing$Rows" 65 y_Rows_firstGoodTune := Or.inl (am_gi (tb_5 (List.mem_of_getElem? (i := 73) rfl)) rfl)
theorem lk_Law_155 : am_link "UnseenRingLaw" 155 y_U_explain := Or.inl (am_gi (tb_5 (List.mem_of_getElem? (i := 77) rfl)) rfl)
theorem lk_U_318 : am_link "UnseenRing" 318 y_Placings_look := Or.inl (am_gi (tb_5 (List.mem_of_getElem? (i := 81) rfl)) rfl)
theorem lk_Placings_22 : am_link "UnseenRing$Placings" 22 y_Square_cells := Or.inl (am_gi (tb_5 (List.mem_of_getElem? (i := 85) rfl)) rfl)
theorem lm_Placings_27 : Cond.methodLink "UnseenRing$Placings" 27 Lib.Math.min.name ∈ am_gt := am_gi (tb_5 (List.mem_of_getElem? (i := 86) rfl)) rfl
theorem lk_Placings_27 : am_link "UnseenRing$Placings" 27 y_Math_min := Or.inl (am_gi (tb_5 (List.mem_of_getElem? (i := 86) rfl)) rfl)
theorem lk_Placings_33 : am_link "UnseenRing$Placings" 33 y_Square_dogsUpFrom := Or.inl (am_gi (tb_5 (List.mem_of_getElem? (i := 87) rfl)) rfl)
theorem lk_U_322 : am_link "UnseenRing" 322 y_Placings_fewestCells := Or.inl (am_gi (tb_5 (List.mem_of_getElem? (i := 88) rfl)) rfl)
theorem lk_Placings_37 : am_link "UnseenRing$Placings" 37 y_Arrays_fillI := Or.inl (am_gi (tb_5 (List.mem_of_getElem? (i := 92) rfl)) rfl)
theorem lk_Law_159 : am_link "UnseenRingLaw" 159 y_U_placings := Or.inl (am_gi (tb_5 (List.mem_of_getElem? (i := 93) rfl)) rfl)
theorem lk_U_325 : am_link "UnseenRing" 325 y_U_isPlacing := Or.inl (am_gi (tb_5 (List.mem_of_getElem? (i := 97) rfl)) rfl)
theorem lk_U_328 : am_link "UnseenRing" 328 y_Placings_countWithout := Or.inl (am_gi (tb_5 (List.mem_of_getElem? (i := 101) rfl)) rfl)
theorem lk_Placings_43 : am_link "UnseenRing$Placings" 43 y_Placings_cellsWithin := Or.inl (am_gi (tb_5 (List.mem_of_getElem? (i := 105) rfl)) rfl)
theorem lk_Placings_46 : am_link "UnseenRing$Placings" 46 y_U_choose := Or.inr ⟨_, tb_5 (List.mem_of_getElem? (i := 109) rfl)⟩
theorem lk_Placings_49 : am_link "UnseenRing$Placings" 49 y_Integer_bitCount := Or.inl (am_gi (tb_5 (List.mem_of_getElem? (i := 112) rfl)) rfl)
theorem lk_Law_163 : am_link "UnseenRingLaw" 163 y_U_oddsThat := Or.inl (am_gi (tb_5 (List.mem_of_getElem? (i := 113) rfl)) rfl)
theorem lk_U_331 : am_link "UnseenRing" 331 y_U_tellFraction := Or.inl (am_gi (tb_5 (List.mem_of_getElem? (i := 117) rfl)) rfl)
theorem lk_U_411 : am_link "UnseenRing" 411 y_U_commonDivisor := Or.inl (am_gi (tb_5 (List.mem_of_getElem? (i := 121) rfl)) rfl)
theorem lk_Law_167 : am_link "UnseenRingLaw" 167 y_U_aim := Or.inl (am_gi (tb_5 (List.mem_of_getElem? (i := 124) rfl)) rfl)
theorem lk_U_335 : am_link "UnseenRing" 335 y_Placings_cellThatHitsMost := Or.inl (am_gi (tb_5 (List.mem_of_getElem? (i := 128) rfl)) rfl)
theorem lk_Placings_54 : am_link "UnseenRing$Placings" 54 y_Placings_countWithout := Or.inl (am_gi (tb_5 (List.mem_of_getElem? (i := 132) rfl)) rfl)
theorem lk_Placings_58 : am_link "UnseenRing$Placings" 58 y_Placings_hitCells := Or.inl (am_gi (tb_5 (List.mem_of_getElem? (i := 133) rfl)) rfl)
theorem lk_Placings_62 : am_link "UnseenRing$Placings" 62 y_Square_isNear := Or.inl (am_gi (tb_5 (List.mem_of_getElem? (i := 137) rfl)) rfl)
theorem lk_Law_171 : am_link "UnseenRingLaw" 171 y_U_cover := Or.inl (am_gi (tb_5 (List.mem_of_getElem? (i := 138) rfl)) rfl)
theorem lk_U_339 : am_link "UnseenRing" 339 y_U_coverStatus := Or.inl (am_gi (tb_5 (List.mem_of_getElem? (i := 142) rfl)) rfl)
theorem lk_U_348 : am_link "UnseenRing" 348 y_Covering_solve := Or.inl (am_gi (tb_5 (List.mem_of_getElem? (i := 146) rfl)) rfl)
theorem lk_Covering_25 : am_link "UnseenRing$Covering" 25 y_Square_cells := Or.inl (am_gi (tb_5 (List.mem_of_getElem? (i := 150) rfl)) rfl)
theorem lm_Covering_30 : Cond.methodLink "UnseenRing$Covering" 30 Lib.Math.min.name ∈ am_gt := am_gi (tb_5 (List.mem_of_getElem? (i := 151) rfl)) rfl
theorem lk_Covering_30 : am_link "UnseenRing$Covering" 30 y_Math_min := Or.inl (am_gi (tb_5 (List.mem_of_getElem? (i := 151) rfl)) rfl)
theorem lk_Covering_36 : am_link "UnseenRing$Covering" 36 y_Arrays_fillI := Or.inl (am_gi (tb_5 (List.mem_of_getElem? (i := 152) rfl)) rfl)
theorem lk_Covering_42 : am_link "UnseenRing$Covering" 42 y_Tray_numberAt := Or.inl (am_gi (tb_5 (List.mem_of_getElem? (i := 153) rfl)) rfl)
theorem lk_Covering_48 : am_link "UnseenRing$Covering" 48 y_Square_isNear := Or.inl (am_gi (tb_5 (List.mem_of_getElem? (i := 154) rfl)) rfl)
theorem lk_Covering_52 : am_link "UnseenRing$Covering" 52 y_Covering_fewestFor := Or.inl (am_gi (tb_5 (List.mem_of_getElem? (i := 155) rfl)) rfl)
theorem lk_U_342 : am_link "UnseenRing" 342 y_Covering_fewestThrows := Or.inl (am_gi (tb_5 (List.mem_of_getElem? (i := 159) rfl)) rfl)
theorem lk_Law_175 : am_link "UnseenRingLaw" 175 y_U_coverAt := Or.inl (am_gi (tb_5 (List.mem_of_getElem? (i := 163) rfl)) rfl)
theorem lk_U_345 : am_link "UnseenRing" 345 y_Covering_cellOfRow := Or.inl (am_gi (tb_5 (List.mem_of_getElem? (i := 167) rfl)) rfl)
theorem lk_Covering_56 : am_link "UnseenRing$Covering" 56 y_Covering_firstGoodCell := Or.inl (am_gi (tb_5 (List.mem_of_getElem? (i := 171) rfl)) rfl)
theorem lk_Law_179 : am_link "UnseenRingLaw" 179 y_U_fits := Or.inl (am_gi (tb_5 (List.mem_of_getElem? (i := 175) rfl)) rfl)
theorem lk_U_352 : am_link "UnseenRing" 352 y_U_fitStatus := Or.inl (am_gi (tb_5 (List.mem_of_getElem? (i := 179) rfl)) rfl)
theorem k_U_362 : Cond.constantLong "UnseenRing" 362 (8) ∈ am_gt := am_gi (tb_5 (List.mem_of_getElem? (i := 183) rfl)) rfl
theorem lk_U_358 : am_link "UnseenRing" 358 y_U_doesFit := Or.inl (am_gi (tb_5 (List.mem_of_getElem? (i := 184) rfl)) rfl)
theorem lk_Law_183 : am_link "UnseenRingLaw" 183 y_U_sure := Or.inl (am_gi (tb_5 (List.mem_of_getElem? (i := 188) rfl)) rfl)
theorem lk_Law_187 : am_link "UnseenRingLaw" 187 y_U_rounds := Or.inl (am_gi (tb_5 (List.mem_of_getElem? (i := 192) rfl)) rfl)
theorem lk_U_364 : am_link "UnseenRing" 364 y_U_isKnowing := Or.inl (am_gi (tb_5 (List.mem_of_getElem? (i := 196) rfl)) rfl)
theorem lk_U_367 : am_link "UnseenRing" 367 y_Knowing_firstRound := Or.inl (am_gi (tb_5 (List.mem_of_getElem? (i := 200) rfl)) rfl)
theorem lk_Knowing_23 : am_link "UnseenRing$Knowing" 23 y_Knowing_look := Or.inl (am_gi (tb_5 (List.mem_of_getElem? (i := 204) rfl)) rfl)
theorem lk_Knowing_41 : am_link "UnseenRing$Knowing" 41 y_Square_hearersNear := Or.inl (am_gi (tb_5 (List.mem_of_getElem? (i := 208) rfl)) rfl)
theorem lk_Knowing_27 : am_link "UnseenRing$Knowing" 27 y_Knowing_knowersIn := Or.inl (am_gi (tb_5 (List.mem_of_getElem? (i := 209) rfl)) rfl)
theorem lk_Knowing_48 : am_link "UnseenRing$Knowing" 48 y_Knowing_knows := Or.inl (am_gi (tb_5 (List.mem_of_getElem? (i := 213) rfl)) rfl)
theorem lk_Knowing_45 : am_link "UnseenRing$Knowing" 45 y_Knowing_isPossible := Or.inl (am_gi (tb_5 (List.mem_of_getElem? (i := 217) rfl)) rfl)
theorem lk_Knowing_31 : am_link "UnseenRing$Knowing" 31 y_Knowing_hearAll := Or.inl (am_gi (tb_5 (List.mem_of_getElem? (i := 221) rfl)) rfl)
theorem lk_Law_191 : am_link "UnseenRingLaw" 191 y_U_knowers := Or.inl (am_gi (tb_5 (List.mem_of_getElem? (i := 225) rfl)) rfl)
theorem lk_U_370 : am_link "UnseenRing" 370 y_Knowing_knowersOf := Or.inl (am_gi (tb_5 (List.mem_of_getElem? (i := 229) rfl)) rfl)
theorem lk_Law_195 : am_link "UnseenRingLaw" 195 y_U_game := Or.inl (am_gi (tb_5 (List.mem_of_getElem? (i := 233) rfl)) rfl)
theorem lk_U_374 : am_link "UnseenRing" 374 y_Rows_coinsOfGame := Or.inl (am_gi (tb_5 (List.mem_of_getElem? (i := 237) rfl)) rfl)
theorem lk_Rows_68 : am_link "UnseenRing$Rows" 68 y_Rows_setUp := Or.inl (am_gi (tb_6 (List.mem_of_getElem? (i := 1) rfl)) rfl)
theorem lk_Rows_72 : am_link "UnseenRing$Rows" 72 y_Rows_value := Or.inl (am_gi (tb_6 (List.mem_of_getElem? (i := 5) rfl)) rfl)
theorem lk_Rows_79 : am_link "UnseenRing$Rows" 79 y_Rows_coinsCome := Or.inl (am_gi (tb_6 (List.mem_of_getElem? (i := 9) rfl)) rfl)
theorem lk_Rows_86 : am_link "UnseenRing$Rows" 86 y_Square_doesLike := Or.inl (am_gi (tb_6 (List.mem_of_getElem? (i := 13) rfl)) rfl)
theorem lm_Rows_83 : Cond.methodLink "UnseenRing$Rows" 83 Lib.Math.max.name ∈ am_gt := am_gi (tb_6 (List.mem_of_getElem? (i := 14) rfl)) rfl
theorem lk_Rows_83 : am_link "UnseenRing$Rows" 83 y_Math_max := Or.inl (am_gi (tb_6 (List.mem_of_getElem? (i := 14) rfl)) rfl)
theorem lk_Rows_75 : am_link "UnseenRing$Rows" 75 y_Rows_valueBehind := Or.inl (am_gi (tb_6 (List.mem_of_getElem? (i := 15) rfl)) rfl)
theorem lk_Law_199 : am_link "UnseenRingLaw" 199 y_U_moveOf := Or.inl (am_gi (tb_6 (List.mem_of_getElem? (i := 19) rfl)) rfl)
theorem lk_U_377 : am_link "UnseenRing" 377 y_Rows_firstTuneOfGame := Or.inl (am_gi (tb_6 (List.mem_of_getElem? (i := 23) rfl)) rfl)
theorem lk_Law_203 : am_link "UnseenRingLaw" 203 y_U_crowd := Or.inl (am_gi (tb_6 (List.mem_of_getElem? (i := 27) rfl)) rfl)
theorem lk_U_380 : am_link "UnseenRing" 380 y_U_choose := Or.inl (am_gi (tb_6 (List.mem_of_getElem? (i := 31) rfl)) rfl)
theorem lk_U_383 : am_link "UnseenRing" 383 y_U_power := Or.inl (am_gi (tb_6 (List.mem_of_getElem? (i := 32) rfl)) rfl)
theorem lk_Law_207 : am_link "UnseenRingLaw" 207 y_U_share := Or.inl (am_gi (tb_6 (List.mem_of_getElem? (i := 35) rfl)) rfl)
theorem lk_Law_211 : am_link "UnseenRingLaw" 211 y_U_copyCells := Or.inl (am_gi (tb_6 (List.mem_of_getElem? (i := 39) rfl)) rfl)
theorem lk_Law_215 : am_link "UnseenRingLaw" 215 y_U_live := Or.inl (am_gi (tb_6 (List.mem_of_getElem? (i := 43) rfl)) rfl)
theorem lk_U_394 : am_link "UnseenRing" 394 y_Life_run := Or.inl (am_gi (tb_6 (List.mem_of_getElem? (i := 47) rfl)) rfl)
theorem k_Life_58 : Cond.constant "UnseenRing$Life" 58 (100000) ∈ am_gt := am_gi (tb_6 (List.mem_of_getElem? (i := 51) rfl)) rfl
theorem lk_Life_67 : am_link "UnseenRing$Life" 67 y_Life_behindEnd := Or.inl (am_gi (tb_6 (List.mem_of_getElem? (i := 52) rfl)) rfl)
theorem lk_Life_71 : am_link "UnseenRing$Life" 71 y_Life_act := Or.inl (am_gi (tb_6 (List.mem_of_getElem? (i := 56) rfl)) rfl)
theorem lk_Life_113 : am_link "UnseenRing$Life" 113 y_Life_playOne := Or.inl (am_gi (tb_6 (List.mem_of_getElem? (i := 60) rfl)) rfl)
theorem lk_Life_153 : am_link "UnseenRing$Life" 153 y_Square_playTune := Or.inl (am_gi (tb_6 (List.mem_of_getElem? (i := 64) rfl)) rfl)
theorem lk_Life_116 : am_link "UnseenRing$Life" 116 y_Life_throwOne := Or.inl (am_gi (tb_6 (List.mem_of_getElem? (i := 65) rfl)) rfl)
theorem lk_Life_156 : am_link "UnseenRing$Life" 156 y_Square_flour := Or.inl (am_gi (tb_6 (List.mem_of_getElem? (i := 69) rfl)) rfl)
theorem lk_Life_119 : am_link "UnseenRing$Life" 119 y_Square_moveOrgan := Or.inl (am_gi (tb_6 (List.mem_of_getElem? (i := 70) rfl)) rfl)
theorem lk_Life_122 : am_link "UnseenRing$Life" 122 y_Life_countMissed := Or.inl (am_gi (tb_6 (List.mem_of_getElem? (i := 71) rfl)) rfl)
theorem lk_Life_126 : am_link "UnseenRing$Life" 126 y_Square_moveHearer := Or.inl (am_gi (tb_6 (List.mem_of_getElem? (i := 75) rfl)) rfl)
theorem lk_Life_130 : am_link "UnseenRing$Life" 130 y_Square_brushOff := Or.inl (am_gi (tb_6 (List.mem_of_getElem? (i := 76) rfl)) rfl)
theorem lk_Life_134 : am_link "UnseenRing$Life" 134 y_Square_emptyCup := Or.inl (am_gi (tb_6 (List.mem_of_getElem? (i := 77) rfl)) rfl)
theorem lk_Life_137 : am_link "UnseenRing$Life" 137 y_Life_drawAll := Or.inl (am_gi (tb_6 (List.mem_of_getElem? (i := 78) rfl)) rfl)
theorem lk_Life_144 : am_link "UnseenRing$Life" 144 y_Life_draw := Or.inl (am_gi (tb_6 (List.mem_of_getElem? (i := 82) rfl)) rfl)
theorem k_Life_159 : Cond.constant "UnseenRing$Life" 159 (65536) ∈ am_gt := am_gi (tb_6 (List.mem_of_getElem? (i := 86) rfl)) rfl
theorem lk_Life_147 : am_link "UnseenRing$Life" 147 y_Square_cells := Or.inl (am_gi (tb_6 (List.mem_of_getElem? (i := 87) rfl)) rfl)
theorem lk_Life_75 : am_link "UnseenRing$Life" 75 y_Life_behindStep := Or.inl (am_gi (tb_6 (List.mem_of_getElem? (i := 88) rfl)) rfl)
theorem lk_Life_85 : am_link "UnseenRing$Life" 85 y_Life_holds := Or.inl (am_gi (tb_6 (List.mem_of_getElem? (i := 92) rfl)) rfl)
theorem lk_Life_89 : am_link "UnseenRing$Life" 89 y_Square_isUp := Or.inl (am_gi (tb_6 (List.mem_of_getElem? (i := 96) rfl)) rfl)
theorem lk_Life_93 : am_link "UnseenRing$Life" 93 y_Square_isSeen := Or.inl (am_gi (tb_6 (List.mem_of_getElem? (i := 97) rfl)) rfl)
theorem lk_Life_105 : am_link "UnseenRing$Life" 105 y_Life_compares := Or.inl (am_gi (tb_6 (List.mem_of_getElem? (i := 98) rfl)) rfl)
theorem lk_Life_109 : am_link "UnseenRing$Life" 109 y_Square_farFromOrgan := Or.inl (am_gi (tb_6 (List.mem_of_getElem? (i := 101) rfl)) rfl)
theorem lk_Law_219 : am_link "UnseenRingLaw" 219 y_U_lived := Or.inl (am_gi (tb_6 (List.mem_of_getElem? (i := 102) rfl)) rfl)
theorem lk_U_402 : am_link "UnseenRing" 402 y_Life_count := Or.inl (am_gi (tb_6 (List.mem_of_getElem? (i := 106) rfl)) rfl)
theorem lk_Law_223 : am_link "UnseenRingLaw" 223 y_U_mean := Or.inl (am_gi (tb_6 (List.mem_of_getElem? (i := 110) rfl)) rfl)
theorem lk_U_405 : am_link "UnseenRing" 405 y_Square_copyFrom := Or.inl (am_gi (tb_6 (List.mem_of_getElem? (i := 114) rfl)) rfl)
theorem la_Square_69 : Cond.methodLink "UnseenRing$Square" 69 arraycopyName ∈ am_gt := am_gi (tb_6 (List.mem_of_getElem? (i := 118) rfl)) rfl
theorem lk_Square_75 : am_link "UnseenRing$Square" 75 y_Days_copyFrom := Or.inl (am_gi (tb_6 (List.mem_of_getElem? (i := 119) rfl)) rfl)
theorem la_Days_36 : Cond.methodLink "UnseenRing$Days" 36 arraycopyName ∈ am_gt := am_gi (tb_6 (List.mem_of_getElem? (i := 123) rfl)) rfl
theorem lk_Law_228 : am_link "UnseenRingLaw" 228 y_U_mark := Or.inl (am_gi (tb_6 (List.mem_of_getElem? (i := 124) rfl)) rfl)
theorem lk_Law_232 : am_link "UnseenRingLaw" 232 y_U_undo := Or.inl (am_gi (tb_6 (List.mem_of_getElem? (i := 128) rfl)) rfl)
theorem cl_Law_10 : Cond.classLink "UnseenRingLaw" 10 "UnseenRingModel" ∈ am_gt := am_gi (tb_6 (List.mem_of_getElem? (i := 132) rfl)) rfl
theorem it_M : Cond.instantiable "UnseenRingModel" 51 ∈ am_gt := am_gi (tb_6 (List.mem_of_getElem? (i := 133) rfl)) rfl
theorem lk_Law_12 : am_link "UnseenRingLaw" 12 y_M_init := Or.inl (am_gi (tb_6 (List.mem_of_getElem? (i := 134) rfl)) rfl)
theorem lo_M_1 : Cond.methodLink "UnseenRingModel" 1 Lib.objectInit ∈ am_gt := am_gi (tb_6 (List.mem_of_getElem? (i := 137) rfl)) rfl
theorem lk_M_111 : am_link "UnseenRingModel" 111 y_M_plain := Or.inl (am_gi (tb_6 (List.mem_of_getElem? (i := 138) rfl)) rfl)
theorem f_M_7 : am_fld "UnseenRingModel" 7 12 0 := ⟨_, rfl, by decide, am_gi (tb_6 (List.mem_of_getElem? (i := 142) rfl)) rfl⟩
theorem f_M_13 : am_fld "UnseenRingModel" 13 12 1 := ⟨_, rfl, by decide, am_gi (tb_6 (List.mem_of_getElem? (i := 143) rfl)) rfl⟩
theorem f_M_115 : am_fld "UnseenRingModel" 115 12 2 := ⟨_, rfl, by decide, am_gi (tb_6 (List.mem_of_getElem? (i := 144) rfl)) rfl⟩
theorem f_M_118 : am_fld "UnseenRingModel" 118 12 3 := ⟨_, rfl, by decide, am_gi (tb_6 (List.mem_of_getElem? (i := 145) rfl)) rfl⟩
theorem f_M_17 : am_fld "UnseenRingModel" 17 12 4 := ⟨_, rfl, by decide, am_gi (tb_6 (List.mem_of_getElem? (i := 146) rfl)) rfl⟩
theorem f_M_21 : am_fld "UnseenRingModel" 21 12 5 := ⟨_, rfl, by decide, am_gi (tb_6 (List.mem_of_getElem? (i := 147) rfl)) rfl⟩
theorem f_M_24 : am_fld "UnseenRingModel" 24 12 6 := ⟨_, rfl, by decide, am_gi (tb_6 (List.mem_of_getElem? (i := 148) rfl)) rfl⟩
theorem f_M_27 : am_fld "UnseenRingModel" 27 12 7 := ⟨_, rfl, by decide, am_gi (tb_6 (List.mem_of_getElem? (i := 149) rfl)) rfl⟩
theorem f_M_30 : am_fld "UnseenRingModel" 30 12 8 := ⟨_, rfl, by decide, am_gi (tb_6 (List.mem_of_getElem? (i := 150) rfl)) rfl⟩
theorem f_M_34 : am_fld "UnseenRingModel" 34 12 9 := ⟨_, rfl, by decide, am_gi (tb_6 (List.mem_of_getElem? (i := 151) rfl)) rfl⟩
theorem f_M_145 : am_fld "UnseenRingModel" 145 12 10 := ⟨_, rfl, by decide, am_gi (tb_6 (List.mem_of_getElem? (i := 152) rfl)) rfl⟩
theorem f_M_151 : am_fld "UnseenRingModel" 151 12 11 := ⟨_, rfl, by decide, am_gi (tb_6 (List.mem_of_getElem? (i := 153) rfl)) rfl⟩
theorem f_M_166 : am_fld "UnseenRingModel" 166 12 12 := ⟨_, rfl, by decide, am_gi (tb_6 (List.mem_of_getElem? (i := 154) rfl)) rfl⟩
theorem f_M_160 : am_fld "UnseenRingModel" 160 12 13 := ⟨_, rfl, by decide, am_gi (tb_6 (List.mem_of_getElem? (i := 155) rfl)) rfl⟩
theorem f_M_154 : am_fld "UnseenRingModel" 154 12 14 := ⟨_, rfl, by decide, am_gi (tb_6 (List.mem_of_getElem? (i := 156) rfl)) rfl⟩
theorem f_M_163 : am_fld "UnseenRingModel" 163 12 15 := ⟨_, rfl, by decide, am_gi (tb_6 (List.mem_of_getElem? (i := 157) rfl)) rfl⟩
theorem f_M_37 : am_fld "UnseenRingModel" 37 12 16 := ⟨_, rfl, by decide, am_gi (tb_6 (List.mem_of_getElem? (i := 158) rfl)) rfl⟩
theorem f_M_41 : am_fld "UnseenRingModel" 41 12 17 := ⟨_, rfl, by decide, am_gi (tb_6 (List.mem_of_getElem? (i := 159) rfl)) rfl⟩
theorem f_M_191 : am_fld "UnseenRingModel" 191 12 18 := ⟨_, rfl, by decide, am_gi (tb_6 (List.mem_of_getElem? (i := 160) rfl)) rfl⟩
theorem f_M_194 : am_fld "UnseenRingModel" 194 12 19 := ⟨_, rfl, by decide, am_gi (tb_6 (List.mem_of_getElem? (i := 161) rfl)) rfl⟩
theorem f_M_254 : am_fld "UnseenRingModel" 254 12 20 := ⟨_, rfl, by decide, am_gi (tb_6 (List.mem_of_getElem? (i := 162) rfl)) rfl⟩
theorem f_M_44 : am_fld "UnseenRingModel" 44 12 21 := ⟨_, rfl, by decide, am_gi (tb_6 (List.mem_of_getElem? (i := 163) rfl)) rfl⟩
theorem f_M_294 : am_fld "UnseenRingModel" 294 12 22 := ⟨_, rfl, by decide, am_gi (tb_6 (List.mem_of_getElem? (i := 164) rfl)) rfl⟩
theorem f_M_297 : am_fld "UnseenRingModel" 297 12 23 := ⟨_, rfl, by decide, am_gi (tb_6 (List.mem_of_getElem? (i := 165) rfl)) rfl⟩
theorem f_M_47 : am_fld "UnseenRingModel" 47 12 24 := ⟨_, rfl, by decide, am_gi (tb_6 (List.mem_of_getElem? (i := 166) rfl)) rfl⟩
theorem f_M_50 : am_fld "UnseenRingModel" 50 12 25 := ⟨_, rfl, by decide, am_gi (tb_6 (List.mem_of_getElem? (i := 167) rfl)) rfl⟩
theorem f_M_389 : am_fld "UnseenRingModel" 389 12 26 := ⟨_, rfl, by decide, am_gi (tb_6 (List.mem_of_getElem? (i := 168) rfl)) rfl⟩
theorem f_M_53 : am_fld "UnseenRingModel" 53 12 27 := ⟨_, rfl, by decide, am_gi (tb_6 (List.mem_of_getElem? (i := 169) rfl)) rfl⟩
theorem f_M_56 : am_fld "UnseenRingModel" 56 12 28 := ⟨_, rfl, by decide, am_gi (tb_6 (List.mem_of_getElem? (i := 170) rfl)) rfl⟩
theorem f_M_59 : am_fld "UnseenRingModel" 59 12 29 := ⟨_, rfl, by decide, am_gi (tb_6 (List.mem_of_getElem? (i := 171) rfl)) rfl⟩
theorem f_M_62 : am_fld "UnseenRingModel" 62 12 30 := ⟨_, rfl, by decide, am_gi (tb_6 (List.mem_of_getElem? (i := 172) rfl)) rfl⟩
theorem f_M_65 : am_fld "UnseenRingModel" 65 12 31 := ⟨_, rfl, by decide, am_gi (tb_6 (List.mem_of_getElem? (i := 173) rfl)) rfl⟩
theorem f_M_68 : am_fld "UnseenRingModel" 68 12 32 := ⟨_, rfl, by decide, am_gi (tb_6 (List.mem_of_getElem? (i := 174) rfl)) rfl⟩
theorem f_M_406 : am_fld "UnseenRingModel" 406 12 33 := ⟨_, rfl, by decide, am_gi (tb_6 (List.mem_of_getElem? (i := 175) rfl)) rfl⟩
theorem f_M_71 : am_fld "UnseenRingModel" 71 12 34 := ⟨_, rfl, by decide, am_gi (tb_6 (List.mem_of_getElem? (i := 176) rfl)) rfl⟩
theorem f_M_74 : am_fld "UnseenRingModel" 74 12 35 := ⟨_, rfl, by decide, am_gi (tb_6 (List.mem_of_getElem? (i := 177) rfl)) rfl⟩
theorem f_M_78 : am_fld "UnseenRingModel" 78 12 36 := ⟨_, rfl, by decide, am_gi (tb_6 (List.mem_of_getElem? (i := 178) rfl)) rfl⟩
theorem f_M_81 : am_fld "UnseenRingModel" 81 12 37 := ⟨_, rfl, by decide, am_gi (tb_6 (List.mem_of_getElem? (i := 179) rfl)) rfl⟩
theorem f_M_84 : am_fld "UnseenRingModel" 84 12 38 := ⟨_, rfl, by decide, am_gi (tb_6 (List.mem_of_getElem? (i := 180) rfl)) rfl⟩
theorem f_M_87 : am_fld "UnseenRingModel" 87 12 39 := ⟨_, rfl, by decide, am_gi (tb_6 (List.mem_of_getElem? (i := 181) rfl)) rfl⟩
theorem f_M_90 : am_fld "UnseenRingModel" 90 12 40 := ⟨_, rfl, by decide, am_gi (tb_6 (List.mem_of_getElem? (i := 182) rfl)) rfl⟩
theorem f_M_93 : am_fld "UnseenRingModel" 93 12 41 := ⟨_, rfl, by decide, am_gi (tb_6 (List.mem_of_getElem? (i := 183) rfl)) rfl⟩
theorem f_M_96 : am_fld "UnseenRingModel" 96 12 42 := ⟨_, rfl, by decide, am_gi (tb_6 (List.mem_of_getElem? (i := 184) rfl)) rfl⟩
theorem f_M_99 : am_fld "UnseenRingModel" 99 12 43 := ⟨_, rfl, by decide, am_gi (tb_6 (List.mem_of_getElem? (i := 185) rfl)) rfl⟩
theorem f_M_482 : am_fld "UnseenRingModel" 482 12 44 := ⟨_, rfl, by decide, am_gi (tb_6 (List.mem_of_getElem? (i := 186) rfl)) rfl⟩
theorem f_M_498 : am_fld "UnseenRingModel" 498 12 45 := ⟨_, rfl, by decide, am_gi (tb_6 (List.mem_of_getElem? (i := 187) rfl)) rfl⟩
theorem f_M_102 : am_fld "UnseenRingModel" 102 12 46 := ⟨_, rfl, by decide, am_gi (tb_6 (List.mem_of_getElem? (i := 188) rfl)) rfl⟩
theorem f_M_105 : am_fld "UnseenRingModel" 105 12 47 := ⟨_, rfl, by decide, am_gi (tb_6 (List.mem_of_getElem? (i := 189) rfl)) rfl⟩
theorem f_M_108 : am_fld "UnseenRingModel" 108 12 48 := ⟨_, rfl, by decide, am_gi (tb_6 (List.mem_of_getElem? (i := 190) rfl)) rfl⟩
theorem f_M_515 : am_fld "UnseenRingModel" 515 12 49 := ⟨_, rfl, by decide, am_gi (tb_6 (List.mem_of_getElem? (i := 191) rfl)) rfl⟩
theorem f_M_519 : am_fld "UnseenRingModel" 519 12 50 := ⟨_, rfl, by decide, am_gi (tb_6 (List.mem_of_getElem? (i := 192) rfl)) rfl⟩
theorem ar_boolean : Cond.arrayClass .boolean ∈ am_gt := am_gi (tb_7 (List.mem_of_getElem? (i := 56) rfl)) rfl
theorem lk_Law_17 : am_link "UnseenRingLaw" 17 y_M_status := Or.inl (am_gi (tb_7 (List.mem_of_getElem? (i := 57) rfl)) rfl)
theorem lk_Law_22 : am_link "UnseenRingLaw" 22 y_M_top := Or.inl (am_gi (tb_7 (List.mem_of_getElem? (i := 61) rfl)) rfl)
theorem lk_Law_26 : am_link "UnseenRingLaw" 26 y_M_bottom := Or.inl (am_gi (tb_7 (List.mem_of_getElem? (i := 65) rfl)) rfl)
theorem lk_Law_31 : am_link "UnseenRingLaw" 31 y_M_tray := Or.inl (am_gi (tb_7 (List.mem_of_getElem? (i := 69) rfl)) rfl)
theorem lk_M_132 : am_link "UnseenRingModel" 132 y_M_isTray := Or.inl (am_gi (tb_7 (List.mem_of_getElem? (i := 73) rfl)) rfl)
theorem lk_M_128 : am_link "UnseenRingModel" 128 y_M_is := Or.inl (am_gi (tb_7 (List.mem_of_getElem? (i := 76) rfl)) rfl)
theorem lk_Law_38 : am_link "UnseenRingLaw" 38 y_M_write := Or.inl (am_gi (tb_7 (List.mem_of_getElem? (i := 80) rfl)) rfl)
theorem lk_M_135 : am_link "UnseenRingModel" 135 y_M_wrongPlace := Or.inl (am_gi (tb_7 (List.mem_of_getElem? (i := 84) rfl)) rfl)
theorem lk_M_139 : am_link "UnseenRingModel" 139 y_M_cut := Or.inl (am_gi (tb_7 (List.mem_of_getElem? (i := 88) rfl)) rfl)
theorem lk_Law_43 : am_link "UnseenRingLaw" 43 y_M_read := Or.inl (am_gi (tb_7 (List.mem_of_getElem? (i := 91) rfl)) rfl)
theorem k_M_143 : Cond.constantLong "UnseenRingModel" 143 (-1) ∈ am_gt := am_gi (tb_7 (List.mem_of_getElem? (i := 95) rfl)) rfl
theorem lk_Law_48 : am_link "UnseenRingLaw" 48 y_M_pour := Or.inl (am_gi (tb_7 (List.mem_of_getElem? (i := 96) rfl)) rfl)
theorem lk_Law_53 : am_link "UnseenRingLaw" 53 y_M_feed := Or.inl (am_gi (tb_7 (List.mem_of_getElem? (i := 100) rfl)) rfl)
theorem lk_M_148 : am_link "UnseenRingModel" 148 y_M_four := Or.inl (am_gi (tb_7 (List.mem_of_getElem? (i := 104) rfl)) rfl)
theorem lk_Law_66 : am_link "UnseenRingLaw" 66 y_M_fault := Or.inl (am_gi (tb_7 (List.mem_of_getElem? (i := 108) rfl)) rfl)
theorem lk_Law_58 : am_link "UnseenRingLaw" 58 y_M_square := Or.inl (am_gi (tb_7 (List.mem_of_getElem? (i := 112) rfl)) rfl)
theorem lk_M_273 : am_link "UnseenRingModel" 273 y_M_begins := Or.inl (am_gi (tb_7 (List.mem_of_getElem? (i := 116) rfl)) rfl)
theorem lk_M_197 : am_link "UnseenRingModel" 197 y_M_ahead := Or.inl (am_gi (tb_7 (List.mem_of_getElem? (i := 120) rfl)) rfl)
theorem lk_M_157 : am_link "UnseenRingModel" 157 y_M_byteAt := Or.inl (am_gi (tb_7 (List.mem_of_getElem? (i := 124) rfl)) rfl)
theorem lk_M_169 : am_link "UnseenRingModel" 169 y_M_isSmall := Or.inl (am_gi (tb_7 (List.mem_of_getElem? (i := 128) rfl)) rfl)
theorem lk_M_172 : am_link "UnseenRingModel" 172 y_M_isDigit := Or.inl (am_gi (tb_7 (List.mem_of_getElem? (i := 131) rfl)) rfl)
theorem k_M_175 : Cond.constant "UnseenRingModel" 175 (100000) ∈ am_gt := am_gi (tb_7 (List.mem_of_getElem? (i := 134) rfl)) rfl
theorem lm_M_176 : Cond.methodLink "UnseenRingModel" 176 Lib.Math.min.name ∈ am_gt := am_gi (tb_7 (List.mem_of_getElem? (i := 135) rfl)) rfl
theorem lk_M_176 : am_link "UnseenRingModel" 176 y_Math_min := Or.inl (am_gi (tb_7 (List.mem_of_getElem? (i := 135) rfl)) rfl)
theorem lk_M_121 : am_link "UnseenRingModel" 121 y_M_refuse := Or.inl (am_gi (tb_7 (List.mem_of_getElem? (i := 136) rfl)) rfl)
theorem lk_M_276 : am_link "UnseenRingModel" 276 y_M_squarePart := Or.inl (am_gi (tb_7 (List.mem_of_getElem? (i := 140) rfl)) rfl)
theorem lk_M_206 : am_link "UnseenRingModel" 206 y_M_inWords := Or.inl (am_gi (tb_7 (List.mem_of_getElem? (i := 145) rfl)) rfl)
theorem lk_M_181 : am_link "UnseenRingModel" 181 y_String_length := Or.inl (am_gi (tb_7 (List.mem_of_getElem? (i := 149) rfl)) rfl)
theorem lk_M_187 : am_link "UnseenRingModel" 187 y_String_charAt := Or.inl (am_gi (tb_7 (List.mem_of_getElem? (i := 150) rfl)) rfl)
theorem lk_M_203 : am_link "UnseenRingModel" 203 y_M_fails := Or.inl (am_gi (tb_7 (List.mem_of_getElem? (i := 151) rfl)) rfl)
theorem lk_M_257 : am_link "UnseenRingModel" 257 y_M_aSquare := Or.inl (am_gi (tb_7 (List.mem_of_getElem? (i := 155) rfl)) rfl)
theorem lk_M_219 : am_link "UnseenRingModel" 219 y_M_number := Or.inl (am_gi (tb_7 (List.mem_of_getElem? (i := 159) rfl)) rfl)
theorem lk_M_226 : am_link "UnseenRingModel" 226 y_M_wantWord := Or.inl (am_gi (tb_7 (List.mem_of_getElem? (i := 163) rfl)) rfl)
theorem lk_M_244 : am_link "UnseenRingModel" 244 y_M_newCellTo := Or.inl (am_gi (tb_7 (List.mem_of_getElem? (i := 167) rfl)) rfl)
theorem lk_M_223 : am_link "UnseenRingModel" 223 y_M_cellsOf := Or.inl (am_gi (tb_7 (List.mem_of_getElem? (i := 171) rfl)) rfl)
theorem lk_M_261 : am_link "UnseenRingModel" 261 y_M_aTune := Or.inl (am_gi (tb_7 (List.mem_of_getElem? (i := 175) rfl)) rfl)
theorem lk_M_230 : am_link "UnseenRingModel" 230 y_M_isFull := Or.inl (am_gi (tb_7 (List.mem_of_getElem? (i := 179) rfl)) rfl)
theorem lk_M_234 : am_link "UnseenRingModel" 234 y_M_isName := Or.inl (am_gi (tb_7 (List.mem_of_getElem? (i := 183) rfl)) rfl)
theorem lk_M_238 : am_link "UnseenRingModel" 238 y_M_findHere := Or.inl (am_gi (tb_7 (List.mem_of_getElem? (i := 187) rfl)) rfl)
theorem lk_M_210 : am_link "UnseenRingModel" 210 y_M_nameHere := Or.inl (am_gi (tb_7 (List.mem_of_getElem? (i := 191) rfl)) rfl)
theorem lk_M_264 : am_link "UnseenRingModel" 264 y_M_aHearer := Or.inl (am_gi (tb_7 (List.mem_of_getElem? (i := 195) rfl)) rfl)
theorem lk_M_241 : am_link "UnseenRingModel" 241 y_M_hearerRow := Or.inl (am_gi (tb_7 (List.mem_of_getElem? (i := 199) rfl)) rfl)
theorem lk_M_247 : am_link "UnseenRingModel" 247 y_M_perhaps := Or.inl (am_gi (tb_7 (List.mem_of_getElem? (i := 202) rfl)) rfl)
theorem lk_M_216 : am_link "UnseenRingModel" 216 y_M_isThere := Or.inl (am_gi (tb_7 (List.mem_of_getElem? (i := 206) rfl)) rfl)
theorem lk_M_251 : am_link "UnseenRingModel" 251 y_M_isIn := Or.inl (am_gi (tb_7 (List.mem_of_getElem? (i := 210) rfl)) rfl)
theorem lk_M_267 : am_link "UnseenRingModel" 267 y_M_aDog := Or.inl (am_gi (tb_7 (List.mem_of_getElem? (i := 214) rfl)) rfl)
theorem lk_M_270 : am_link "UnseenRingModel" 270 y_M_wantSign := Or.inl (am_gi (tb_7 (List.mem_of_getElem? (i := 218) rfl)) rfl)
theorem lk_M_200 : am_link "UnseenRingModel" 200 y_M_isSign := Or.inl (am_gi (tb_7 (List.mem_of_getElem? (i := 222) rfl)) rfl)
theorem lk_M_279 : am_link "UnseenRingModel" 279 y_M_taken := Or.inl (am_gi (tb_7 (List.mem_of_getElem? (i := 226) rfl)) rfl)
theorem lk_M_125 : am_link "UnseenRingModel" 125 y_M_gives := Or.inl (am_gi (tb_7 (List.mem_of_getElem? (i := 230) rfl)) rfl)
theorem lk_Law_62 : am_link "UnseenRingLaw" 62 y_M_days := Or.inl (am_gi (tb_7 (List.mem_of_getElem? (i := 234) rfl)) rfl)
theorem lk_M_303 : am_link "UnseenRingModel" 303 y_M_dayStep := Or.inl (am_gi (tb_7 (List.mem_of_getElem? (i := 238) rfl)) rfl)
theorem lk_M_300 : am_link "UnseenRingModel" 300 y_M_dayOrder := Or.inl (am_gi (tb_8 (List.mem_of_getElem? (i := 2) rfl)) rfl)
theorem lk_M_285 : am_link "UnseenRingModel" 285 y_M_tuneTo := Or.inl (am_gi (tb_8 (List.mem_of_getElem? (i := 6) rfl)) rfl)
theorem lk_M_288 : am_link "UnseenRingModel" 288 y_M_cellTo := Or.inl (am_gi (tb_8 (List.mem_of_getElem? (i := 10) rfl)) rfl)
theorem lk_M_282 : am_link "UnseenRingModel" 282 y_M_hearerTo := Or.inl (am_gi (tb_8 (List.mem_of_getElem? (i := 14) rfl)) rfl)
theorem lk_M_291 : am_link "UnseenRingModel" 291 y_M_test := Or.inl (am_gi (tb_8 (List.mem_of_getElem? (i := 18) rfl)) rfl)
theorem lk_Law_70 : am_link "UnseenRingLaw" 70 y_M_told := Or.inl (am_gi (tb_8 (List.mem_of_getElem? (i := 22) rfl)) rfl)
theorem lk_M_322 : am_link "UnseenRingModel" 322 y_M_areSeen := Or.inl (am_gi (tb_8 (List.mem_of_getElem? (i := 26) rfl)) rfl)
theorem lk_M_313 : am_link "UnseenRingModel" 313 y_M_hearerOf := Or.inl (am_gi (tb_8 (List.mem_of_getElem? (i := 30) rfl)) rfl)
theorem lk_M_325 : am_link "UnseenRingModel" 325 y_M_dogsUp := Or.inl (am_gi (tb_8 (List.mem_of_getElem? (i := 34) rfl)) rfl)
theorem lk_M_319 : am_link "UnseenRingModel" 319 y_M_dogsBy := Or.inl (am_gi (tb_8 (List.mem_of_getElem? (i := 38) rfl)) rfl)
theorem lk_M_316 : am_link "UnseenRingModel" 316 y_M_farBetween := Or.inl (am_gi (tb_8 (List.mem_of_getElem? (i := 42) rfl)) rfl)
theorem lm_M_310 : Cond.methodLink "UnseenRingModel" 310 Lib.Math.max.name ∈ am_gt := am_gi (tb_8 (List.mem_of_getElem? (i := 46) rfl)) rfl
theorem lk_M_310 : am_link "UnseenRingModel" 310 y_Math_max := Or.inl (am_gi (tb_8 (List.mem_of_getElem? (i := 46) rfl)) rfl)
theorem lk_Law_75 : am_link "UnseenRingLaw" 75 y_M_hearer := Or.inl (am_gi (tb_8 (List.mem_of_getElem? (i := 47) rfl)) rfl)
theorem lk_M_328 : am_link "UnseenRingModel" 328 y_M_isHearer := Or.inl (am_gi (tb_8 (List.mem_of_getElem? (i := 51) rfl)) rfl)
theorem lk_M_331 : am_link "UnseenRingModel" 331 y_M_farOf := Or.inl (am_gi (tb_8 (List.mem_of_getElem? (i := 55) rfl)) rfl)
theorem lk_Law_79 : am_link "UnseenRingLaw" 79 y_M_dog := Or.inl (am_gi (tb_8 (List.mem_of_getElem? (i := 59) rfl)) rfl)
theorem lk_Law_83 : am_link "UnseenRingLaw" 83 y_M_cell := Or.inl (am_gi (tb_8 (List.mem_of_getElem? (i := 63) rfl)) rfl)
theorem lk_M_334 : am_link "UnseenRingModel" 334 y_M_isCell := Or.inl (am_gi (tb_8 (List.mem_of_getElem? (i := 67) rfl)) rfl)
theorem lk_M_337 : am_link "UnseenRingModel" 337 y_M_hearersBy := Or.inl (am_gi (tb_8 (List.mem_of_getElem? (i := 71) rfl)) rfl)
theorem lk_Law_87 : am_link "UnseenRingLaw" 87 y_M_likers := Or.inl (am_gi (tb_8 (List.mem_of_getElem? (i := 75) rfl)) rfl)
theorem lk_M_340 : am_link "UnseenRingModel" 340 y_M_isTune := Or.inl (am_gi (tb_8 (List.mem_of_getElem? (i := 79) rfl)) rfl)
theorem lk_M_343 : am_link "UnseenRingModel" 343 y_M_likersOf := Or.inl (am_gi (tb_8 (List.mem_of_getElem? (i := 83) rfl)) rfl)
theorem lk_Law_91 : am_link "UnseenRingLaw" 91 y_M_play := Or.inl (am_gi (tb_8 (List.mem_of_getElem? (i := 87) rfl)) rfl)
theorem lk_M_349 : am_link "UnseenRingModel" 349 y_M_plays := Or.inl (am_gi (tb_8 (List.mem_of_getElem? (i := 91) rfl)) rfl)
theorem lk_M_346 : am_link "UnseenRingModel" 346 y_M_nearer := Or.inl (am_gi (tb_8 (List.mem_of_getElem? (i := 95) rfl)) rfl)
theorem lk_Law_95 : am_link "UnseenRingLaw" 95 y_M_grind := Or.inl (am_gi (tb_8 (List.mem_of_getElem? (i := 99) rfl)) rfl)
theorem lk_M_352 : am_link "UnseenRingModel" 352 y_M_grinds := Or.inl (am_gi (tb_8 (List.mem_of_getElem? (i := 103) rfl)) rfl)
theorem lk_Law_99 : am_link "UnseenRingLaw" 99 y_M_throwAt := Or.inl (am_gi (tb_8 (List.mem_of_getElem? (i := 107) rfl)) rfl)
theorem lk_M_355 : am_link "UnseenRingModel" 355 y_M_hits := Or.inl (am_gi (tb_8 (List.mem_of_getElem? (i := 111) rfl)) rfl)
theorem lk_Law_103 : am_link "UnseenRingLaw" 103 y_M_brush := Or.inl (am_gi (tb_8 (List.mem_of_getElem? (i := 115) rfl)) rfl)
theorem lk_M_361 : am_link "UnseenRingModel" 361 y_M_brushes := Or.inl (am_gi (tb_8 (List.mem_of_getElem? (i := 119) rfl)) rfl)
theorem lk_M_358 : am_link "UnseenRingModel" 358 y_M_bits := Or.inl (am_gi (tb_8 (List.mem_of_getElem? (i := 123) rfl)) rfl)
theorem lk_Law_107 : am_link "UnseenRingLaw" 107 y_M_send := Or.inl (am_gi (tb_8 (List.mem_of_getElem? (i := 126) rfl)) rfl)
theorem lk_M_364 : am_link "UnseenRingModel" 364 y_M_sends := Or.inl (am_gi (tb_8 (List.mem_of_getElem? (i := 130) rfl)) rfl)
theorem lk_Law_111 : am_link "UnseenRingLaw" 111 y_M_give := Or.inl (am_gi (tb_8 (List.mem_of_getElem? (i := 134) rfl)) rfl)
theorem k_M_367 : Cond.constantLong "UnseenRingModel" 367 (99) ∈ am_gt := am_gi (tb_8 (List.mem_of_getElem? (i := 138) rfl)) rfl
theorem lk_M_306 : am_link "UnseenRingModel" 306 y_M_isFrom := Or.inl (am_gi (tb_8 (List.mem_of_getElem? (i := 139) rfl)) rfl)
theorem lk_Law_116 : am_link "UnseenRingLaw" 116 y_M_teach := Or.inl (am_gi (tb_8 (List.mem_of_getElem? (i := 142) rfl)) rfl)
theorem lk_Law_120 : am_link "UnseenRingLaw" 120 y_M_come := Or.inl (am_gi (tb_8 (List.mem_of_getElem? (i := 146) rfl)) rfl)
theorem lk_Law_124 : am_link "UnseenRingLaw" 124 y_M_empty := Or.inl (am_gi (tb_8 (List.mem_of_getElem? (i := 150) rfl)) rfl)
theorem lk_M_369 : am_link "UnseenRingModel" 369 y_M_empties := Or.inl (am_gi (tb_8 (List.mem_of_getElem? (i := 154) rfl)) rfl)
theorem lk_Law_129 : am_link "UnseenRingLaw" 129 y_M_rule := Or.inl (am_gi (tb_8 (List.mem_of_getElem? (i := 158) rfl)) rfl)
theorem k_M_372 : Cond.constantLong "UnseenRingModel" 372 (16) ∈ am_gt := am_gi (tb_8 (List.mem_of_getElem? (i := 162) rfl)) rfl
theorem lk_Law_133 : am_link "UnseenRingLaw" 133 y_M_takings := Or.inl (am_gi (tb_8 (List.mem_of_getElem? (i := 163) rfl)) rfl)
theorem lk_M_382 : am_link "UnseenRingModel" 382 y_M_isPlay := Or.inl (am_gi (tb_8 (List.mem_of_getElem? (i := 167) rfl)) rfl)
theorem k_M_380 : Cond.constantLong "UnseenRingModel" 380 (20) ∈ am_gt := am_gi (tb_8 (List.mem_of_getElem? (i := 171) rfl)) rfl
theorem lk_M_385 : am_link "UnseenRingModel" 385 y_M_comesBy := Or.inl (am_gi (tb_8 (List.mem_of_getElem? (i := 172) rfl)) rfl)
theorem lk_M_374 : am_link "UnseenRingModel" 374 y_M_keeps := Or.inl (am_gi (tb_8 (List.mem_of_getElem? (i := 176) rfl)) rfl)
theorem lk_M_377 : am_link "UnseenRingModel" 377 y_M_restores := Or.inl (am_gi (tb_8 (List.mem_of_getElem? (i := 180) rfl)) rfl)
theorem lk_Law_138 : am_link "UnseenRingLaw" 138 y_M_pitch := Or.inl (am_gi (tb_8 (List.mem_of_getElem? (i := 184) rfl)) rfl)
theorem lk_Law_142 : am_link "UnseenRingLaw" 142 y_M_bestPitch := Or.inl (am_gi (tb_8 (List.mem_of_getElem? (i := 188) rfl)) rfl)
theorem lk_Law_146 : am_link "UnseenRingLaw" 146 y_M_soon := Or.inl (am_gi (tb_8 (List.mem_of_getElem? (i := 192) rfl)) rfl)
theorem lk_Law_150 : am_link "UnseenRingLaw" 150 y_M_gather := Or.inl (am_gi (tb_8 (List.mem_of_getElem? (i := 196) rfl)) rfl)
theorem lk_M_400 : am_link "UnseenRingModel" 400 y_M_isGather := Or.inl (am_gi (tb_8 (List.mem_of_getElem? (i := 200) rfl)) rfl)
theorem lk_M_396 : am_link "UnseenRingModel" 396 y_M_areHearers := Or.inl (am_gi (tb_8 (List.mem_of_getElem? (i := 204) rfl)) rfl)
theorem lk_M_403 : am_link "UnseenRingModel" 403 y_M_laysGather := Or.inl (am_gi (tb_8 (List.mem_of_getElem? (i := 208) rfl)) rfl)
theorem k_M_392 : Cond.constant "UnseenRingModel" 392 (1000000) ∈ am_gt := am_gi (tb_8 (List.mem_of_getElem? (i := 212) rfl)) rfl
theorem lk_M_393 : am_link "UnseenRingModel" 393 y_M_behindTune := Or.inl (am_gi (tb_8 (List.mem_of_getElem? (i := 213) rfl)) rfl)
theorem lk_Law_154 : am_link "UnseenRingLaw" 154 y_M_gatherAt := Or.inl (am_gi (tb_8 (List.mem_of_getElem? (i := 217) rfl)) rfl)
theorem lk_Law_158 : am_link "UnseenRingLaw" 158 y_M_explain := Or.inl (am_gi (tb_8 (List.mem_of_getElem? (i := 221) rfl)) rfl)
theorem lk_M_412 : am_link "UnseenRingModel" 412 y_M_areDogs := Or.inl (am_gi (tb_8 (List.mem_of_getElem? (i := 225) rfl)) rfl)
theorem lk_M_415 : am_link "UnseenRingModel" 415 y_M_laysPlacings := Or.inl (am_gi (tb_8 (List.mem_of_getElem? (i := 229) rfl)) rfl)
theorem lk_M_409 : am_link "UnseenRingModel" 409 y_M_counts := Or.inl (am_gi (tb_8 (List.mem_of_getElem? (i := 233) rfl)) rfl)
theorem lk_Law_162 : am_link "UnseenRingLaw" 162 y_M_placings := Or.inl (am_gi (tb_8 (List.mem_of_getElem? (i := 237) rfl)) rfl)
theorem lk_M_421 : am_link "UnseenRingModel" 421 y_M_isPlacing := Or.inl (am_gi (tb_9 (List.mem_of_getElem? (i := 1) rfl)) rfl)
theorem k_M_419 : Cond.constantLong "UnseenRingModel" 419 (4) ∈ am_gt := am_gi (tb_9 (List.mem_of_getElem? (i := 5) rfl)) rfl
theorem lk_M_424 : am_link "UnseenRingModel" 424 y_M_placingsOf := Or.inl (am_gi (tb_9 (List.mem_of_getElem? (i := 6) rfl)) rfl)
theorem lk_Law_166 : am_link "UnseenRingLaw" 166 y_M_oddsThat := Or.inl (am_gi (tb_9 (List.mem_of_getElem? (i := 10) rfl)) rfl)
theorem lk_M_427 : am_link "UnseenRingModel" 427 y_M_tellsBy := Or.inl (am_gi (tb_9 (List.mem_of_getElem? (i := 14) rfl)) rfl)
theorem lk_Law_170 : am_link "UnseenRingLaw" 170 y_M_aim := Or.inl (am_gi (tb_9 (List.mem_of_getElem? (i := 18) rfl)) rfl)
theorem lk_Law_174 : am_link "UnseenRingLaw" 174 y_M_cover := Or.inl (am_gi (tb_9 (List.mem_of_getElem? (i := 22) rfl)) rfl)
theorem lk_M_436 : am_link "UnseenRingModel" 436 y_M_wrongCells := Or.inl (am_gi (tb_9 (List.mem_of_getElem? (i := 26) rfl)) rfl)
theorem k_M_431 : Cond.constantLong "UnseenRingModel" 431 (8) ∈ am_gt := am_gi (tb_9 (List.mem_of_getElem? (i := 30) rfl)) rfl
theorem lk_M_439 : am_link "UnseenRingModel" 439 y_M_laysThrows := Or.inl (am_gi (tb_9 (List.mem_of_getElem? (i := 31) rfl)) rfl)
theorem lk_M_433 : am_link "UnseenRingModel" 433 y_M_hitFrom := Or.inl (am_gi (tb_9 (List.mem_of_getElem? (i := 35) rfl)) rfl)
theorem lk_Law_178 : am_link "UnseenRingLaw" 178 y_M_coverAt := Or.inl (am_gi (tb_9 (List.mem_of_getElem? (i := 39) rfl)) rfl)
theorem lk_Law_182 : am_link "UnseenRingLaw" 182 y_M_fits := Or.inl (am_gi (tb_9 (List.mem_of_getElem? (i := 43) rfl)) rfl)
theorem lk_M_442 : am_link "UnseenRingModel" 442 y_M_wrongSeen := Or.inl (am_gi (tb_9 (List.mem_of_getElem? (i := 47) rfl)) rfl)
theorem lk_M_445 : am_link "UnseenRingModel" 445 y_M_isLiking := Or.inl (am_gi (tb_9 (List.mem_of_getElem? (i := 51) rfl)) rfl)
theorem lk_Law_186 : am_link "UnseenRingLaw" 186 y_M_sure := Or.inl (am_gi (tb_9 (List.mem_of_getElem? (i := 55) rfl)) rfl)
theorem lk_M_449 : am_link "UnseenRingModel" 449 y_M_orNone := Or.inl (am_gi (tb_9 (List.mem_of_getElem? (i := 59) rfl)) rfl)
theorem lk_Law_190 : am_link "UnseenRingLaw" 190 y_M_rounds := Or.inl (am_gi (tb_9 (List.mem_of_getElem? (i := 63) rfl)) rfl)
theorem lk_M_455 : am_link "UnseenRingModel" 455 y_M_isKnowing := Or.inl (am_gi (tb_9 (List.mem_of_getElem? (i := 67) rfl)) rfl)
theorem lk_M_458 : am_link "UnseenRingModel" 458 y_M_laysWorlds := Or.inl (am_gi (tb_9 (List.mem_of_getElem? (i := 71) rfl)) rfl)
theorem lk_M_452 : am_link "UnseenRingModel" 452 y_M_knowing := Or.inl (am_gi (tb_9 (List.mem_of_getElem? (i := 75) rfl)) rfl)
theorem lk_M_461 : am_link "UnseenRingModel" 461 y_M_tellsAll := Or.inl (am_gi (tb_9 (List.mem_of_getElem? (i := 79) rfl)) rfl)
theorem lk_Law_194 : am_link "UnseenRingLaw" 194 y_M_knowers := Or.inl (am_gi (tb_9 (List.mem_of_getElem? (i := 83) rfl)) rfl)
theorem lk_Law_198 : am_link "UnseenRingLaw" 198 y_M_game := Or.inl (am_gi (tb_9 (List.mem_of_getElem? (i := 87) rfl)) rfl)
theorem lk_M_474 : am_link "UnseenRingModel" 474 y_M_playing := Or.inl (am_gi (tb_9 (List.mem_of_getElem? (i := 91) rfl)) rfl)
theorem lk_M_467 : am_link "UnseenRingModel" 467 y_M_beginsAt := Or.inl (am_gi (tb_9 (List.mem_of_getElem? (i := 95) rfl)) rfl)
theorem lk_M_464 : am_link "UnseenRingModel" 464 y_M_levelAt := Or.inl (am_gi (tb_9 (List.mem_of_getElem? (i := 99) rfl)) rfl)
theorem lk_M_471 : am_link "UnseenRingModel" 471 y_M_settles := Or.inl (am_gi (tb_9 (List.mem_of_getElem? (i := 102) rfl)) rfl)
theorem lk_Law_202 : am_link "UnseenRingLaw" 202 y_M_moveOf := Or.inl (am_gi (tb_9 (List.mem_of_getElem? (i := 106) rfl)) rfl)
theorem lk_Law_206 : am_link "UnseenRingLaw" 206 y_M_crowd := Or.inl (am_gi (tb_9 (List.mem_of_getElem? (i := 110) rfl)) rfl)
theorem k_M_477 : Cond.constantLong "UnseenRingModel" 477 (6) ∈ am_gt := am_gi (tb_9 (List.mem_of_getElem? (i := 114) rfl)) rfl
theorem lk_Law_210 : am_link "UnseenRingLaw" 210 y_M_share := Or.inl (am_gi (tb_9 (List.mem_of_getElem? (i := 115) rfl)) rfl)
theorem lk_M_479 : am_link "UnseenRingModel" 479 y_M_allCoins := Or.inl (am_gi (tb_9 (List.mem_of_getElem? (i := 119) rfl)) rfl)
theorem lk_Law_214 : am_link "UnseenRingLaw" 214 y_M_copyCells := Or.inl (am_gi (tb_9 (List.mem_of_getElem? (i := 123) rfl)) rfl)
theorem lk_Law_218 : am_link "UnseenRingLaw" 218 y_M_live := Or.inl (am_gi (tb_9 (List.mem_of_getElem? (i := 127) rfl)) rfl)
theorem k_M_510 : Cond.constantLong "UnseenRingModel" 510 (9999) ∈ am_gt := am_gi (tb_9 (List.mem_of_getElem? (i := 131) rfl)) rfl
theorem lk_M_512 : am_link "UnseenRingModel" 512 y_M_lives := Or.inl (am_gi (tb_9 (List.mem_of_getElem? (i := 132) rfl)) rfl)
theorem lk_M_501 : am_link "UnseenRingModel" 501 y_M_does := Or.inl (am_gi (tb_9 (List.mem_of_getElem? (i := 136) rfl)) rfl)
theorem lk_M_489 : am_link "UnseenRingModel" 489 y_M_playsBy := Or.inl (am_gi (tb_9 (List.mem_of_getElem? (i := 140) rfl)) rfl)
theorem lk_M_492 : am_link "UnseenRingModel" 492 y_M_hitsBy := Or.inl (am_gi (tb_9 (List.mem_of_getElem? (i := 144) rfl)) rfl)
theorem lk_M_495 : am_link "UnseenRingModel" 495 y_M_doesAny := Or.inl (am_gi (tb_9 (List.mem_of_getElem? (i := 148) rfl)) rfl)
theorem lk_M_486 : am_link "UnseenRingModel" 486 y_M_draw := Or.inl (am_gi (tb_9 (List.mem_of_getElem? (i := 152) rfl)) rfl)
theorem k_M_485 : Cond.constant "UnseenRingModel" 485 (65536) ∈ am_gt := am_gi (tb_9 (List.mem_of_getElem? (i := 156) rfl)) rfl
theorem lk_M_504 : am_link "UnseenRingModel" 504 y_M_holds := Or.inl (am_gi (tb_9 (List.mem_of_getElem? (i := 157) rfl)) rfl)
theorem lk_M_507 : am_link "UnseenRingModel" 507 y_M_behindEnds := Or.inl (am_gi (tb_9 (List.mem_of_getElem? (i := 161) rfl)) rfl)
theorem lk_Law_222 : am_link "UnseenRingLaw" 222 y_M_lived := Or.inl (am_gi (tb_9 (List.mem_of_getElem? (i := 165) rfl)) rfl)
theorem lk_Law_227 : am_link "UnseenRingLaw" 227 y_M_mean := Or.inl (am_gi (tb_9 (List.mem_of_getElem? (i := 169) rfl)) rfl)
theorem lk_Law_231 : am_link "UnseenRingLaw" 231 y_M_mark := Or.inl (am_gi (tb_9 (List.mem_of_getElem? (i := 173) rfl)) rfl)
theorem lk_M_522 : am_link "UnseenRingModel" 522 y_M_copies := Or.inl (am_gi (tb_9 (List.mem_of_getElem? (i := 177) rfl)) rfl)
theorem lk_Law_235 : am_link "UnseenRingLaw" 235 y_M_undo := Or.inl (am_gi (tb_9 (List.mem_of_getElem? (i := 181) rfl)) rfl)
theorem k_Law_32 : Cond.constantLong "UnseenRingLaw" 32 (4294967295) ∈ am_gt := am_gi (tb_9 (List.mem_of_getElem? (i := 185) rfl)) rfl
theorem fs_String_9 : Cond.fieldLink "java/lang/String" 9 "java/lang/String" "value" "[B" ∈ am_gt := am_gi (tb_9 (List.mem_of_getElem? (i := 186) rfl)) rfl
theorem fs_String_15 : Cond.fieldLink "java/lang/String" 15 "java/lang/String" "coder" "B" ∈ am_gt := am_gi (tb_9 (List.mem_of_getElem? (i := 187) rfl)) rfl
