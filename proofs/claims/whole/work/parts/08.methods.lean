def m_O_init : MInfo := (⟨"MarkOffice", "<init>", "()V"⟩, (prog_1_method_1_code, (2, (Option.none, "MarkOffice"))))
set_option maxRecDepth 100000 in
theorem ok_O_init : MOK m_O_init := ⟨aw_of (i := 146) rfl rfl, aw_of (i := 124) (by decide +kernel) rfl, by decide +kernel, by decide +kernel, by decide +kernel, rfl⟩
def m_D_init : MInfo := (⟨"MarkOffice$Reader", "<init>", "([I)V"⟩, (prog_5_method_1_code, (2, (Option.none, "MarkOffice$Reader"))))
set_option maxRecDepth 100000 in
theorem ok_D_init : MOK m_D_init := ⟨aw_of (i := 156) rfl rfl, aw_of (i := 125) (by decide +kernel) rfl, by decide +kernel, by decide +kernel, by decide +kernel, rfl⟩
def m_G_init : MInfo := (⟨"MarkOffice$Tokens", "<init>", "([I)V"⟩, (prog_9_method_1_code, (2, (Option.none, "MarkOffice$Tokens"))))
set_option maxRecDepth 100000 in
theorem ok_G_init : MOK m_G_init := ⟨aw_of (i := 162) rfl rfl, aw_of (i := 126) (by decide +kernel) rfl, by decide +kernel, by decide +kernel, by decide +kernel, rfl⟩
def m_L_init : MInfo := (⟨"MarkOffice$Laws", "<init>", "()V"⟩, (prog_3_method_1_code, (1, (Option.none, "MarkOffice$Laws"))))
set_option maxRecDepth 100000 in
theorem ok_L_init : MOK m_L_init := ⟨aw_of (i := 215) rfl rfl, aw_of (i := 127) (by decide +kernel) rfl, by decide +kernel, by decide +kernel, by decide +kernel, rfl⟩
def m_H_init : MInfo := (⟨"MarkOffice$Held", "<init>", "()V"⟩, (prog_2_method_1_code, (1, (Option.none, "MarkOffice$Held"))))
set_option maxRecDepth 100000 in
theorem ok_H_init : MOK m_H_init := ⟨aw_of (i := 228) rfl rfl, aw_of (i := 128) (by decide +kernel) rfl, by decide +kernel, by decide +kernel, by decide +kernel, rfl⟩
def m_N_init : MInfo := (⟨"MarkOffice$Now", "<init>", "()V"⟩, (prog_4_method_1_code, (1, (Option.none, "MarkOffice$Now"))))
set_option maxRecDepth 100000 in
theorem ok_N_init : MOK m_N_init := ⟨aw_of (i := 234) rfl rfl, aw_of (i := 129) (by decide +kernel) rfl, by decide +kernel, by decide +kernel, by decide +kernel, rfl⟩
def m_S_init : MInfo := (⟨"MarkOffice$Steps", "<init>", "()V"⟩, (prog_6_method_1_code, (2, (Option.none, "MarkOffice$Steps"))))
set_option maxRecDepth 100000 in
theorem ok_S_init : MOK m_S_init := ⟨aw_of (i := 273) rfl rfl, aw_of (i := 130) (by decide +kernel) rfl, by decide +kernel, by decide +kernel, by decide +kernel, rfl⟩
def m_T_init : MInfo := (⟨"MarkOffice$Text", "<init>", "()V"⟩, (prog_8_method_1_code, (1, (Option.none, "MarkOffice$Text"))))
set_option maxRecDepth 100000 in
theorem ok_T_init : MOK m_T_init := ⟨aw_of (i := 340) rfl rfl, aw_of (i := 131) (by decide +kernel) rfl, by decide +kernel, by decide +kernel, by decide +kernel, rfl⟩
def m_O_mark : MInfo := (⟨"MarkOffice", "mark", "(I)I"⟩, (prog_1_method_2_code, (2, (Option.some FieldType.int, "MarkOffice"))))
set_option maxRecDepth 100000 in
theorem ok_O_mark : MOK m_O_mark := ⟨aw_of (i := 441) rfl rfl, aw_of (i := 124) (by decide +kernel) rfl, by decide +kernel, by decide +kernel, by decide +kernel, rfl⟩
def m_O_isSet : MInfo := (⟨"MarkOffice", "isSet", "(I)Z"⟩, (prog_1_method_55_code, (1, (Option.some FieldType.boolean, "MarkOffice"))))
set_option maxRecDepth 100000 in
theorem ok_O_isSet : MOK m_O_isSet := ⟨aw_of (i := 444) rfl rfl, aw_of (i := 124) (by decide +kernel) rfl, by decide +kernel, by decide +kernel, by decide +kernel, rfl⟩
def m_H_register : MInfo := (⟨"MarkOffice$Held", "register", "(I)I"⟩, (prog_2_method_3_code, (3, (Option.some FieldType.int, "MarkOffice$Held"))))
set_option maxRecDepth 100000 in
theorem ok_H_register : MOK m_H_register := ⟨aw_of (i := 449) rfl rfl, aw_of (i := 128) (by decide +kernel) rfl, by decide +kernel, by decide +kernel, by decide +kernel, rfl⟩
def m_O_feed : MInfo := (⟨"MarkOffice", "feed", "(IIIII)I"⟩, (prog_1_method_3_code, (6, (Option.some FieldType.int, "MarkOffice"))))
set_option maxRecDepth 100000 in
theorem ok_O_feed : MOK m_O_feed := ⟨aw_of (i := 453) rfl rfl, aw_of (i := 124) (by decide +kernel) rfl, by decide +kernel, by decide +kernel, by decide +kernel, rfl⟩
def m_O_putWord : MInfo := (⟨"MarkOffice", "putWord", "(I)V"⟩, (prog_1_method_58_code, (3, (Option.none, "MarkOffice"))))
set_option maxRecDepth 100000 in
theorem ok_O_putWord : MOK m_O_putWord := ⟨aw_of (i := 457) rfl rfl, aw_of (i := 124) (by decide +kernel) rfl, by decide +kernel, by decide +kernel, by decide +kernel, rfl⟩
def m_O_end : MInfo := (⟨"MarkOffice", "end", "(I)I"⟩, (prog_1_method_4_code, (2, (Option.some FieldType.int, "MarkOffice"))))
set_option maxRecDepth 100000 in
theorem ok_O_end : MOK m_O_end := ⟨aw_of (i := 461) rfl rfl, aw_of (i := 124) (by decide +kernel) rfl, by decide +kernel, by decide +kernel, by decide +kernel, rfl⟩
def m_O_text : MInfo := (⟨"MarkOffice", "text", "()I"⟩, (prog_1_method_5_code, (1, (Option.some FieldType.int, "MarkOffice"))))
set_option maxRecDepth 100000 in
theorem ok_O_text : MOK m_O_text := ⟨aw_of (i := 465) rfl rfl, aw_of (i := 124) (by decide +kernel) rfl, by decide +kernel, by decide +kernel, by decide +kernel, rfl⟩
def m_D_read : MInfo := (⟨"MarkOffice$Reader", "read", "(ILMarkOffice$Text;)V"⟩, (prog_5_method_2_code, (4, (Option.none, "MarkOffice$Reader"))))
set_option maxRecDepth 100000 in
theorem ok_D_read : MOK m_D_read := ⟨aw_of (i := 469) rfl rfl, aw_of (i := 125) (by decide +kernel) rfl, by decide +kernel, by decide +kernel, by decide +kernel, rfl⟩
def m_G_take : MInfo := (⟨"MarkOffice$Tokens", "take", "(I)V"⟩, (prog_9_method_2_code, (4, (Option.none, "MarkOffice$Tokens"))))
set_option maxRecDepth 100000 in
theorem ok_G_take : MOK m_G_take := ⟨aw_of (i := 473) rfl rfl, aw_of (i := 126) (by decide +kernel) rfl, by decide +kernel, by decide +kernel, by decide +kernel, rfl⟩
def m_G_isLetter : MInfo := (⟨"MarkOffice$Tokens", "isLetter", "(I)Z"⟩, (prog_9_method_3_code, (1, (Option.some FieldType.boolean, "MarkOffice$Tokens"))))
set_option maxRecDepth 100000 in
theorem ok_G_isLetter : MOK m_G_isLetter := ⟨aw_of (i := 479) rfl rfl, aw_of (i := 126) (by decide +kernel) rfl, by decide +kernel, by decide +kernel, by decide +kernel, rfl⟩
def m_G_takeWord : MInfo := (⟨"MarkOffice$Tokens", "takeWord", "()I"⟩, (prog_9_method_5_code, (6, (Option.some FieldType.int, "MarkOffice$Tokens"))))
set_option maxRecDepth 100000 in
theorem ok_G_takeWord : MOK m_G_takeWord := ⟨aw_of (i := 483) rfl rfl, aw_of (i := 126) (by decide +kernel) rfl, by decide +kernel, by decide +kernel, by decide +kernel, rfl⟩
def m_JS_length : MInfo := (⟨"java/lang/String", "length", "()I"⟩, (prog_15_method_54_code, (1, (Option.some FieldType.int, "java/lang/String"))))
set_option maxRecDepth 100000 in
theorem ok_JS_length : MOK m_JS_length := ⟨aw_of (i := 488) rfl rfl, aw_of (i := 134) (by decide +kernel) rfl, by decide +kernel, by decide +kernel, by decide +kernel, rfl⟩
def m_JS_coder : MInfo := (⟨"java/lang/String", "coder", "()B"⟩, (prog_15_method_152_code, (1, (Option.some FieldType.byte, "java/lang/String"))))
set_option maxRecDepth 100000 in
theorem ok_JS_coder : MOK m_JS_coder := ⟨aw_of (i := 492) rfl rfl, aw_of (i := 134) (by decide +kernel) rfl, by decide +kernel, by decide +kernel, by decide +kernel, rfl⟩
def m_JS_charAt : MInfo := (⟨"java/lang/String", "charAt", "(I)C"⟩, (prog_15_method_56_code, (2, (Option.some FieldType.char, "java/lang/String"))))
set_option maxRecDepth 100000 in
theorem ok_JS_charAt : MOK m_JS_charAt := ⟨aw_of (i := 498) rfl rfl, aw_of (i := 134) (by decide +kernel) rfl, by decide +kernel, by decide +kernel, by decide +kernel, rfl⟩
def m_JS_isLatin1 : MInfo := (⟨"java/lang/String", "isLatin1", "()Z"⟩, (prog_15_method_154_code, (1, (Option.some FieldType.boolean, "java/lang/String"))))
set_option maxRecDepth 100000 in
theorem ok_JS_isLatin1 : MOK m_JS_isLatin1 := ⟨aw_of (i := 502) rfl rfl, aw_of (i := 134) (by decide +kernel) rfl, by decide +kernel, by decide +kernel, by decide +kernel, rfl⟩
def m_JL_charAt : MInfo := (⟨"java/lang/StringLatin1", "charAt", "([BI)C"⟩, (prog_16_method_2_code, (2, (Option.some FieldType.char, "java/lang/StringLatin1"))))
set_option maxRecDepth 100000 in
theorem ok_JL_charAt : MOK m_JL_charAt := ⟨aw_of (i := 505) rfl rfl, aw_of (i := 135) (by decide +kernel) rfl, by decide +kernel, by decide +kernel, by decide +kernel, rfl⟩
def m_JS_checkIndex : MInfo := (⟨"java/lang/String", "checkIndex", "(II)V"⟩, (prog_15_method_155_code, (2, (Option.none, "java/lang/String"))))
set_option maxRecDepth 100000 in
theorem ok_JS_checkIndex : MOK m_JS_checkIndex := ⟨aw_of (i := 508) rfl rfl, aw_of (i := 134) (by decide +kernel) rfl, by decide +kernel, by decide +kernel, by decide +kernel, rfl⟩
def m_JP_checkIndex : MInfo := (⟨"jdk/internal/util/Preconditions", "checkIndex", "(IILjava/util/function/BiFunction;)I"⟩, (prog_19_method_11_code, (3, (Option.some FieldType.int, "jdk/internal/util/Preconditions"))))
set_option maxRecDepth 100000 in
theorem ok_JP_checkIndex : MOK m_JP_checkIndex := ⟨aw_of (i := 513) rfl rfl, aw_of (i := 136) (by decide +kernel) rfl, by decide +kernel, by decide +kernel, by decide +kernel, rfl⟩
def m_G_isDigit : MInfo := (⟨"MarkOffice$Tokens", "isDigit", "(I)Z"⟩, (prog_9_method_4_code, (1, (Option.some FieldType.boolean, "MarkOffice$Tokens"))))
set_option maxRecDepth 100000 in
theorem ok_G_isDigit : MOK m_G_isDigit := ⟨aw_of (i := 535) rfl rfl, aw_of (i := 126) (by decide +kernel) rfl, by decide +kernel, by decide +kernel, by decide +kernel, rfl⟩
def m_G_takeDigits : MInfo := (⟨"MarkOffice$Tokens", "takeDigits", "(I)I"⟩, (prog_9_method_6_code, (3, (Option.some FieldType.int, "MarkOffice$Tokens"))))
set_option maxRecDepth 100000 in
theorem ok_G_takeDigits : MOK m_G_takeDigits := ⟨aw_of (i := 539) rfl rfl, aw_of (i := 126) (by decide +kernel) rfl, by decide +kernel, by decide +kernel, by decide +kernel, rfl⟩
def m_G_takeSign : MInfo := (⟨"MarkOffice$Tokens", "takeSign", "()I"⟩, (prog_9_method_7_code, (3, (Option.some FieldType.int, "MarkOffice$Tokens"))))
set_option maxRecDepth 100000 in
theorem ok_G_takeSign : MOK m_G_takeSign := ⟨aw_of (i := 543) rfl rfl, aw_of (i := 126) (by decide +kernel) rfl, by decide +kernel, by decide +kernel, by decide +kernel, rfl⟩
def m_JS_indexOf_II : MInfo := (⟨"java/lang/String", "indexOf", "(I)I"⟩, (prog_15_method_79_code, (2, (Option.some FieldType.int, "java/lang/String"))))
set_option maxRecDepth 100000 in
theorem ok_JS_indexOf_II : MOK m_JS_indexOf_II := ⟨aw_of (i := 548) rfl rfl, aw_of (i := 134) (by decide +kernel) rfl, by decide +kernel, by decide +kernel, by decide +kernel, rfl⟩
def m_JS_indexOf_III : MInfo := (⟨"java/lang/String", "indexOf", "(II)I"⟩, (prog_15_method_80_code, (3, (Option.some FieldType.int, "java/lang/String"))))
set_option maxRecDepth 100000 in
theorem ok_JS_indexOf_III : MOK m_JS_indexOf_III := ⟨aw_of (i := 552) rfl rfl, aw_of (i := 134) (by decide +kernel) rfl, by decide +kernel, by decide +kernel, by decide +kernel, rfl⟩
def m_JL_indexOf : MInfo := (⟨"java/lang/StringLatin1", "indexOf", "([BIII)I"⟩, (prog_16_method_22_code, (4, (Option.some FieldType.int, "java/lang/StringLatin1"))))
set_option maxRecDepth 100000 in
theorem ok_JL_indexOf : MOK m_JL_indexOf := ⟨aw_of (i := 556) rfl rfl, aw_of (i := 135) (by decide +kernel) rfl, by decide +kernel, by decide +kernel, by decide +kernel, rfl⟩
def m_JL_canEncode : MInfo := (⟨"java/lang/StringLatin1", "canEncode", "(I)Z"⟩, (prog_16_method_4_code, (1, (Option.some FieldType.boolean, "java/lang/StringLatin1"))))
set_option maxRecDepth 100000 in
theorem ok_JL_canEncode : MOK m_JL_canEncode := ⟨aw_of (i := 559) rfl rfl, aw_of (i := 135) (by decide +kernel) rfl, by decide +kernel, by decide +kernel, by decide +kernel, rfl⟩
def m_JL_indexOfChar : MInfo := (⟨"java/lang/StringLatin1", "indexOfChar", "([BIII)I"⟩, (prog_16_method_23_code, (6, (Option.some FieldType.int, "java/lang/StringLatin1"))))
set_option maxRecDepth 100000 in
theorem ok_JL_indexOfChar : MOK m_JL_indexOfChar := ⟨aw_of (i := 566) rfl rfl, aw_of (i := 135) (by decide +kernel) rfl, by decide +kernel, by decide +kernel, by decide +kernel, rfl⟩
def m_T_empty : MInfo := (⟨"MarkOffice$Text", "empty", "()V"⟩, (prog_8_method_2_code, (1, (Option.none, "MarkOffice$Text"))))
set_option maxRecDepth 100000 in
theorem ok_T_empty : MOK m_T_empty := ⟨aw_of (i := 605) rfl rfl, aw_of (i := 131) (by decide +kernel) rfl, by decide +kernel, by decide +kernel, by decide +kernel, rfl⟩
def m_D_readClause : MInfo := (⟨"MarkOffice$Reader", "readClause", "()V"⟩, (prog_5_method_7_code, (3, (Option.none, "MarkOffice$Reader"))))
set_option maxRecDepth 100000 in
theorem ok_D_readClause : MOK m_D_readClause := ⟨aw_of (i := 609) rfl rfl, aw_of (i := 125) (by decide +kernel) rfl, by decide +kernel, by decide +kernel, by decide +kernel, rfl⟩
def m_D_refuse : MInfo := (⟨"MarkOffice$Reader", "refuse", "(I)V"⟩, (prog_5_method_3_code, (2, (Option.none, "MarkOffice$Reader"))))
set_option maxRecDepth 100000 in
theorem ok_D_refuse : MOK m_D_refuse := ⟨aw_of (i := 613) rfl rfl, aw_of (i := 125) (by decide +kernel) rfl, by decide +kernel, by decide +kernel, by decide +kernel, rfl⟩
def m_D_advance : MInfo := (⟨"MarkOffice$Reader", "advance", "()V"⟩, (prog_5_method_4_code, (1, (Option.none, "MarkOffice$Reader"))))
set_option maxRecDepth 100000 in
theorem ok_D_advance : MOK m_D_advance := ⟨aw_of (i := 617) rfl rfl, aw_of (i := 125) (by decide +kernel) rfl, by decide +kernel, by decide +kernel, by decide +kernel, rfl⟩
def m_D_readLaw : MInfo := (⟨"MarkOffice$Reader", "readLaw", "(Z)V"⟩, (prog_5_method_8_code, (3, (Option.none, "MarkOffice$Reader"))))
set_option maxRecDepth 100000 in
theorem ok_D_readLaw : MOK m_D_readLaw := ⟨aw_of (i := 621) rfl rfl, aw_of (i := 125) (by decide +kernel) rfl, by decide +kernel, by decide +kernel, by decide +kernel, rfl⟩
def m_D_readSum : MInfo := (⟨"MarkOffice$Reader", "readSum", "(I)V"⟩, (prog_5_method_13_code, (4, (Option.none, "MarkOffice$Reader"))))
set_option maxRecDepth 100000 in
theorem ok_D_readSum : MOK m_D_readSum := ⟨aw_of (i := 625) rfl rfl, aw_of (i := 125) (by decide +kernel) rfl, by decide +kernel, by decide +kernel, by decide +kernel, rfl⟩
def m_D_readProduct : MInfo := (⟨"MarkOffice$Reader", "readProduct", "(I)V"⟩, (prog_5_method_14_code, (4, (Option.none, "MarkOffice$Reader"))))
set_option maxRecDepth 100000 in
theorem ok_D_readProduct : MOK m_D_readProduct := ⟨aw_of (i := 629) rfl rfl, aw_of (i := 125) (by decide +kernel) rfl, by decide +kernel, by decide +kernel, by decide +kernel, rfl⟩
def m_D_readOne : MInfo := (⟨"MarkOffice$Reader", "readOne", "(I)V"⟩, (prog_5_method_15_code, (2, (Option.none, "MarkOffice$Reader"))))
set_option maxRecDepth 100000 in
theorem ok_D_readOne : MOK m_D_readOne := ⟨aw_of (i := 633) rfl rfl, aw_of (i := 125) (by decide +kernel) rfl, by decide +kernel, by decide +kernel, by decide +kernel, rfl⟩
def m_D_takeNumber : MInfo := (⟨"MarkOffice$Reader", "takeNumber", "(II)I"⟩, (prog_5_method_6_code, (4, (Option.some FieldType.int, "MarkOffice$Reader"))))
set_option maxRecDepth 100000 in
theorem ok_D_takeNumber : MOK m_D_takeNumber := ⟨aw_of (i := 637) rfl rfl, aw_of (i := 125) (by decide +kernel) rfl, by decide +kernel, by decide +kernel, by decide +kernel, rfl⟩
def m_T_write : MInfo := (⟨"MarkOffice$Text", "write", "(II)I"⟩, (prog_8_method_3_code, (3, (Option.some FieldType.int, "MarkOffice$Text"))))
set_option maxRecDepth 100000 in
theorem ok_T_write : MOK m_T_write := ⟨aw_of (i := 641) rfl rfl, aw_of (i := 131) (by decide +kernel) rfl, by decide +kernel, by decide +kernel, by decide +kernel, rfl⟩
def m_D_readOpenOne : MInfo := (⟨"MarkOffice$Reader", "readOpenOne", "(I)V"⟩, (prog_5_method_17_code, (3, (Option.none, "MarkOffice$Reader"))))
set_option maxRecDepth 100000 in
theorem ok_D_readOpenOne : MOK m_D_readOpenOne := ⟨aw_of (i := 645) rfl rfl, aw_of (i := 125) (by decide +kernel) rfl, by decide +kernel, by decide +kernel, by decide +kernel, rfl⟩
def m_D_expect : MInfo := (⟨"MarkOffice$Reader", "expect", "(I)V"⟩, (prog_5_method_5_code, (2, (Option.none, "MarkOffice$Reader"))))
set_option maxRecDepth 100000 in
theorem ok_D_expect : MOK m_D_expect := ⟨aw_of (i := 649) rfl rfl, aw_of (i := 125) (by decide +kernel) rfl, by decide +kernel, by decide +kernel, by decide +kernel, rfl⟩
def m_D_readChoice : MInfo := (⟨"MarkOffice$Reader", "readChoice", "(I)V"⟩, (prog_5_method_18_code, (4, (Option.none, "MarkOffice$Reader"))))
set_option maxRecDepth 100000 in
theorem ok_D_readChoice : MOK m_D_readChoice := ⟨aw_of (i := 653) rfl rfl, aw_of (i := 125) (by decide +kernel) rfl, by decide +kernel, by decide +kernel, by decide +kernel, rfl⟩
def m_D_readEither : MInfo := (⟨"MarkOffice$Reader", "readEither", "(I)V"⟩, (prog_5_method_19_code, (3, (Option.none, "MarkOffice$Reader"))))
set_option maxRecDepth 100000 in
theorem ok_D_readEither : MOK m_D_readEither := ⟨aw_of (i := 657) rfl rfl, aw_of (i := 125) (by decide +kernel) rfl, by decide +kernel, by decide +kernel, by decide +kernel, rfl⟩
def m_D_readBoth : MInfo := (⟨"MarkOffice$Reader", "readBoth", "(I)V"⟩, (prog_5_method_20_code, (3, (Option.none, "MarkOffice$Reader"))))
set_option maxRecDepth 100000 in
theorem ok_D_readBoth : MOK m_D_readBoth := ⟨aw_of (i := 661) rfl rfl, aw_of (i := 125) (by decide +kernel) rfl, by decide +kernel, by decide +kernel, by decide +kernel, rfl⟩
def m_D_readAsk : MInfo := (⟨"MarkOffice$Reader", "readAsk", "(I)V"⟩, (prog_5_method_21_code, (3, (Option.none, "MarkOffice$Reader"))))
set_option maxRecDepth 100000 in
theorem ok_D_readAsk : MOK m_D_readAsk := ⟨aw_of (i := 665) rfl rfl, aw_of (i := 125) (by decide +kernel) rfl, by decide +kernel, by decide +kernel, by decide +kernel, rfl⟩
def m_D_readNot : MInfo := (⟨"MarkOffice$Reader", "readNot", "(I)V"⟩, (prog_5_method_22_code, (2, (Option.none, "MarkOffice$Reader"))))
set_option maxRecDepth 100000 in
theorem ok_D_readNot : MOK m_D_readNot := ⟨aw_of (i := 669) rfl rfl, aw_of (i := 125) (by decide +kernel) rfl, by decide +kernel, by decide +kernel, by decide +kernel, rfl⟩
def m_T_aim : MInfo := (⟨"MarkOffice$Text", "aim", "(II)V"⟩, (prog_8_method_4_code, (3, (Option.none, "MarkOffice$Text"))))
set_option maxRecDepth 100000 in
theorem ok_T_aim : MOK m_T_aim := ⟨aw_of (i := 673) rfl rfl, aw_of (i := 131) (by decide +kernel) rfl, by decide +kernel, by decide +kernel, by decide +kernel, rfl⟩
def m_D_readName : MInfo := (⟨"MarkOffice$Reader", "readName", "()V"⟩, (prog_5_method_16_code, (3, (Option.none, "MarkOffice$Reader"))))
set_option maxRecDepth 100000 in
theorem ok_D_readName : MOK m_D_readName := ⟨aw_of (i := 677) rfl rfl, aw_of (i := 125) (by decide +kernel) rfl, by decide +kernel, by decide +kernel, by decide +kernel, rfl⟩
def m_D_readDeed : MInfo := (⟨"MarkOffice$Reader", "readDeed", "(II)V"⟩, (prog_5_method_9_code, (3, (Option.none, "MarkOffice$Reader"))))
set_option maxRecDepth 100000 in
theorem ok_D_readDeed : MOK m_D_readDeed := ⟨aw_of (i := 681) rfl rfl, aw_of (i := 125) (by decide +kernel) rfl, by decide +kernel, by decide +kernel, by decide +kernel, rfl⟩
def m_D_readShape : MInfo := (⟨"MarkOffice$Reader", "readShape", "(I)I"⟩, (prog_5_method_10_code, (6, (Option.some FieldType.int, "MarkOffice$Reader"))))
set_option maxRecDepth 100000 in
theorem ok_D_readShape : MOK m_D_readShape := ⟨aw_of (i := 685) rfl rfl, aw_of (i := 125) (by decide +kernel) rfl, by decide +kernel, by decide +kernel, by decide +kernel, rfl⟩
def m_D_readPart : MInfo := (⟨"MarkOffice$Reader", "readPart", "(I)I"⟩, (prog_5_method_11_code, (3, (Option.some FieldType.int, "MarkOffice$Reader"))))
set_option maxRecDepth 100000 in
theorem ok_D_readPart : MOK m_D_readPart := ⟨aw_of (i := 689) rfl rfl, aw_of (i := 125) (by decide +kernel) rfl, by decide +kernel, by decide +kernel, by decide +kernel, rfl⟩
def m_D_readOpenPart : MInfo := (⟨"MarkOffice$Reader", "readOpenPart", "(I)I"⟩, (prog_5_method_12_code, (4, (Option.some FieldType.int, "MarkOffice$Reader"))))
set_option maxRecDepth 100000 in
theorem ok_D_readOpenPart : MOK m_D_readOpenPart := ⟨aw_of (i := 693) rfl rfl, aw_of (i := 125) (by decide +kernel) rfl, by decide +kernel, by decide +kernel, by decide +kernel, rfl⟩
def m_K_moved : MInfo := (⟨"MarkOffice$Strokes", "moved", "(II)I"⟩, (prog_7_method_3_code, (4, (Option.some FieldType.int, "MarkOffice$Strokes"))))
set_option maxRecDepth 100000 in
theorem ok_K_moved : MOK m_K_moved := ⟨aw_of (i := 696) rfl rfl, aw_of (i := 139) (by decide +kernel) rfl, by decide +kernel, by decide +kernel, by decide +kernel, rfl⟩
def m_O_fault : MInfo := (⟨"MarkOffice", "fault", "(I)I"⟩, (prog_1_method_6_code, (2, (Option.some FieldType.int, "MarkOffice"))))
set_option maxRecDepth 100000 in
theorem ok_O_fault : MOK m_O_fault := ⟨aw_of (i := 703) rfl rfl, aw_of (i := 124) (by decide +kernel) rfl, by decide +kernel, by decide +kernel, by decide +kernel, rfl⟩
def m_O_by : MInfo := (⟨"MarkOffice", "by", "(I)Z"⟩, (prog_1_method_7_code, (2, (Option.some FieldType.boolean, "MarkOffice"))))
set_option maxRecDepth 100000 in
theorem ok_O_by : MOK m_O_by := ⟨aw_of (i := 707) rfl rfl, aw_of (i := 124) (by decide +kernel) rfl, by decide +kernel, by decide +kernel, by decide +kernel, rfl⟩
def m_O_isText : MInfo := (⟨"MarkOffice", "isText", "(I)Z"⟩, (prog_1_method_51_code, (2, (Option.some FieldType.boolean, "MarkOffice"))))
set_option maxRecDepth 100000 in
theorem ok_O_isText : MOK m_O_isText := ⟨aw_of (i := 711) rfl rfl, aw_of (i := 124) (by decide +kernel) rfl, by decide +kernel, by decide +kernel, by decide +kernel, rfl⟩
def m_O_add : MInfo := (⟨"MarkOffice", "add", "(II)Z"⟩, (prog_1_method_8_code, (3, (Option.some FieldType.boolean, "MarkOffice"))))
set_option maxRecDepth 100000 in
theorem ok_O_add : MOK m_O_add := ⟨aw_of (i := 715) rfl rfl, aw_of (i := 124) (by decide +kernel) rfl, by decide +kernel, by decide +kernel, by decide +kernel, rfl⟩
def m_O_changeByHand : MInfo := (⟨"MarkOffice", "changeByHand", "(IIZ)Z"⟩, (prog_1_method_59_code, (4, (Option.some FieldType.boolean, "MarkOffice"))))
set_option maxRecDepth 100000 in
theorem ok_O_changeByHand : MOK m_O_changeByHand := ⟨aw_of (i := 719) rfl rfl, aw_of (i := 124) (by decide +kernel) rfl, by decide +kernel, by decide +kernel, by decide +kernel, rfl⟩
def m_N_canChange : MInfo := (⟨"MarkOffice$Now", "canChange", "(IIZ)Z"⟩, (prog_4_method_5_code, (4, (Option.some FieldType.boolean, "MarkOffice$Now"))))
set_option maxRecDepth 100000 in
theorem ok_N_canChange : MOK m_N_canChange := ⟨aw_of (i := 723) rfl rfl, aw_of (i := 129) (by decide +kernel) rfl, by decide +kernel, by decide +kernel, by decide +kernel, rfl⟩
def m_N_isMark : MInfo := (⟨"MarkOffice$Now", "isMark", "(I)Z"⟩, (prog_4_method_3_code, (2, (Option.some FieldType.boolean, "MarkOffice$Now"))))
set_option maxRecDepth 100000 in
theorem ok_N_isMark : MOK m_N_isMark := ⟨aw_of (i := 727) rfl rfl, aw_of (i := 129) (by decide +kernel) rfl, by decide +kernel, by decide +kernel, by decide +kernel, rfl⟩
def m_O_isStroke : MInfo := (⟨"MarkOffice", "isStroke", "(I)Z"⟩, (prog_1_method_52_code, (1, (Option.some FieldType.boolean, "MarkOffice"))))
set_option maxRecDepth 100000 in
theorem ok_O_isStroke : MOK m_O_isStroke := ⟨aw_of (i := 730) rfl rfl, aw_of (i := 124) (by decide +kernel) rfl, by decide +kernel, by decide +kernel, by decide +kernel, rfl⟩
def m_N_has : MInfo := (⟨"MarkOffice$Now", "has", "(II)Z"⟩, (prog_4_method_4_code, (4, (Option.some FieldType.boolean, "MarkOffice$Now"))))
set_option maxRecDepth 100000 in
theorem ok_N_has : MOK m_N_has := ⟨aw_of (i := 734) rfl rfl, aw_of (i := 129) (by decide +kernel) rfl, by decide +kernel, by decide +kernel, by decide +kernel, rfl⟩
def m_S_push : MInfo := (⟨"MarkOffice$Steps", "push", "(LMarkOffice$Now;)V"⟩, (prog_6_method_2_code, (2, (Option.none, "MarkOffice$Steps"))))
set_option maxRecDepth 100000 in
theorem ok_S_push : MOK m_S_push := ⟨aw_of (i := 738) rfl rfl, aw_of (i := 130) (by decide +kernel) rfl, by decide +kernel, by decide +kernel, by decide +kernel, rfl⟩
def m_N_copyFrom : MInfo := (⟨"MarkOffice$Now", "copyFrom", "(LMarkOffice$Now;)V"⟩, (prog_4_method_2_code, (2, (Option.none, "MarkOffice$Now"))))
set_option maxRecDepth 100000 in
theorem ok_N_copyFrom : MOK m_N_copyFrom := ⟨aw_of (i := 742) rfl rfl, aw_of (i := 129) (by decide +kernel) rfl, by decide +kernel, by decide +kernel, by decide +kernel, rfl⟩
def m_N_change : MInfo := (⟨"MarkOffice$Now", "change", "(III)V"⟩, (prog_4_method_6_code, (4, (Option.none, "MarkOffice$Now"))))
set_option maxRecDepth 100000 in
theorem ok_N_change : MOK m_N_change := ⟨aw_of (i := 749) rfl rfl, aw_of (i := 129) (by decide +kernel) rfl, by decide +kernel, by decide +kernel, by decide +kernel, rfl⟩
def m_N_writeDown : MInfo := (⟨"MarkOffice$Now", "writeDown", "(III)V"⟩, (prog_4_method_7_code, (4, (Option.none, "MarkOffice$Now"))))
set_option maxRecDepth 100000 in
theorem ok_N_writeDown : MOK m_N_writeDown := ⟨aw_of (i := 753) rfl rfl, aw_of (i := 129) (by decide +kernel) rfl, by decide +kernel, by decide +kernel, by decide +kernel, rfl⟩
def m_O_rub : MInfo := (⟨"MarkOffice", "rub", "(II)Z"⟩, (prog_1_method_9_code, (3, (Option.some FieldType.boolean, "MarkOffice"))))
set_option maxRecDepth 100000 in
theorem ok_O_rub : MOK m_O_rub := ⟨aw_of (i := 757) rfl rfl, aw_of (i := 124) (by decide +kernel) rfl, by decide +kernel, by decide +kernel, by decide +kernel, rfl⟩
def m_O_renew : MInfo := (⟨"MarkOffice", "renew", "(I)I"⟩, (prog_1_method_10_code, (2, (Option.some FieldType.int, "MarkOffice"))))
set_option maxRecDepth 100000 in
theorem ok_O_renew : MOK m_O_renew := ⟨aw_of (i := 761) rfl rfl, aw_of (i := 124) (by decide +kernel) rfl, by decide +kernel, by decide +kernel, by decide +kernel, rfl⟩
def m_O_renewByHand : MInfo := (⟨"MarkOffice", "renewByHand", "(I)I"⟩, (prog_1_method_60_code, (2, (Option.some FieldType.int, "MarkOffice"))))
set_option maxRecDepth 100000 in
theorem ok_O_renewByHand : MOK m_O_renewByHand := ⟨aw_of (i := 765) rfl rfl, aw_of (i := 124) (by decide +kernel) rfl, by decide +kernel, by decide +kernel, by decide +kernel, rfl⟩
def m_O_isMark : MInfo := (⟨"MarkOffice", "isMark", "(I)Z"⟩, (prog_1_method_50_code, (2, (Option.some FieldType.boolean, "MarkOffice"))))
set_option maxRecDepth 100000 in
theorem ok_O_isMark : MOK m_O_isMark := ⟨aw_of (i := 769) rfl rfl, aw_of (i := 124) (by decide +kernel) rfl, by decide +kernel, by decide +kernel, by decide +kernel, rfl⟩
def m_H_countOther : MInfo := (⟨"MarkOffice$Held", "countOther", "(I)I"⟩, (prog_2_method_4_code, (2, (Option.some FieldType.int, "MarkOffice$Held"))))
set_option maxRecDepth 100000 in
theorem ok_H_countOther : MOK m_H_countOther := ⟨aw_of (i := 774) rfl rfl, aw_of (i := 128) (by decide +kernel) rfl, by decide +kernel, by decide +kernel, by decide +kernel, rfl⟩
def m_JI_bitCount : MInfo := (⟨"java/lang/Integer", "bitCount", "(I)I"⟩, (prog_13_method_49_code, (1, (Option.some FieldType.int, "java/lang/Integer"))))
set_option maxRecDepth 100000 in
theorem ok_JI_bitCount : MOK m_JI_bitCount := ⟨aw_of (i := 777) rfl rfl, aw_of (i := 141) (by decide +kernel) rfl, by decide +kernel, by decide +kernel, by decide +kernel, rfl⟩
def m_H_restore : MInfo := (⟨"MarkOffice$Held", "restore", "(I)I"⟩, (prog_2_method_6_code, (3, (Option.some FieldType.int, "MarkOffice$Held"))))
set_option maxRecDepth 100000 in
theorem ok_H_restore : MOK m_H_restore := ⟨aw_of (i := 784) rfl rfl, aw_of (i := 128) (by decide +kernel) rfl, by decide +kernel, by decide +kernel, by decide +kernel, rfl⟩
def m_O_year : MInfo := (⟨"MarkOffice", "year", "(I)I"⟩, (prog_1_method_11_code, (2, (Option.some FieldType.int, "MarkOffice"))))
set_option maxRecDepth 100000 in
theorem ok_O_year : MOK m_O_year := ⟨aw_of (i := 790) rfl rfl, aw_of (i := 124) (by decide +kernel) rfl, by decide +kernel, by decide +kernel, by decide +kernel, rfl⟩
def m_O_passYears : MInfo := (⟨"MarkOffice", "passYears", "(I)I"⟩, (prog_1_method_61_code, (4, (Option.some FieldType.int, "MarkOffice"))))
set_option maxRecDepth 100000 in
theorem ok_O_passYears : MOK m_O_passYears := ⟨aw_of (i := 794) rfl rfl, aw_of (i := 124) (by decide +kernel) rfl, by decide +kernel, by decide +kernel, by decide +kernel, rfl⟩
def m_O_rules : MInfo := (⟨"MarkOffice", "rules", "()LMarkOffice$Text;"⟩, (prog_1_method_57_code, (1, (Option.some (FieldType.object "MarkOffice$Text"), "MarkOffice"))))
set_option maxRecDepth 100000 in
theorem ok_O_rules : MOK m_O_rules := ⟨aw_of (i := 798) rfl rfl, aw_of (i := 124) (by decide +kernel) rfl, by decide +kernel, by decide +kernel, by decide +kernel, rfl⟩
def m_N_passYear : MInfo := (⟨"MarkOffice$Now", "passYear", "(LMarkOffice$Laws;LMarkOffice$Text;)I"⟩, (prog_4_method_10_code, (6, (Option.some FieldType.int, "MarkOffice$Now"))))
set_option maxRecDepth 100000 in
theorem ok_N_passYear : MOK m_N_passYear := ⟨aw_of (i := 802) rfl rfl, aw_of (i := 129) (by decide +kernel) rfl, by decide +kernel, by decide +kernel, by decide +kernel, rfl⟩
def m_L_feeBy : MInfo := (⟨"MarkOffice$Laws", "feeBy", "(LMarkOffice$Text;LMarkOffice$Now;I)I"⟩, (prog_3_method_3_code, (5, (Option.some FieldType.int, "MarkOffice$Laws"))))
set_option maxRecDepth 100000 in
theorem ok_L_feeBy : MOK m_L_feeBy := ⟨aw_of (i := 807) rfl rfl, aw_of (i := 127) (by decide +kernel) rfl, by decide +kernel, by decide +kernel, by decide +kernel, rfl⟩
def m_L_run : MInfo := (⟨"MarkOffice$Laws", "run", "(LMarkOffice$Text;IILMarkOffice$Now;II)I"⟩, (prog_3_method_6_code, (12, (Option.some FieldType.int, "MarkOffice$Laws"))))
set_option maxRecDepth 100000 in
theorem ok_L_run : MOK m_L_run := ⟨aw_of (i := 812) rfl rfl, aw_of (i := 127) (by decide +kernel) rfl, by decide +kernel, by decide +kernel, by decide +kernel, rfl⟩
def m_L_push : MInfo := (⟨"MarkOffice$Laws", "push", "(I)V"⟩, (prog_3_method_4_code, (2, (Option.none, "MarkOffice$Laws"))))
set_option maxRecDepth 100000 in
theorem ok_L_push : MOK m_L_push := ⟨aw_of (i := 817) rfl rfl, aw_of (i := 127) (by decide +kernel) rfl, by decide +kernel, by decide +kernel, by decide +kernel, rfl⟩
def m_K_countPieces : MInfo := (⟨"MarkOffice$Strokes", "countPieces", "(I)I"⟩, (prog_7_method_8_code, (4, (Option.some FieldType.int, "MarkOffice$Strokes"))))
set_option maxRecDepth 100000 in
theorem ok_K_countPieces : MOK m_K_countPieces := ⟨aw_of (i := 820) rfl rfl, aw_of (i := 139) (by decide +kernel) rfl, by decide +kernel, by decide +kernel, by decide +kernel, rfl⟩
def m_K_touched : MInfo := (⟨"MarkOffice$Strokes", "touched", "(I)I"⟩, (prog_7_method_4_code, (3, (Option.some FieldType.int, "MarkOffice$Strokes"))))
set_option maxRecDepth 100000 in
theorem ok_K_touched : MOK m_K_touched := ⟨aw_of (i := 823) rfl rfl, aw_of (i := 139) (by decide +kernel) rfl, by decide +kernel, by decide +kernel, by decide +kernel, rfl⟩
def m_K_joinedWith : MInfo := (⟨"MarkOffice$Strokes", "joinedWith", "(II)I"⟩, (prog_7_method_7_code, (6, (Option.some FieldType.int, "MarkOffice$Strokes"))))
set_option maxRecDepth 100000 in
theorem ok_K_joinedWith : MOK m_K_joinedWith := ⟨aw_of (i := 828) rfl rfl, aw_of (i := 139) (by decide +kernel) rfl, by decide +kernel, by decide +kernel, by decide +kernel, rfl⟩
def m_L_pop : MInfo := (⟨"MarkOffice$Laws", "pop", "()I"⟩, (prog_3_method_5_code, (1, (Option.some FieldType.int, "MarkOffice$Laws"))))
set_option maxRecDepth 100000 in
theorem ok_L_pop : MOK m_L_pop := ⟨aw_of (i := 832) rfl rfl, aw_of (i := 127) (by decide +kernel) rfl, by decide +kernel, by decide +kernel, by decide +kernel, rfl⟩
def m_L_ofOne : MInfo := (⟨"MarkOffice$Laws", "ofOne", "(IILMarkOffice$Now;I)I"⟩, (prog_3_method_8_code, (4, (Option.some FieldType.int, "MarkOffice$Laws"))))
set_option maxRecDepth 100000 in
theorem ok_L_ofOne : MOK m_L_ofOne := ⟨aw_of (i := 836) rfl rfl, aw_of (i := 127) (by decide +kernel) rfl, by decide +kernel, by decide +kernel, by decide +kernel, rfl⟩
def m_L_named : MInfo := (⟨"MarkOffice$Laws", "named", "(ILMarkOffice$Now;II)I"⟩, (prog_3_method_7_code, (5, (Option.some FieldType.int, "MarkOffice$Laws"))))
set_option maxRecDepth 100000 in
theorem ok_L_named : MOK m_L_named := ⟨aw_of (i := 841) rfl rfl, aw_of (i := 127) (by decide +kernel) rfl, by decide +kernel, by decide +kernel, by decide +kernel, rfl⟩
def m_K_oddPoints : MInfo := (⟨"MarkOffice$Strokes", "oddPoints", "(I)I"⟩, (prog_7_method_5_code, (3, (Option.some FieldType.int, "MarkOffice$Strokes"))))
set_option maxRecDepth 100000 in
theorem ok_K_oddPoints : MOK m_K_oddPoints := ⟨aw_of (i := 844) rfl rfl, aw_of (i := 139) (by decide +kernel) rfl, by decide +kernel, by decide +kernel, by decide +kernel, rfl⟩
def m_L_ofTwo : MInfo := (⟨"MarkOffice$Laws", "ofTwo", "(III)I"⟩, (prog_3_method_9_code, (3, (Option.some FieldType.int, "MarkOffice$Laws"))))
set_option maxRecDepth 100000 in
theorem ok_L_ofTwo : MOK m_L_ofTwo := ⟨aw_of (i := 847) rfl rfl, aw_of (i := 127) (by decide +kernel) rfl, by decide +kernel, by decide +kernel, by decide +kernel, rfl⟩
def m_L_hold : MInfo := (⟨"MarkOffice$Laws", "hold", "(J)I"⟩, (prog_3_method_11_code, (2, (Option.some FieldType.int, "MarkOffice$Laws"))))
set_option maxRecDepth 100000 in
theorem ok_L_hold : MOK m_L_hold := ⟨aw_of (i := 850) rfl rfl, aw_of (i := 127) (by decide +kernel) rfl, by decide +kernel, by decide +kernel, by decide +kernel, rfl⟩
def m_L_compares : MInfo := (⟨"MarkOffice$Laws", "compares", "(III)Z"⟩, (prog_3_method_10_code, (3, (Option.some FieldType.boolean, "MarkOffice$Laws"))))
set_option maxRecDepth 100000 in
theorem ok_L_compares : MOK m_L_compares := ⟨aw_of (i := 861) rfl rfl, aw_of (i := 127) (by decide +kernel) rfl, by decide +kernel, by decide +kernel, by decide +kernel, rfl⟩
def m_N_nextX : MInfo := (⟨"MarkOffice$Now", "nextX", "()I"⟩, (prog_4_method_9_code, (2, (Option.some FieldType.int, "MarkOffice$Now"))))
set_option maxRecDepth 100000 in
theorem ok_N_nextX : MOK m_N_nextX := ⟨aw_of (i := 866) rfl rfl, aw_of (i := 129) (by decide +kernel) rfl, by decide +kernel, by decide +kernel, by decide +kernel, rfl⟩
def m_L_wearsBy : MInfo := (⟨"MarkOffice$Laws", "wearsBy", "(LMarkOffice$Text;LMarkOffice$Now;II)I"⟩, (prog_3_method_2_code, (6, (Option.some FieldType.int, "MarkOffice$Laws"))))
set_option maxRecDepth 100000 in
theorem ok_L_wearsBy : MOK m_L_wearsBy := ⟨aw_of (i := 870) rfl rfl, aw_of (i := 127) (by decide +kernel) rfl, by decide +kernel, by decide +kernel, by decide +kernel, rfl⟩
def m_O_played : MInfo := (⟨"MarkOffice", "played", "(I)I"⟩, (prog_1_method_12_code, (7, (Option.some FieldType.int, "MarkOffice"))))
set_option maxRecDepth 100000 in
theorem ok_O_played : MOK m_O_played := ⟨aw_of (i := 875) rfl rfl, aw_of (i := 124) (by decide +kernel) rfl, by decide +kernel, by decide +kernel, by decide +kernel, rfl⟩
def m_O_isDone : MInfo := (⟨"MarkOffice", "isDone", "(III)Z"⟩, (prog_1_method_62_code, (4, (Option.some FieldType.boolean, "MarkOffice"))))
set_option maxRecDepth 100000 in
theorem ok_O_isDone : MOK m_O_isDone := ⟨aw_of (i := 879) rfl rfl, aw_of (i := 124) (by decide +kernel) rfl, by decide +kernel, by decide +kernel, by decide +kernel, rfl⟩
def m_O_ages : MInfo := (⟨"MarkOffice", "ages", "(II)I"⟩, (prog_1_method_13_code, (5, (Option.some FieldType.int, "MarkOffice"))))
set_option maxRecDepth 100000 in
theorem ok_O_ages : MOK m_O_ages := ⟨aw_of (i := 883) rfl rfl, aw_of (i := 124) (by decide +kernel) rfl, by decide +kernel, by decide +kernel, by decide +kernel, rfl⟩
def m_H_ageByHand : MInfo := (⟨"MarkOffice$Held", "ageByHand", "(I)V"⟩, (prog_2_method_7_code, (5, (Option.none, "MarkOffice$Held"))))
set_option maxRecDepth 100000 in
theorem ok_H_ageByHand : MOK m_H_ageByHand := ⟨aw_of (i := 888) rfl rfl, aw_of (i := 128) (by decide +kernel) rfl, by decide +kernel, by decide +kernel, by decide +kernel, rfl⟩
def m_O_undo : MInfo := (⟨"MarkOffice", "undo", "()I"⟩, (prog_1_method_14_code, (1, (Option.some FieldType.int, "MarkOffice"))))
set_option maxRecDepth 100000 in
theorem ok_O_undo : MOK m_O_undo := ⟨aw_of (i := 896) rfl rfl, aw_of (i := 124) (by decide +kernel) rfl, by decide +kernel, by decide +kernel, by decide +kernel, rfl⟩
def m_H_takeBack : MInfo := (⟨"MarkOffice$Held", "takeBack", "()I"⟩, (prog_2_method_8_code, (3, (Option.some FieldType.int, "MarkOffice$Held"))))
set_option maxRecDepth 100000 in
theorem ok_H_takeBack : MOK m_H_takeBack := ⟨aw_of (i := 900) rfl rfl, aw_of (i := 128) (by decide +kernel) rfl, by decide +kernel, by decide +kernel, by decide +kernel, rfl⟩
def m_S_pop : MInfo := (⟨"MarkOffice$Steps", "pop", "()LMarkOffice$Now;"⟩, (prog_6_method_3_code, (1, (Option.some (FieldType.object "MarkOffice$Now"), "MarkOffice$Steps"))))
set_option maxRecDepth 100000 in
theorem ok_S_pop : MOK m_S_pop := ⟨aw_of (i := 904) rfl rfl, aw_of (i := 130) (by decide +kernel) rfl, by decide +kernel, by decide +kernel, by decide +kernel, rfl⟩
def m_O_of : MInfo := (⟨"MarkOffice", "of", "(II)I"⟩, (prog_1_method_15_code, (4, (Option.some FieldType.int, "MarkOffice"))))
set_option maxRecDepth 100000 in
theorem ok_O_of : MOK m_O_of := ⟨aw_of (i := 910) rfl rfl, aw_of (i := 124) (by decide +kernel) rfl, by decide +kernel, by decide +kernel, by decide +kernel, rfl⟩
def m_K_countHoles : MInfo := (⟨"MarkOffice$Strokes", "countHoles", "(I)I"⟩, (prog_7_method_9_code, (2, (Option.some FieldType.int, "MarkOffice$Strokes"))))
set_option maxRecDepth 100000 in
theorem ok_K_countHoles : MOK m_K_countHoles := ⟨aw_of (i := 916) rfl rfl, aw_of (i := 139) (by decide +kernel) rfl, by decide +kernel, by decide +kernel, by decide +kernel, rfl⟩
def m_K_countCrossings : MInfo := (⟨"MarkOffice$Strokes", "countCrossings", "(I)I"⟩, (prog_7_method_10_code, (1, (Option.some FieldType.int, "MarkOffice$Strokes"))))
set_option maxRecDepth 100000 in
theorem ok_K_countCrossings : MOK m_K_countCrossings := ⟨aw_of (i := 921) rfl rfl, aw_of (i := 139) (by decide +kernel) rfl, by decide +kernel, by decide +kernel, by decide +kernel, rfl⟩
def m_O_wears : MInfo := (⟨"MarkOffice", "wears", "(II)I"⟩, (prog_1_method_16_code, (3, (Option.some FieldType.int, "MarkOffice"))))
set_option maxRecDepth 100000 in
theorem ok_O_wears : MOK m_O_wears := ⟨aw_of (i := 926) rfl rfl, aw_of (i := 124) (by decide +kernel) rfl, by decide +kernel, by decide +kernel, by decide +kernel, rfl⟩
def m_O_is : MInfo := (⟨"MarkOffice", "is", "(I)I"⟩, (prog_1_method_17_code, (2, (Option.some FieldType.int, "MarkOffice"))))
set_option maxRecDepth 100000 in
theorem ok_O_is : MOK m_O_is := ⟨aw_of (i := 932) rfl rfl, aw_of (i := 124) (by decide +kernel) rfl, by decide +kernel, by decide +kernel, by decide +kernel, rfl⟩
def m_H_otherThanRegistered : MInfo := (⟨"MarkOffice$Held", "otherThanRegistered", "()I"⟩, (prog_2_method_5_code, (3, (Option.some FieldType.int, "MarkOffice$Held"))))
set_option maxRecDepth 100000 in
theorem ok_H_otherThanRegistered : MOK m_H_otherThanRegistered := ⟨aw_of (i := 936) rfl rfl, aw_of (i := 128) (by decide +kernel) rfl, by decide +kernel, by decide +kernel, by decide +kernel, rfl⟩
def m_O_book : MInfo := (⟨"MarkOffice", "book", "(II)I"⟩, (prog_1_method_18_code, (4, (Option.some FieldType.int, "MarkOffice"))))
set_option maxRecDepth 100000 in
theorem ok_O_book : MOK m_O_book := ⟨aw_of (i := 940) rfl rfl, aw_of (i := 124) (by decide +kernel) rfl, by decide +kernel, by decide +kernel, by decide +kernel, rfl⟩
def m_N_lineTells : MInfo := (⟨"MarkOffice$Now", "lineTells", "(II)I"⟩, (prog_4_method_8_code, (4, (Option.some FieldType.int, "MarkOffice$Now"))))
set_option maxRecDepth 100000 in
theorem ok_N_lineTells : MOK m_N_lineTells := ⟨aw_of (i := 944) rfl rfl, aw_of (i := 129) (by decide +kernel) rfl, by decide +kernel, by decide +kernel, by decide +kernel, rfl⟩
def m_O_foretold : MInfo := (⟨"MarkOffice", "foretold", "(II)I"⟩, (prog_1_method_19_code, (4, (Option.some FieldType.int, "MarkOffice"))))
set_option maxRecDepth 100000 in
theorem ok_O_foretold : MOK m_O_foretold := ⟨aw_of (i := 948) rfl rfl, aw_of (i := 124) (by decide +kernel) rfl, by decide +kernel, by decide +kernel, by decide +kernel, rfl⟩
def m_O_drawn : MInfo := (⟨"MarkOffice", "drawn", "(II)I"⟩, (prog_1_method_20_code, (3, (Option.some FieldType.int, "MarkOffice"))))
set_option maxRecDepth 100000 in
theorem ok_O_drawn : MOK m_O_drawn := ⟨aw_of (i := 953) rfl rfl, aw_of (i := 124) (by decide +kernel) rfl, by decide +kernel, by decide +kernel, by decide +kernel, rfl⟩
def m_O_isPoint : MInfo := (⟨"MarkOffice", "isPoint", "(I)Z"⟩, (prog_1_method_53_code, (1, (Option.some FieldType.boolean, "MarkOffice"))))
set_option maxRecDepth 100000 in
theorem ok_O_isPoint : MOK m_O_isPoint := ⟨aw_of (i := 956) rfl rfl, aw_of (i := 124) (by decide +kernel) rfl, by decide +kernel, by decide +kernel, by decide +kernel, rfl⟩
def m_K_between : MInfo := (⟨"MarkOffice$Strokes", "between", "(II)I"⟩, (prog_7_method_2_code, (4, (Option.some FieldType.int, "MarkOffice$Strokes"))))
set_option maxRecDepth 100000 in
theorem ok_K_between : MOK m_K_between := ⟨aw_of (i := 959) rfl rfl, aw_of (i := 139) (by decide +kernel) rfl, by decide +kernel, by decide +kernel, by decide +kernel, rfl⟩
def m_O_turned : MInfo := (⟨"MarkOffice", "turned", "(II)I"⟩, (prog_1_method_21_code, (3, (Option.some FieldType.int, "MarkOffice"))))
set_option maxRecDepth 100000 in
theorem ok_O_turned : MOK m_O_turned := ⟨aw_of (i := 963) rfl rfl, aw_of (i := 124) (by decide +kernel) rfl, by decide +kernel, by decide +kernel, by decide +kernel, rfl⟩
def m_O_isWay : MInfo := (⟨"MarkOffice", "isWay", "(I)Z"⟩, (prog_1_method_54_code, (1, (Option.some FieldType.boolean, "MarkOffice"))))
set_option maxRecDepth 100000 in
theorem ok_O_isWay : MOK m_O_isWay := ⟨aw_of (i := 966) rfl rfl, aw_of (i := 124) (by decide +kernel) rfl, by decide +kernel, by decide +kernel, by decide +kernel, rfl⟩
def m_O_joined : MInfo := (⟨"MarkOffice", "joined", "(II)I"⟩, (prog_1_method_22_code, (6, (Option.some FieldType.int, "MarkOffice"))))
set_option maxRecDepth 100000 in
theorem ok_O_joined : MOK m_O_joined := ⟨aw_of (i := 971) rfl rfl, aw_of (i := 124) (by decide +kernel) rfl, by decide +kernel, by decide +kernel, by decide +kernel, rfl⟩
def m_O_own : MInfo := (⟨"MarkOffice", "own", "(I)I"⟩, (prog_1_method_23_code, (4, (Option.some FieldType.int, "MarkOffice"))))
set_option maxRecDepth 100000 in
theorem ok_O_own : MOK m_O_own := ⟨aw_of (i := 975) rfl rfl, aw_of (i := 124) (by decide +kernel) rfl, by decide +kernel, by decide +kernel, by decide +kernel, rfl⟩
def m_O_least : MInfo := (⟨"MarkOffice", "least", "(I)I"⟩, (prog_1_method_24_code, (4, (Option.some FieldType.int, "MarkOffice"))))
set_option maxRecDepth 100000 in
theorem ok_O_least : MOK m_O_least := ⟨aw_of (i := 979) rfl rfl, aw_of (i := 124) (by decide +kernel) rfl, by decide +kernel, by decide +kernel, by decide +kernel, rfl⟩
def m_O_pens : MInfo := (⟨"MarkOffice", "pens", "(I)I"⟩, (prog_1_method_25_code, (2, (Option.some FieldType.int, "MarkOffice"))))
set_option maxRecDepth 100000 in
theorem ok_O_pens : MOK m_O_pens := ⟨aw_of (i := 984) rfl rfl, aw_of (i := 124) (by decide +kernel) rfl, by decide +kernel, by decide +kernel, by decide +kernel, rfl⟩
def m_K_countPens : MInfo := (⟨"MarkOffice$Strokes", "countPens", "(I)I"⟩, (prog_7_method_11_code, (6, (Option.some FieldType.int, "MarkOffice$Strokes"))))
set_option maxRecDepth 100000 in
theorem ok_K_countPens : MOK m_K_countPens := ⟨aw_of (i := 987) rfl rfl, aw_of (i := 139) (by decide +kernel) rfl, by decide +kernel, by decide +kernel, by decide +kernel, rfl⟩
def m_O_trail : MInfo := (⟨"MarkOffice", "trail", "(II)I"⟩, (prog_1_method_26_code, (4, (Option.some FieldType.int, "MarkOffice"))))
set_option maxRecDepth 100000 in
theorem ok_O_trail : MOK m_O_trail := ⟨aw_of (i := 993) rfl rfl, aw_of (i := 124) (by decide +kernel) rfl, by decide +kernel, by decide +kernel, by decide +kernel, rfl⟩
def m_K_trailInto : MInfo := (⟨"MarkOffice$Strokes", "trailInto", "([II)I"⟩, (prog_7_method_12_code, (8, (Option.some FieldType.int, "MarkOffice$Strokes"))))
set_option maxRecDepth 100000 in
theorem ok_K_trailInto : MOK m_K_trailInto := ⟨aw_of (i := 996) rfl rfl, aw_of (i := 139) (by decide +kernel) rfl, by decide +kernel, by decide +kernel, by decide +kernel, rfl⟩
def m_K_placeOfLowest : MInfo := (⟨"MarkOffice$Strokes", "placeOfLowest", "(I)I"⟩, (prog_7_method_22_code, (1, (Option.some FieldType.int, "MarkOffice$Strokes"))))
set_option maxRecDepth 100000 in
theorem ok_K_placeOfLowest : MOK m_K_placeOfLowest := ⟨aw_of (i := 1000) rfl rfl, aw_of (i := 139) (by decide +kernel) rfl, by decide +kernel, by decide +kernel, by decide +kernel, rfl⟩
def m_K_nextOnTrail : MInfo := (⟨"MarkOffice$Strokes", "nextOnTrail", "(II)I"⟩, (prog_7_method_13_code, (5, (Option.some FieldType.int, "MarkOffice$Strokes"))))
set_option maxRecDepth 100000 in
theorem ok_K_nextOnTrail : MOK m_K_nextOnTrail := ⟨aw_of (i := 1003) rfl rfl, aw_of (i := 139) (by decide +kernel) rfl, by decide +kernel, by decide +kernel, by decide +kernel, rfl⟩
def m_O_rim : MInfo := (⟨"MarkOffice", "rim", "(I)I"⟩, (prog_1_method_27_code, (2, (Option.some FieldType.int, "MarkOffice"))))
set_option maxRecDepth 100000 in
theorem ok_O_rim : MOK m_O_rim := ⟨aw_of (i := 1008) rfl rfl, aw_of (i := 124) (by decide +kernel) rfl, by decide +kernel, by decide +kernel, by decide +kernel, rfl⟩
def m_K_pointsOfOne : MInfo := (⟨"MarkOffice$Strokes", "pointsOfOne", "(I)I"⟩, (prog_7_method_6_code, (4, (Option.some FieldType.int, "MarkOffice$Strokes"))))
set_option maxRecDepth 100000 in
theorem ok_K_pointsOfOne : MOK m_K_pointsOfOne := ⟨aw_of (i := 1011) rfl rfl, aw_of (i := 139) (by decide +kernel) rfl, by decide +kernel, by decide +kernel, by decide +kernel, rfl⟩
def m_O_alike : MInfo := (⟨"MarkOffice", "alike", "(II)I"⟩, (prog_1_method_28_code, (4, (Option.some FieldType.int, "MarkOffice"))))
set_option maxRecDepth 100000 in
theorem ok_O_alike : MOK m_O_alike := ⟨aw_of (i := 1015) rfl rfl, aw_of (i := 124) (by decide +kernel) rfl, by decide +kernel, by decide +kernel, by decide +kernel, rfl⟩
def m_K_nearestWay : MInfo := (⟨"MarkOffice$Strokes", "nearestWay", "(II)I"⟩, (prog_7_method_15_code, (6, (Option.some FieldType.int, "MarkOffice$Strokes"))))
set_option maxRecDepth 100000 in
theorem ok_K_nearestWay : MOK m_K_nearestWay := ⟨aw_of (i := 1018) rfl rfl, aw_of (i := 139) (by decide +kernel) rfl, by decide +kernel, by decide +kernel, by decide +kernel, rfl⟩
def m_K_countApart : MInfo := (⟨"MarkOffice$Strokes", "countApart", "(III)I"⟩, (prog_7_method_14_code, (3, (Option.some FieldType.int, "MarkOffice$Strokes"))))
set_option maxRecDepth 100000 in
theorem ok_K_countApart : MOK m_K_countApart := ⟨aw_of (i := 1021) rfl rfl, aw_of (i := 139) (by decide +kernel) rfl, by decide +kernel, by decide +kernel, by decide +kernel, rfl⟩
def m_O_way : MInfo := (⟨"MarkOffice", "way", "(II)I"⟩, (prog_1_method_29_code, (3, (Option.some FieldType.int, "MarkOffice"))))
set_option maxRecDepth 100000 in
theorem ok_O_way : MOK m_O_way := ⟨aw_of (i := 1027) rfl rfl, aw_of (i := 124) (by decide +kernel) rfl, by decide +kernel, by decide +kernel, by decide +kernel, rfl⟩
def m_O_made : MInfo := (⟨"MarkOffice", "made", "(IIZ)I"⟩, (prog_1_method_30_code, (7, (Option.some FieldType.int, "MarkOffice"))))
set_option maxRecDepth 100000 in
theorem ok_O_made : MOK m_O_made := ⟨aw_of (i := 1031) rfl rfl, aw_of (i := 124) (by decide +kernel) rfl, by decide +kernel, by decide +kernel, by decide +kernel, rfl⟩
def m_K_wayInto : MInfo := (⟨"MarkOffice$Strokes", "wayInto", "(II)I"⟩, (prog_7_method_16_code, (3, (Option.some FieldType.int, "MarkOffice$Strokes"))))
set_option maxRecDepth 100000 in
theorem ok_K_wayInto : MOK m_K_wayInto := ⟨aw_of (i := 1034) rfl rfl, aw_of (i := 139) (by decide +kernel) rfl, by decide +kernel, by decide +kernel, by decide +kernel, rfl⟩
def m_O_clash : MInfo := (⟨"MarkOffice", "clash", "(IZ)I"⟩, (prog_1_method_31_code, (5, (Option.some FieldType.int, "MarkOffice"))))
set_option maxRecDepth 100000 in
theorem ok_O_clash : MOK m_O_clash := ⟨aw_of (i := 1038) rfl rfl, aw_of (i := 124) (by decide +kernel) rfl, by decide +kernel, by decide +kernel, by decide +kernel, rfl⟩
def m_K_isNear : MInfo := (⟨"MarkOffice$Strokes", "isNear", "(III)Z"⟩, (prog_7_method_18_code, (3, (Option.some FieldType.boolean, "MarkOffice$Strokes"))))
set_option maxRecDepth 100000 in
theorem ok_K_isNear : MOK m_K_isNear := ⟨aw_of (i := 1041) rfl rfl, aw_of (i := 139) (by decide +kernel) rfl, by decide +kernel, by decide +kernel, by decide +kernel, rfl⟩
def m_K_isMadeOf : MInfo := (⟨"MarkOffice$Strokes", "isMadeOf", "(III)Z"⟩, (prog_7_method_17_code, (4, (Option.some FieldType.boolean, "MarkOffice$Strokes"))))
set_option maxRecDepth 100000 in
theorem ok_K_isMadeOf : MOK m_K_isMadeOf := ⟨aw_of (i := 1044) rfl rfl, aw_of (i := 139) (by decide +kernel) rfl, by decide +kernel, by decide +kernel, by decide +kernel, rfl⟩
def m_O_chain : MInfo := (⟨"MarkOffice", "chain", "(III)I"⟩, (prog_1_method_32_code, (6, (Option.some FieldType.int, "MarkOffice"))))
set_option maxRecDepth 100000 in
theorem ok_O_chain : MOK m_O_chain := ⟨aw_of (i := 1049) rfl rfl, aw_of (i := 124) (by decide +kernel) rfl, by decide +kernel, by decide +kernel, by decide +kernel, rfl⟩
def m_O_forgedFrom : MInfo := (⟨"MarkOffice", "forgedFrom", "(II)I"⟩, (prog_1_method_63_code, (7, (Option.some FieldType.int, "MarkOffice"))))
set_option maxRecDepth 100000 in
theorem ok_O_forgedFrom : MOK m_O_forgedFrom := ⟨aw_of (i := 1053) rfl rfl, aw_of (i := 124) (by decide +kernel) rfl, by decide +kernel, by decide +kernel, by decide +kernel, rfl⟩
def m_O_free : MInfo := (⟨"MarkOffice", "free", "(II)I"⟩, (prog_1_method_33_code, (7, (Option.some FieldType.int, "MarkOffice"))))
set_option maxRecDepth 100000 in
theorem ok_O_free : MOK m_O_free := ⟨aw_of (i := 1058) rfl rfl, aw_of (i := 124) (by decide +kernel) rfl, by decide +kernel, by decide +kernel, by decide +kernel, rfl⟩
def m_O_turnAll : MInfo := (⟨"MarkOffice", "turnAll", "([I)I"⟩, (prog_1_method_64_code, (5, (Option.some FieldType.int, "MarkOffice"))))
set_option maxRecDepth 100000 in
theorem ok_O_turnAll : MOK m_O_turnAll := ⟨aw_of (i := 1062) rfl rfl, aw_of (i := 124) (by decide +kernel) rfl, by decide +kernel, by decide +kernel, by decide +kernel, rfl⟩
def m_K_countSets : MInfo := (⟨"MarkOffice$Strokes", "countSets", "(I)I"⟩, (prog_7_method_20_code, (3, (Option.some FieldType.int, "MarkOffice$Strokes"))))
set_option maxRecDepth 100000 in
theorem ok_K_countSets : MOK m_K_countSets := ⟨aw_of (i := 1065) rfl rfl, aw_of (i := 139) (by decide +kernel) rfl, by decide +kernel, by decide +kernel, by decide +kernel, rfl⟩
def m_K_lowestOf : MInfo := (⟨"MarkOffice$Strokes", "lowestOf", "(I)I"⟩, (prog_7_method_21_code, (1, (Option.some FieldType.int, "MarkOffice$Strokes"))))
set_option maxRecDepth 100000 in
theorem ok_K_lowestOf : MOK m_K_lowestOf := ⟨aw_of (i := 1068) rfl rfl, aw_of (i := 139) (by decide +kernel) rfl, by decide +kernel, by decide +kernel, by decide +kernel, rfl⟩
def m_O_isFreeOf : MInfo := (⟨"MarkOffice", "isFreeOf", "(III)Z"⟩, (prog_1_method_65_code, (7, (Option.some FieldType.boolean, "MarkOffice"))))
set_option maxRecDepth 100000 in
theorem ok_O_isFreeOf : MOK m_O_isFreeOf := ⟨aw_of (i := 1072) rfl rfl, aw_of (i := 124) (by decide +kernel) rfl, by decide +kernel, by decide +kernel, by decide +kernel, rfl⟩
def m_K_nextOf : MInfo := (⟨"MarkOffice$Strokes", "nextOf", "(I)I"⟩, (prog_7_method_23_code, (2, (Option.some FieldType.int, "MarkOffice$Strokes"))))
set_option maxRecDepth 100000 in
theorem ok_K_nextOf : MOK m_K_nextOf := ⟨aw_of (i := 1075) rfl rfl, aw_of (i := 139) (by decide +kernel) rfl, by decide +kernel, by decide +kernel, by decide +kernel, rfl⟩
def m_O_kinds : MInfo := (⟨"MarkOffice", "kinds", "(I)J"⟩, (prog_1_method_34_code, (5, (Option.some FieldType.long, "MarkOffice"))))
set_option maxRecDepth 100000 in
theorem ok_O_kinds : MOK m_O_kinds := ⟨aw_of (i := 1079) rfl rfl, aw_of (i := 124) (by decide +kernel) rfl, by decide +kernel, by decide +kernel, by decide +kernel, rfl⟩
def m_K_countKeptBy : MInfo := (⟨"MarkOffice$Strokes", "countKeptBy", "(II[J)J"⟩, (prog_7_method_24_code, (7, (Option.some FieldType.long, "MarkOffice$Strokes"))))
set_option maxRecDepth 100000 in
theorem ok_K_countKeptBy : MOK m_K_countKeptBy := ⟨aw_of (i := 1083) rfl rfl, aw_of (i := 139) (by decide +kernel) rfl, by decide +kernel, by decide +kernel, by decide +kernel, rfl⟩
def m_O_witness : MInfo := (⟨"MarkOffice", "witness", "(IZ)I"⟩, (prog_1_method_35_code, (3, (Option.some FieldType.int, "MarkOffice"))))
set_option maxRecDepth 100000 in
theorem ok_O_witness : MOK m_O_witness := ⟨aw_of (i := 1088) rfl rfl, aw_of (i := 124) (by decide +kernel) rfl, by decide +kernel, by decide +kernel, by decide +kernel, rfl⟩
def m_H_countTold : MInfo := (⟨"MarkOffice$Held", "countTold", "()I"⟩, (prog_2_method_10_code, (1, (Option.some FieldType.int, "MarkOffice$Held"))))
set_option maxRecDepth 100000 in
theorem ok_H_countTold : MOK m_H_countTold := ⟨aw_of (i := 1092) rfl rfl, aw_of (i := 128) (by decide +kernel) rfl, by decide +kernel, by decide +kernel, by decide +kernel, rfl⟩
def m_O_which : MInfo := (⟨"MarkOffice", "which", "()I"⟩, (prog_1_method_36_code, (3, (Option.some FieldType.int, "MarkOffice"))))
set_option maxRecDepth 100000 in
theorem ok_O_which : MOK m_O_which := ⟨aw_of (i := 1096) rfl rfl, aw_of (i := 124) (by decide +kernel) rfl, by decide +kernel, by decide +kernel, by decide +kernel, rfl⟩
def m_O_fittingWays : MInfo := (⟨"MarkOffice", "fittingWays", "(I)I"⟩, (prog_1_method_67_code, (4, (Option.some FieldType.int, "MarkOffice"))))
set_option maxRecDepth 100000 in
theorem ok_O_fittingWays : MOK m_O_fittingWays := ⟨aw_of (i := 1100) rfl rfl, aw_of (i := 124) (by decide +kernel) rfl, by decide +kernel, by decide +kernel, by decide +kernel, rfl⟩
def m_H_fits : MInfo := (⟨"MarkOffice$Held", "fits", "(I)Z"⟩, (prog_2_method_9_code, (2, (Option.some FieldType.boolean, "MarkOffice$Held"))))
set_option maxRecDepth 100000 in
theorem ok_H_fits : MOK m_H_fits := ⟨aw_of (i := 1104) rfl rfl, aw_of (i := 128) (by decide +kernel) rfl, by decide +kernel, by decide +kernel, by decide +kernel, rfl⟩
def m_O_ways : MInfo := (⟨"MarkOffice", "ways", "(I)I"⟩, (prog_1_method_37_code, (2, (Option.some FieldType.int, "MarkOffice"))))
set_option maxRecDepth 100000 in
theorem ok_O_ways : MOK m_O_ways := ⟨aw_of (i := 1108) rfl rfl, aw_of (i := 124) (by decide +kernel) rfl, by decide +kernel, by decide +kernel, by decide +kernel, rfl⟩
def m_O_ask : MInfo := (⟨"MarkOffice", "ask", "()I"⟩, (prog_1_method_38_code, (5, (Option.some FieldType.int, "MarkOffice"))))
set_option maxRecDepth 100000 in
theorem ok_O_ask : MOK m_O_ask := ⟨aw_of (i := 1112) rfl rfl, aw_of (i := 124) (by decide +kernel) rfl, by decide +kernel, by decide +kernel, by decide +kernel, rfl⟩
def m_O_gatherFitting : MInfo := (⟨"MarkOffice", "gatherFitting", "(II)I"⟩, (prog_1_method_68_code, (6, (Option.some FieldType.int, "MarkOffice"))))
set_option maxRecDepth 100000 in
theorem ok_O_gatherFitting : MOK m_O_gatherFitting := ⟨aw_of (i := 1116) rfl rfl, aw_of (i := 124) (by decide +kernel) rfl, by decide +kernel, by decide +kernel, by decide +kernel, rfl⟩
def m_O_bestQuestion : MInfo := (⟨"MarkOffice", "bestQuestion", "(I)I"⟩, (prog_1_method_69_code, (8, (Option.some FieldType.int, "MarkOffice"))))
set_option maxRecDepth 100000 in
theorem ok_O_bestQuestion : MOK m_O_bestQuestion := ⟨aw_of (i := 1120) rfl rfl, aw_of (i := 124) (by decide +kernel) rfl, by decide +kernel, by decide +kernel, by decide +kernel, rfl⟩
def m_O_game : MInfo := (⟨"MarkOffice", "game", "(II)I"⟩, (prog_1_method_39_code, (3, (Option.some FieldType.int, "MarkOffice"))))
set_option maxRecDepth 100000 in
theorem ok_O_game : MOK m_O_game := ⟨aw_of (i := 1125) rfl rfl, aw_of (i := 124) (by decide +kernel) rfl, by decide +kernel, by decide +kernel, by decide +kernel, rfl⟩
def m_O_isGame : MInfo := (⟨"MarkOffice", "isGame", "(II)Z"⟩, (prog_1_method_56_code, (2, (Option.some FieldType.boolean, "MarkOffice"))))
set_option maxRecDepth 100000 in
theorem ok_O_isGame : MOK m_O_isGame := ⟨aw_of (i := 1128) rfl rfl, aw_of (i := 124) (by decide +kernel) rfl, by decide +kernel, by decide +kernel, by decide +kernel, rfl⟩
def m_K_countJoining : MInfo := (⟨"MarkOffice$Strokes", "countJoining", "(II)I"⟩, (prog_7_method_19_code, (7, (Option.some FieldType.int, "MarkOffice$Strokes"))))
set_option maxRecDepth 100000 in
theorem ok_K_countJoining : MOK m_K_countJoining := ⟨aw_of (i := 1131) rfl rfl, aw_of (i := 139) (by decide +kernel) rfl, by decide +kernel, by decide +kernel, by decide +kernel, rfl⟩
def m_O_play : MInfo := (⟨"MarkOffice", "play", "(II)I"⟩, (prog_1_method_40_code, (5, (Option.some FieldType.int, "MarkOffice"))))
set_option maxRecDepth 100000 in
theorem ok_O_play : MOK m_O_play := ⟨aw_of (i := 1136) rfl rfl, aw_of (i := 124) (by decide +kernel) rfl, by decide +kernel, by decide +kernel, by decide +kernel, rfl⟩
def m_O_apart : MInfo := (⟨"MarkOffice", "apart", "(II)I"⟩, (prog_1_method_41_code, (8, (Option.some FieldType.int, "MarkOffice"))))
set_option maxRecDepth 100000 in
theorem ok_O_apart : MOK m_O_apart := ⟨aw_of (i := 1140) rfl rfl, aw_of (i := 124) (by decide +kernel) rfl, by decide +kernel, by decide +kernel, by decide +kernel, rfl⟩
def m_O_isApartFrom : MInfo := (⟨"MarkOffice", "isApartFrom", "(III)Z"⟩, (prog_1_method_66_code, (5, (Option.some FieldType.boolean, "MarkOffice"))))
set_option maxRecDepth 100000 in
theorem ok_O_isApartFrom : MOK m_O_isApartFrom := ⟨aw_of (i := 1144) rfl rfl, aw_of (i := 124) (by decide +kernel) rfl, by decide +kernel, by decide +kernel, by decide +kernel, rfl⟩
def m_O_said : MInfo := (⟨"MarkOffice", "said", "(III)I"⟩, (prog_1_method_42_code, (5, (Option.some FieldType.int, "MarkOffice"))))
set_option maxRecDepth 100000 in
theorem ok_O_said : MOK m_O_said := ⟨aw_of (i := 1148) rfl rfl, aw_of (i := 124) (by decide +kernel) rfl, by decide +kernel, by decide +kernel, by decide +kernel, rfl⟩
def m_O_whose : MInfo := (⟨"MarkOffice", "whose", "()I"⟩, (prog_1_method_43_code, (3, (Option.some FieldType.int, "MarkOffice"))))
set_option maxRecDepth 100000 in
theorem ok_O_whose : MOK m_O_whose := ⟨aw_of (i := 1152) rfl rfl, aw_of (i := 124) (by decide +kernel) rfl, by decide +kernel, by decide +kernel, by decide +kernel, rfl⟩
def m_O_agrees : MInfo := (⟨"MarkOffice", "agrees", "(LMarkOffice$Text;)Z"⟩, (prog_1_method_70_code, (4, (Option.some FieldType.boolean, "MarkOffice"))))
set_option maxRecDepth 100000 in
theorem ok_O_agrees : MOK m_O_agrees := ⟨aw_of (i := 1156) rfl rfl, aw_of (i := 124) (by decide +kernel) rfl, by decide +kernel, by decide +kernel, by decide +kernel, rfl⟩
def m_O_richest : MInfo := (⟨"MarkOffice", "richest", "()I"⟩, (prog_1_method_44_code, (5, (Option.some FieldType.int, "MarkOffice"))))
set_option maxRecDepth 100000 in
theorem ok_O_richest : MOK m_O_richest := ⟨aw_of (i := 1160) rfl rfl, aw_of (i := 124) (by decide +kernel) rfl, by decide +kernel, by decide +kernel, by decide +kernel, rfl⟩
def m_O_worn : MInfo := (⟨"MarkOffice", "worn", "()I"⟩, (prog_1_method_45_code, (5, (Option.some FieldType.int, "MarkOffice"))))
set_option maxRecDepth 100000 in
theorem ok_O_worn : MOK m_O_worn := ⟨aw_of (i := 1164) rfl rfl, aw_of (i := 124) (by decide +kernel) rfl, by decide +kernel, by decide +kernel, by decide +kernel, rfl⟩
def m_O_ledger : MInfo := (⟨"MarkOffice", "ledger", "(I)I"⟩, (prog_1_method_46_code, (4, (Option.some FieldType.int, "MarkOffice"))))
set_option maxRecDepth 100000 in
theorem ok_O_ledger : MOK m_O_ledger := ⟨aw_of (i := 1168) rfl rfl, aw_of (i := 124) (by decide +kernel) rfl, by decide +kernel, by decide +kernel, by decide +kernel, rfl⟩
def m_O_image : MInfo := (⟨"MarkOffice", "image", "()I"⟩, (prog_1_method_47_code, (1, (Option.some FieldType.int, "MarkOffice"))))
set_option maxRecDepth 100000 in
theorem ok_O_image : MOK m_O_image := ⟨aw_of (i := 1172) rfl rfl, aw_of (i := 124) (by decide +kernel) rfl, by decide +kernel, by decide +kernel, by decide +kernel, rfl⟩
def m_H_copyFrom : MInfo := (⟨"MarkOffice$Held", "copyFrom", "(LMarkOffice$Held;)V"⟩, (prog_2_method_2_code, (2, (Option.none, "MarkOffice$Held"))))
set_option maxRecDepth 100000 in
theorem ok_H_copyFrom : MOK m_H_copyFrom := ⟨aw_of (i := 1176) rfl rfl, aw_of (i := 128) (by decide +kernel) rfl, by decide +kernel, by decide +kernel, by decide +kernel, rfl⟩
def m_S_copyFrom : MInfo := (⟨"MarkOffice$Steps", "copyFrom", "(LMarkOffice$Steps;)V"⟩, (prog_6_method_4_code, (3, (Option.none, "MarkOffice$Steps"))))
set_option maxRecDepth 100000 in
theorem ok_S_copyFrom : MOK m_S_copyFrom := ⟨aw_of (i := 1180) rfl rfl, aw_of (i := 130) (by decide +kernel) rfl, by decide +kernel, by decide +kernel, by decide +kernel, rfl⟩
def m_O_back : MInfo := (⟨"MarkOffice", "back", "()I"⟩, (prog_1_method_48_code, (1, (Option.some FieldType.int, "MarkOffice"))))
set_option maxRecDepth 100000 in
theorem ok_O_back : MOK m_O_back := ⟨aw_of (i := 1185) rfl rfl, aw_of (i := 124) (by decide +kernel) rfl, by decide +kernel, by decide +kernel, by decide +kernel, rfl⟩
def m_O_about : MInfo := (⟨"MarkOffice", "about", "(I)I"⟩, (prog_1_method_49_code, (2, (Option.some FieldType.int, "MarkOffice"))))
set_option maxRecDepth 100000 in
theorem ok_O_about : MOK m_O_about := ⟨aw_of (i := 1189) rfl rfl, aw_of (i := 124) (by decide +kernel) rfl, by decide +kernel, by decide +kernel, by decide +kernel, rfl⟩
def m_R_init : MInfo := (⟨"MarkOfficeModel", "<init>", "()V"⟩, (prog_11_method_1_code, (3, (Option.none, "MarkOfficeModel"))))
set_option maxRecDepth 100000 in
theorem ok_R_init : MOK m_R_init := ⟨aw_of (i := 1194) rfl rfl, aw_of (i := 132) (by decide +kernel) rfl, by decide +kernel, by decide +kernel, by decide +kernel, rfl⟩
def m_R_layStroke : MInfo := (⟨"MarkOfficeModel", "layStroke", "(III)V"⟩, (prog_11_method_2_code, (4, (Option.none, "MarkOfficeModel"))))
set_option maxRecDepth 100000 in
theorem ok_R_layStroke : MOK m_R_layStroke := ⟨aw_of (i := 1199) rfl rfl, aw_of (i := 132) (by decide +kernel) rfl, by decide +kernel, by decide +kernel, by decide +kernel, rfl⟩
def m_R_pointBy : MInfo := (⟨"MarkOfficeModel", "pointBy", "(II)I"⟩, (prog_11_method_3_code, (6, (Option.some FieldType.int, "MarkOfficeModel"))))
set_option maxRecDepth 100000 in
theorem ok_R_pointBy : MOK m_R_pointBy := ⟨aw_of (i := 1202) rfl rfl, aw_of (i := 132) (by decide +kernel) rfl, by decide +kernel, by decide +kernel, by decide +kernel, rfl⟩
def m_R_copy : MInfo := (⟨"MarkOfficeModel", "copy", "([I[I)V"⟩, (prog_11_method_4_code, (3, (Option.none, "MarkOfficeModel"))))
set_option maxRecDepth 100000 in
theorem ok_R_copy : MOK m_R_copy := ⟨aw_of (i := 1205) rfl rfl, aw_of (i := 132) (by decide +kernel) rfl, by decide +kernel, by decide +kernel, by decide +kernel, rfl⟩
def m_R_drawn : MInfo := (⟨"MarkOfficeModel", "drawn", "(II)I"⟩, (prog_11_method_14_code, (3, (Option.some FieldType.int, "MarkOfficeModel"))))
set_option maxRecDepth 100000 in
theorem ok_R_drawn : MOK m_R_drawn := ⟨aw_of (i := 1322) rfl rfl, aw_of (i := 132) (by decide +kernel) rfl, by decide +kernel, by decide +kernel, by decide +kernel, rfl⟩
def m_R_isIn : MInfo := (⟨"MarkOfficeModel", "isIn", "(III)Z"⟩, (prog_11_method_5_code, (3, (Option.some FieldType.boolean, "MarkOfficeModel"))))
set_option maxRecDepth 100000 in
theorem ok_R_isIn : MOK m_R_isIn := ⟨aw_of (i := 1325) rfl rfl, aw_of (i := 132) (by decide +kernel) rfl, by decide +kernel, by decide +kernel, by decide +kernel, rfl⟩
def m_R_turned : MInfo := (⟨"MarkOfficeModel", "turned", "(II)I"⟩, (prog_11_method_15_code, (3, (Option.some FieldType.int, "MarkOfficeModel"))))
set_option maxRecDepth 100000 in
theorem ok_R_turned : MOK m_R_turned := ⟨aw_of (i := 1329) rfl rfl, aw_of (i := 132) (by decide +kernel) rfl, by decide +kernel, by decide +kernel, by decide +kernel, rfl⟩
def m_R_areStrokes : MInfo := (⟨"MarkOfficeModel", "areStrokes", "(I)Z"⟩, (prog_11_method_11_code, (1, (Option.some FieldType.boolean, "MarkOfficeModel"))))
set_option maxRecDepth 100000 in
theorem ok_R_areStrokes : MOK m_R_areStrokes := ⟨aw_of (i := 1332) rfl rfl, aw_of (i := 132) (by decide +kernel) rfl, by decide +kernel, by decide +kernel, by decide +kernel, rfl⟩
def m_R_isWay : MInfo := (⟨"MarkOfficeModel", "isWay", "(I)Z"⟩, (prog_11_method_12_code, (1, (Option.some FieldType.boolean, "MarkOfficeModel"))))
set_option maxRecDepth 100000 in
theorem ok_R_isWay : MOK m_R_isWay := ⟨aw_of (i := 1336) rfl rfl, aw_of (i := 132) (by decide +kernel) rfl, by decide +kernel, by decide +kernel, by decide +kernel, rfl⟩
def m_R_byWay : MInfo := (⟨"MarkOfficeModel", "byWay", "(II)I"⟩, (prog_11_method_13_code, (5, (Option.some FieldType.int, "MarkOfficeModel"))))
set_option maxRecDepth 100000 in
theorem ok_R_byWay : MOK m_R_byWay := ⟨aw_of (i := 1340) rfl rfl, aw_of (i := 132) (by decide +kernel) rfl, by decide +kernel, by decide +kernel, by decide +kernel, rfl⟩
def m_R_has : MInfo := (⟨"MarkOfficeModel", "has", "(II)Z"⟩, (prog_11_method_7_code, (2, (Option.some FieldType.boolean, "MarkOfficeModel"))))
set_option maxRecDepth 100000 in
theorem ok_R_has : MOK m_R_has := ⟨aw_of (i := 1343) rfl rfl, aw_of (i := 132) (by decide +kernel) rfl, by decide +kernel, by decide +kernel, by decide +kernel, rfl⟩
def m_R_joined : MInfo := (⟨"MarkOfficeModel", "joined", "(II)I"⟩, (prog_11_method_16_code, (4, (Option.some FieldType.int, "MarkOfficeModel"))))
set_option maxRecDepth 100000 in
theorem ok_R_joined : MOK m_R_joined := ⟨aw_of (i := 1347) rfl rfl, aw_of (i := 132) (by decide +kernel) rfl, by decide +kernel, by decide +kernel, by decide +kernel, rfl⟩
def m_R_areLike : MInfo := (⟨"MarkOfficeModel", "areLike", "(III)Z"⟩, (prog_11_method_17_code, (4, (Option.some FieldType.boolean, "MarkOfficeModel"))))
set_option maxRecDepth 100000 in
theorem ok_R_areLike : MOK m_R_areLike := ⟨aw_of (i := 1350) rfl rfl, aw_of (i := 132) (by decide +kernel) rfl, by decide +kernel, by decide +kernel, by decide +kernel, rfl⟩
def m_R_own : MInfo := (⟨"MarkOfficeModel", "own", "(I)I"⟩, (prog_11_method_18_code, (4, (Option.some FieldType.int, "MarkOfficeModel"))))
set_option maxRecDepth 100000 in
theorem ok_R_own : MOK m_R_own := ⟨aw_of (i := 1354) rfl rfl, aw_of (i := 132) (by decide +kernel) rfl, by decide +kernel, by decide +kernel, by decide +kernel, rfl⟩
def m_R_least : MInfo := (⟨"MarkOfficeModel", "least", "(I)I"⟩, (prog_11_method_19_code, (4, (Option.some FieldType.int, "MarkOfficeModel"))))
set_option maxRecDepth 100000 in
theorem ok_R_least : MOK m_R_least := ⟨aw_of (i := 1358) rfl rfl, aw_of (i := 132) (by decide +kernel) rfl, by decide +kernel, by decide +kernel, by decide +kernel, rfl⟩
def m_R_pens : MInfo := (⟨"MarkOfficeModel", "pens", "(I)I"⟩, (prog_11_method_28_code, (2, (Option.some FieldType.int, "MarkOfficeModel"))))
set_option maxRecDepth 100000 in
theorem ok_R_pens : MOK m_R_pens := ⟨aw_of (i := 1362) rfl rfl, aw_of (i := 132) (by decide +kernel) rfl, by decide +kernel, by decide +kernel, by decide +kernel, rfl⟩
def m_R_pensOf : MInfo := (⟨"MarkOfficeModel", "pensOf", "(I)I"⟩, (prog_11_method_27_code, (7, (Option.some FieldType.int, "MarkOfficeModel"))))
set_option maxRecDepth 100000 in
theorem ok_R_pensOf : MOK m_R_pensOf := ⟨aw_of (i := 1366) rfl rfl, aw_of (i := 132) (by decide +kernel) rfl, by decide +kernel, by decide +kernel, by decide +kernel, rfl⟩
def m_R_pointsOf : MInfo := (⟨"MarkOfficeModel", "pointsOf", "(I)I"⟩, (prog_11_method_21_code, (4, (Option.some FieldType.int, "MarkOfficeModel"))))
set_option maxRecDepth 100000 in
theorem ok_R_pointsOf : MOK m_R_pointsOf := ⟨aw_of (i := 1370) rfl rfl, aw_of (i := 132) (by decide +kernel) rfl, by decide +kernel, by decide +kernel, by decide +kernel, rfl⟩
def m_R_oddOf : MInfo := (⟨"MarkOfficeModel", "oddOf", "(I)I"⟩, (prog_11_method_22_code, (4, (Option.some FieldType.int, "MarkOfficeModel"))))
set_option maxRecDepth 100000 in
theorem ok_R_oddOf : MOK m_R_oddOf := ⟨aw_of (i := 1374) rfl rfl, aw_of (i := 132) (by decide +kernel) rfl, by decide +kernel, by decide +kernel, by decide +kernel, rfl⟩
def m_R_strokesAt : MInfo := (⟨"MarkOfficeModel", "strokesAt", "(II)I"⟩, (prog_11_method_20_code, (5, (Option.some FieldType.int, "MarkOfficeModel"))))
set_option maxRecDepth 100000 in
theorem ok_R_strokesAt : MOK m_R_strokesAt := ⟨aw_of (i := 1378) rfl rfl, aw_of (i := 132) (by decide +kernel) rfl, by decide +kernel, by decide +kernel, by decide +kernel, rfl⟩
def m_R_pieceOf : MInfo := (⟨"MarkOfficeModel", "pieceOf", "(II)I"⟩, (prog_11_method_23_code, (6, (Option.some FieldType.int, "MarkOfficeModel"))))
set_option maxRecDepth 100000 in
theorem ok_R_pieceOf : MOK m_R_pieceOf := ⟨aw_of (i := 1382) rfl rfl, aw_of (i := 132) (by decide +kernel) rfl, by decide +kernel, by decide +kernel, by decide +kernel, rfl⟩
def m_R_bits : MInfo := (⟨"MarkOfficeModel", "bits", "(I)I"⟩, (prog_11_method_8_code, (3, (Option.some FieldType.int, "MarkOfficeModel"))))
set_option maxRecDepth 100000 in
theorem ok_R_bits : MOK m_R_bits := ⟨aw_of (i := 1385) rfl rfl, aw_of (i := 132) (by decide +kernel) rfl, by decide +kernel, by decide +kernel, by decide +kernel, rfl⟩
def m_R_trail : MInfo := (⟨"MarkOfficeModel", "trail", "(II)I"⟩, (prog_11_method_32_code, (4, (Option.some FieldType.int, "MarkOfficeModel"))))
set_option maxRecDepth 100000 in
theorem ok_R_trail : MOK m_R_trail := ⟨aw_of (i := 1389) rfl rfl, aw_of (i := 132) (by decide +kernel) rfl, by decide +kernel, by decide +kernel, by decide +kernel, rfl⟩
def m_R_layLine : MInfo := (⟨"MarkOfficeModel", "layLine", "(I)I"⟩, (prog_11_method_30_code, (6, (Option.some FieldType.int, "MarkOfficeModel"))))
set_option maxRecDepth 100000 in
theorem ok_R_layLine : MOK m_R_layLine := ⟨aw_of (i := 1393) rfl rfl, aw_of (i := 132) (by decide +kernel) rfl, by decide +kernel, by decide +kernel, by decide +kernel, rfl⟩
def m_R_isLineFrom : MInfo := (⟨"MarkOfficeModel", "isLineFrom", "(II)Z"⟩, (prog_11_method_29_code, (4, (Option.some FieldType.boolean, "MarkOfficeModel"))))
set_option maxRecDepth 100000 in
theorem ok_R_isLineFrom : MOK m_R_isLineFrom := ⟨aw_of (i := 1397) rfl rfl, aw_of (i := 132) (by decide +kernel) rfl, by decide +kernel, by decide +kernel, by decide +kernel, rfl⟩
def m_R_isNext : MInfo := (⟨"MarkOfficeModel", "isNext", "(III)Z"⟩, (prog_11_method_31_code, (5, (Option.some FieldType.boolean, "MarkOfficeModel"))))
set_option maxRecDepth 100000 in
theorem ok_R_isNext : MOK m_R_isNext := ⟨aw_of (i := 1401) rfl rfl, aw_of (i := 132) (by decide +kernel) rfl, by decide +kernel, by decide +kernel, by decide +kernel, rfl⟩
def m_R_rim : MInfo := (⟨"MarkOfficeModel", "rim", "(I)I"⟩, (prog_11_method_33_code, (4, (Option.some FieldType.int, "MarkOfficeModel"))))
set_option maxRecDepth 100000 in
theorem ok_R_rim : MOK m_R_rim := ⟨aw_of (i := 1405) rfl rfl, aw_of (i := 132) (by decide +kernel) rfl, by decide +kernel, by decide +kernel, by decide +kernel, rfl⟩
def m_R_mark : MInfo := (⟨"MarkOfficeModel", "mark", "(I)I"⟩, (prog_11_method_34_code, (2, (Option.some FieldType.int, "MarkOfficeModel"))))
set_option maxRecDepth 100000 in
theorem ok_R_mark : MOK m_R_mark := ⟨aw_of (i := 1409) rfl rfl, aw_of (i := 132) (by decide +kernel) rfl, by decide +kernel, by decide +kernel, by decide +kernel, rfl⟩
def m_R_feed : MInfo := (⟨"MarkOfficeModel", "feed", "(IIIII)I"⟩, (prog_11_method_36_code, (6, (Option.some FieldType.int, "MarkOfficeModel"))))
set_option maxRecDepth 100000 in
theorem ok_R_feed : MOK m_R_feed := ⟨aw_of (i := 1413) rfl rfl, aw_of (i := 132) (by decide +kernel) rfl, by decide +kernel, by decide +kernel, by decide +kernel, rfl⟩
def m_R_four : MInfo := (⟨"MarkOfficeModel", "four", "(I)V"⟩, (prog_11_method_35_code, (3, (Option.none, "MarkOfficeModel"))))
set_option maxRecDepth 100000 in
theorem ok_R_four : MOK m_R_four := ⟨aw_of (i := 1417) rfl rfl, aw_of (i := 132) (by decide +kernel) rfl, by decide +kernel, by decide +kernel, by decide +kernel, rfl⟩
def m_R_end : MInfo := (⟨"MarkOfficeModel", "end", "(I)I"⟩, (prog_11_method_37_code, (2, (Option.some FieldType.int, "MarkOfficeModel"))))
set_option maxRecDepth 100000 in
theorem ok_R_end : MOK m_R_end := ⟨aw_of (i := 1421) rfl rfl, aw_of (i := 132) (by decide +kernel) rfl, by decide +kernel, by decide +kernel, by decide +kernel, rfl⟩
def m_R_text : MInfo := (⟨"MarkOfficeModel", "text", "()I"⟩, (prog_11_method_80_code, (1, (Option.some FieldType.int, "MarkOfficeModel"))))
set_option maxRecDepth 100000 in
theorem ok_R_text : MOK m_R_text := ⟨aw_of (i := 1425) rfl rfl, aw_of (i := 132) (by decide +kernel) rfl, by decide +kernel, by decide +kernel, by decide +kernel, rfl⟩
def m_R_readText : MInfo := (⟨"MarkOfficeModel", "readText", "()I"⟩, (prog_11_method_79_code, (2, (Option.some FieldType.int, "MarkOfficeModel"))))
set_option maxRecDepth 100000 in
theorem ok_R_readText : MOK m_R_readText := ⟨aw_of (i := 1429) rfl rfl, aw_of (i := 132) (by decide +kernel) rfl, by decide +kernel, by decide +kernel, by decide +kernel, rfl⟩
def m_R_nextToken : MInfo := (⟨"MarkOfficeModel", "nextToken", "()V"⟩, (prog_11_method_42_code, (2, (Option.none, "MarkOfficeModel"))))
set_option maxRecDepth 100000 in
theorem ok_R_nextToken : MOK m_R_nextToken := ⟨aw_of (i := 1433) rfl rfl, aw_of (i := 132) (by decide +kernel) rfl, by decide +kernel, by decide +kernel, by decide +kernel, rfl⟩
def m_R_byteAt : MInfo := (⟨"MarkOfficeModel", "byteAt", "(I)I"⟩, (prog_11_method_38_code, (2, (Option.some FieldType.int, "MarkOfficeModel"))))
set_option maxRecDepth 100000 in
theorem ok_R_byteAt : MOK m_R_byteAt := ⟨aw_of (i := 1437) rfl rfl, aw_of (i := 132) (by decide +kernel) rfl, by decide +kernel, by decide +kernel, by decide +kernel, rfl⟩
def m_R_isFigure : MInfo := (⟨"MarkOfficeModel", "isFigure", "(I)Z"⟩, (prog_11_method_40_code, (1, (Option.some FieldType.boolean, "MarkOfficeModel"))))
set_option maxRecDepth 100000 in
theorem ok_R_isFigure : MOK m_R_isFigure := ⟨aw_of (i := 1440) rfl rfl, aw_of (i := 132) (by decide +kernel) rfl, by decide +kernel, by decide +kernel, by decide +kernel, rfl⟩
def m_R_isLetterByte : MInfo := (⟨"MarkOfficeModel", "isLetterByte", "(I)Z"⟩, (prog_11_method_39_code, (1, (Option.some FieldType.boolean, "MarkOfficeModel"))))
set_option maxRecDepth 100000 in
theorem ok_R_isLetterByte : MOK m_R_isLetterByte := ⟨aw_of (i := 1444) rfl rfl, aw_of (i := 132) (by decide +kernel) rfl, by decide +kernel, by decide +kernel, by decide +kernel, rfl⟩
def m_R_isSign : MInfo := (⟨"MarkOfficeModel", "isSign", "(I)Z"⟩, (prog_11_method_41_code, (1, (Option.some FieldType.boolean, "MarkOfficeModel"))))
set_option maxRecDepth 100000 in
theorem ok_R_isSign : MOK m_R_isSign := ⟨aw_of (i := 1448) rfl rfl, aw_of (i := 132) (by decide +kernel) rfl, by decide +kernel, by decide +kernel, by decide +kernel, rfl⟩
def m_R_clause : MInfo := (⟨"MarkOfficeModel", "clause", "()I"⟩, (prog_11_method_78_code, (5, (Option.some FieldType.int, "MarkOfficeModel"))))
set_option maxRecDepth 100000 in
theorem ok_R_clause : MOK m_R_clause := ⟨aw_of (i := 1452) rfl rfl, aw_of (i := 132) (by decide +kernel) rfl, by decide +kernel, by decide +kernel, by decide +kernel, rfl⟩
def m_R_sortOf : MInfo := (⟨"MarkOfficeModel", "sortOf", "()I"⟩, (prog_11_method_77_code, (1, (Option.some FieldType.int, "MarkOfficeModel"))))
set_option maxRecDepth 100000 in
theorem ok_R_sortOf : MOK m_R_sortOf := ⟨aw_of (i := 1456) rfl rfl, aw_of (i := 132) (by decide +kernel) rfl, by decide +kernel, by decide +kernel, by decide +kernel, rfl⟩
def m_R_w5 : MInfo := (⟨"MarkOfficeModel", "w5", "(IIIII)J"⟩, (prog_11_method_46_code, (5, (Option.some FieldType.long, "MarkOfficeModel"))))
set_option maxRecDepth 100000 in
theorem ok_R_w5 : MOK m_R_w5 := ⟨aw_of (i := 1459) rfl rfl, aw_of (i := 132) (by decide +kernel) rfl, by decide +kernel, by decide +kernel, by decide +kernel, rfl⟩
def m_R_w4 : MInfo := (⟨"MarkOfficeModel", "w4", "(IIII)J"⟩, (prog_11_method_45_code, (4, (Option.some FieldType.long, "MarkOfficeModel"))))
set_option maxRecDepth 100000 in
theorem ok_R_w4 : MOK m_R_w4 := ⟨aw_of (i := 1462) rfl rfl, aw_of (i := 132) (by decide +kernel) rfl, by decide +kernel, by decide +kernel, by decide +kernel, rfl⟩
def m_R_w3 : MInfo := (⟨"MarkOfficeModel", "w3", "(III)J"⟩, (prog_11_method_44_code, (3, (Option.some FieldType.long, "MarkOfficeModel"))))
set_option maxRecDepth 100000 in
theorem ok_R_w3 : MOK m_R_w3 := ⟨aw_of (i := 1465) rfl rfl, aw_of (i := 132) (by decide +kernel) rfl, by decide +kernel, by decide +kernel, by decide +kernel, rfl⟩
def m_R_w2 : MInfo := (⟨"MarkOfficeModel", "w2", "(II)J"⟩, (prog_11_method_43_code, (2, (Option.some FieldType.long, "MarkOfficeModel"))))
set_option maxRecDepth 100000 in
theorem ok_R_w2 : MOK m_R_w2 := ⟨aw_of (i := 1468) rfl rfl, aw_of (i := 132) (by decide +kernel) rfl, by decide +kernel, by decide +kernel, by decide +kernel, rfl⟩
def m_R_isWord : MInfo := (⟨"MarkOfficeModel", "isWord", "(J)Z"⟩, (prog_11_method_48_code, (3, (Option.some FieldType.boolean, "MarkOfficeModel"))))
set_option maxRecDepth 100000 in
theorem ok_R_isWord : MOK m_R_isWord := ⟨aw_of (i := 1472) rfl rfl, aw_of (i := 132) (by decide +kernel) rfl, by decide +kernel, by decide +kernel, by decide +kernel, rfl⟩
def m_R_body : MInfo := (⟨"MarkOfficeModel", "body", "(II)I"⟩, (prog_11_method_76_code, (3, (Option.some FieldType.int, "MarkOfficeModel"))))
set_option maxRecDepth 100000 in
theorem ok_R_body : MOK m_R_body := ⟨aw_of (i := 1476) rfl rfl, aw_of (i := 132) (by decide +kernel) rfl, by decide +kernel, by decide +kernel, by decide +kernel, rfl⟩
def m_R_drawClause : MInfo := (⟨"MarkOfficeModel", "drawClause", "(I)I"⟩, (prog_11_method_74_code, (3, (Option.some FieldType.int, "MarkOfficeModel"))))
set_option maxRecDepth 100000 in
theorem ok_R_drawClause : MOK m_R_drawClause := ⟨aw_of (i := 1480) rfl rfl, aw_of (i := 132) (by decide +kernel) rfl, by decide +kernel, by decide +kernel, by decide +kernel, rfl⟩
def m_R_shaped : MInfo := (⟨"MarkOfficeModel", "shaped", "()I"⟩, (prog_11_method_71_code, (2, (Option.some FieldType.int, "MarkOfficeModel"))))
set_option maxRecDepth 100000 in
theorem ok_R_shaped : MOK m_R_shaped := ⟨aw_of (i := 1484) rfl rfl, aw_of (i := 132) (by decide +kernel) rfl, by decide +kernel, by decide +kernel, by decide +kernel, rfl⟩
def m_R_behindPart : MInfo := (⟨"MarkOfficeModel", "behindPart", "()Z"⟩, (prog_11_method_70_code, (2, (Option.some FieldType.boolean, "MarkOfficeModel"))))
set_option maxRecDepth 100000 in
theorem ok_R_behindPart : MOK m_R_behindPart := ⟨aw_of (i := 1488) rfl rfl, aw_of (i := 132) (by decide +kernel) rfl, by decide +kernel, by decide +kernel, by decide +kernel, rfl⟩
def m_R_endPart : MInfo := (⟨"MarkOfficeModel", "endPart", "(I)V"⟩, (prog_11_method_67_code, (3, (Option.none, "MarkOfficeModel"))))
set_option maxRecDepth 100000 in
theorem ok_R_endPart : MOK m_R_endPart := ⟨aw_of (i := 1492) rfl rfl, aw_of (i := 132) (by decide +kernel) rfl, by decide +kernel, by decide +kernel, by decide +kernel, rfl⟩
def m_R_beginPart : MInfo := (⟨"MarkOfficeModel", "beginPart", "()I"⟩, (prog_11_method_69_code, (1, (Option.some FieldType.int, "MarkOfficeModel"))))
set_option maxRecDepth 100000 in
theorem ok_R_beginPart : MOK m_R_beginPart := ⟨aw_of (i := 1496) rfl rfl, aw_of (i := 132) (by decide +kernel) rfl, by decide +kernel, by decide +kernel, by decide +kernel, rfl⟩
def m_R_w6 : MInfo := (⟨"MarkOfficeModel", "w6", "(IIIIII)J"⟩, (prog_11_method_47_code, (6, (Option.some FieldType.long, "MarkOfficeModel"))))
set_option maxRecDepth 100000 in
theorem ok_R_w6 : MOK m_R_w6 := ⟨aw_of (i := 1499) rfl rfl, aw_of (i := 132) (by decide +kernel) rfl, by decide +kernel, by decide +kernel, by decide +kernel, rfl⟩
def m_R_numberedPart : MInfo := (⟨"MarkOfficeModel", "numberedPart", "(IZZ)I"⟩, (prog_11_method_68_code, (6, (Option.some FieldType.int, "MarkOfficeModel"))))
set_option maxRecDepth 100000 in
theorem ok_R_numberedPart : MOK m_R_numberedPart := ⟨aw_of (i := 1503) rfl rfl, aw_of (i := 132) (by decide +kernel) rfl, by decide +kernel, by decide +kernel, by decide +kernel, rfl⟩
def m_R_numbered : MInfo := (⟨"MarkOfficeModel", "numbered", "(I)I"⟩, (prog_11_method_66_code, (2, (Option.some FieldType.int, "MarkOfficeModel"))))
set_option maxRecDepth 100000 in
theorem ok_R_numbered : MOK m_R_numbered := ⟨aw_of (i := 1507) rfl rfl, aw_of (i := 132) (by decide +kernel) rfl, by decide +kernel, by decide +kernel, by decide +kernel, rfl⟩
def m_R_opened : MInfo := (⟨"MarkOfficeModel", "opened", "(I)I"⟩, (prog_11_method_59_code, (2, (Option.some FieldType.int, "MarkOfficeModel"))))
set_option maxRecDepth 100000 in
theorem ok_R_opened : MOK m_R_opened := ⟨aw_of (i := 1511) rfl rfl, aw_of (i := 132) (by decide +kernel) rfl, by decide +kernel, by decide +kernel, by decide +kernel, rfl⟩
def m_R_pair : MInfo := (⟨"MarkOfficeModel", "pair", "(IJ)I"⟩, (prog_11_method_75_code, (5, (Option.some FieldType.int, "MarkOfficeModel"))))
set_option maxRecDepth 100000 in
theorem ok_R_pair : MOK m_R_pair := ⟨aw_of (i := 1515) rfl rfl, aw_of (i := 132) (by decide +kernel) rfl, by decide +kernel, by decide +kernel, by decide +kernel, rfl⟩
def m_R_figure : MInfo := (⟨"MarkOfficeModel", "figure", "(III)I"⟩, (prog_11_method_72_code, (4, (Option.some FieldType.int, "MarkOfficeModel"))))
set_option maxRecDepth 100000 in
theorem ok_R_figure : MOK m_R_figure := ⟨aw_of (i := 1519) rfl rfl, aw_of (i := 132) (by decide +kernel) rfl, by decide +kernel, by decide +kernel, by decide +kernel, rfl⟩
def m_R_lawClause : MInfo := (⟨"MarkOfficeModel", "lawClause", "(I)I"⟩, (prog_11_method_73_code, (3, (Option.some FieldType.int, "MarkOfficeModel"))))
set_option maxRecDepth 100000 in
theorem ok_R_lawClause : MOK m_R_lawClause := ⟨aw_of (i := 1523) rfl rfl, aw_of (i := 132) (by decide +kernel) rfl, by decide +kernel, by decide +kernel, by decide +kernel, rfl⟩
def m_R_summed : MInfo := (⟨"MarkOfficeModel", "summed", "()I"⟩, (prog_11_method_65_code, (2, (Option.some FieldType.int, "MarkOfficeModel"))))
set_option maxRecDepth 100000 in
theorem ok_R_summed : MOK m_R_summed := ⟨aw_of (i := 1527) rfl rfl, aw_of (i := 132) (by decide +kernel) rfl, by decide +kernel, by decide +kernel, by decide +kernel, rfl⟩
def m_R_behindOne : MInfo := (⟨"MarkOfficeModel", "behindOne", "()Z"⟩, (prog_11_method_64_code, (4, (Option.some FieldType.boolean, "MarkOfficeModel"))))
set_option maxRecDepth 100000 in
theorem ok_R_behindOne : MOK m_R_behindOne := ⟨aw_of (i := 1531) rfl rfl, aw_of (i := 132) (by decide +kernel) rfl, by decide +kernel, by decide +kernel, by decide +kernel, rfl⟩
def m_R_betweenOf : MInfo := (⟨"MarkOfficeModel", "betweenOf", "()I"⟩, (prog_11_method_62_code, (1, (Option.some FieldType.int, "MarkOfficeModel"))))
set_option maxRecDepth 100000 in
theorem ok_R_betweenOf : MOK m_R_betweenOf := ⟨aw_of (i := 1535) rfl rfl, aw_of (i := 132) (by decide +kernel) rfl, by decide +kernel, by decide +kernel, by decide +kernel, rfl⟩
def m_R_openNow : MInfo := (⟨"MarkOfficeModel", "openNow", "()I"⟩, (prog_11_method_56_code, (1, (Option.some FieldType.int, "MarkOfficeModel"))))
set_option maxRecDepth 100000 in
theorem ok_R_openNow : MOK m_R_openNow := ⟨aw_of (i := 1539) rfl rfl, aw_of (i := 132) (by decide +kernel) rfl, by decide +kernel, by decide +kernel, by decide +kernel, rfl⟩
def m_R_openAt : MInfo := (⟨"MarkOfficeModel", "openAt", "()I"⟩, (prog_11_method_55_code, (2, (Option.some FieldType.int, "MarkOfficeModel"))))
set_option maxRecDepth 100000 in
theorem ok_R_openAt : MOK m_R_openAt := ⟨aw_of (i := 1543) rfl rfl, aw_of (i := 132) (by decide +kernel) rfl, by decide +kernel, by decide +kernel, by decide +kernel, rfl⟩
def m_R_isCompared : MInfo := (⟨"MarkOfficeModel", "isCompared", "()Z"⟩, (prog_11_method_57_code, (2, (Option.some FieldType.boolean, "MarkOfficeModel"))))
set_option maxRecDepth 100000 in
theorem ok_R_isCompared : MOK m_R_isCompared := ⟨aw_of (i := 1547) rfl rfl, aw_of (i := 132) (by decide +kernel) rfl, by decide +kernel, by decide +kernel, by decide +kernel, rfl⟩
def m_R_rank : MInfo := (⟨"MarkOfficeModel", "rank", "(I)I"⟩, (prog_11_method_53_code, (1, (Option.some FieldType.int, "MarkOfficeModel"))))
set_option maxRecDepth 100000 in
theorem ok_R_rank : MOK m_R_rank := ⟨aw_of (i := 1550) rfl rfl, aw_of (i := 132) (by decide +kernel) rfl, by decide +kernel, by decide +kernel, by decide +kernel, rfl⟩
def m_R_compareOf : MInfo := (⟨"MarkOfficeModel", "compareOf", "()I"⟩, (prog_11_method_61_code, (1, (Option.some FieldType.int, "MarkOfficeModel"))))
set_option maxRecDepth 100000 in
theorem ok_R_compareOf : MOK m_R_compareOf := ⟨aw_of (i := 1554) rfl rfl, aw_of (i := 132) (by decide +kernel) rfl, by decide +kernel, by decide +kernel, by decide +kernel, rfl⟩
def m_R_settle : MInfo := (⟨"MarkOfficeModel", "settle", "(I)V"⟩, (prog_11_method_54_code, (2, (Option.none, "MarkOfficeModel"))))
set_option maxRecDepth 100000 in
theorem ok_R_settle : MOK m_R_settle := ⟨aw_of (i := 1558) rfl rfl, aw_of (i := 132) (by decide +kernel) rfl, by decide +kernel, by decide +kernel, by decide +kernel, rfl⟩
def m_R_emit : MInfo := (⟨"MarkOfficeModel", "emit", "(II)V"⟩, (prog_11_method_49_code, (3, (Option.none, "MarkOfficeModel"))))
set_option maxRecDepth 100000 in
theorem ok_R_emit : MOK m_R_emit := ⟨aw_of (i := 1562) rfl rfl, aw_of (i := 132) (by decide +kernel) rfl, by decide +kernel, by decide +kernel, by decide +kernel, rfl⟩
def m_R_partOf : MInfo := (⟨"MarkOfficeModel", "partOf", "(I)I"⟩, (prog_11_method_63_code, (2, (Option.some FieldType.int, "MarkOfficeModel"))))
set_option maxRecDepth 100000 in
theorem ok_R_partOf : MOK m_R_partOf := ⟨aw_of (i := 1566) rfl rfl, aw_of (i := 132) (by decide +kernel) rfl, by decide +kernel, by decide +kernel, by decide +kernel, rfl⟩
def m_R_beginOne : MInfo := (⟨"MarkOfficeModel", "beginOne", "()I"⟩, (prog_11_method_60_code, (2, (Option.some FieldType.int, "MarkOfficeModel"))))
set_option maxRecDepth 100000 in
theorem ok_R_beginOne : MOK m_R_beginOne := ⟨aw_of (i := 1570) rfl rfl, aw_of (i := 132) (by decide +kernel) rfl, by decide +kernel, by decide +kernel, by decide +kernel, rfl⟩
def m_R_nameOf : MInfo := (⟨"MarkOfficeModel", "nameOf", "()I"⟩, (prog_11_method_51_code, (1, (Option.some FieldType.int, "MarkOfficeModel"))))
set_option maxRecDepth 100000 in
theorem ok_R_nameOf : MOK m_R_nameOf := ⟨aw_of (i := 1574) rfl rfl, aw_of (i := 132) (by decide +kernel) rfl, by decide +kernel, by decide +kernel, by decide +kernel, rfl⟩
def m_R_isStrokesWord : MInfo := (⟨"MarkOfficeModel", "isStrokesWord", "()Z"⟩, (prog_11_method_50_code, (1, (Option.some FieldType.boolean, "MarkOfficeModel"))))
set_option maxRecDepth 100000 in
theorem ok_R_isStrokesWord : MOK m_R_isStrokesWord := ⟨aw_of (i := 1578) rfl rfl, aw_of (i := 132) (by decide +kernel) rfl, by decide +kernel, by decide +kernel, by decide +kernel, rfl⟩
def m_R_isOf : MInfo := (⟨"MarkOfficeModel", "isOf", "(I)Z"⟩, (prog_11_method_52_code, (2, (Option.some FieldType.boolean, "MarkOfficeModel"))))
set_option maxRecDepth 100000 in
theorem ok_R_isOf : MOK m_R_isOf := ⟨aw_of (i := 1582) rfl rfl, aw_of (i := 132) (by decide +kernel) rfl, by decide +kernel, by decide +kernel, by decide +kernel, rfl⟩
def m_R_isAskAhead : MInfo := (⟨"MarkOfficeModel", "isAskAhead", "()Z"⟩, (prog_11_method_58_code, (1, (Option.some FieldType.boolean, "MarkOfficeModel"))))
set_option maxRecDepth 100000 in
theorem ok_R_isAskAhead : MOK m_R_isAskAhead := ⟨aw_of (i := 1586) rfl rfl, aw_of (i := 132) (by decide +kernel) rfl, by decide +kernel, by decide +kernel, by decide +kernel, rfl⟩
def m_R_fault : MInfo := (⟨"MarkOfficeModel", "fault", "(I)I"⟩, (prog_11_method_81_code, (2, (Option.some FieldType.int, "MarkOfficeModel"))))
set_option maxRecDepth 100000 in
theorem ok_R_fault : MOK m_R_fault := ⟨aw_of (i := 1590) rfl rfl, aw_of (i := 132) (by decide +kernel) rfl, by decide +kernel, by decide +kernel, by decide +kernel, rfl⟩
def m_R_by : MInfo := (⟨"MarkOfficeModel", "by", "(I)Z"⟩, (prog_11_method_82_code, (2, (Option.some FieldType.boolean, "MarkOfficeModel"))))
set_option maxRecDepth 100000 in
theorem ok_R_by : MOK m_R_by := ⟨aw_of (i := 1594) rfl rfl, aw_of (i := 132) (by decide +kernel) rfl, by decide +kernel, by decide +kernel, by decide +kernel, rfl⟩
def m_R_undo : MInfo := (⟨"MarkOfficeModel", "undo", "()I"⟩, (prog_11_method_104_code, (3, (Option.some FieldType.int, "MarkOfficeModel"))))
set_option maxRecDepth 100000 in
theorem ok_R_undo : MOK m_R_undo := ⟨aw_of (i := 1598) rfl rfl, aw_of (i := 132) (by decide +kernel) rfl, by decide +kernel, by decide +kernel, by decide +kernel, rfl⟩
def m_R_add : MInfo := (⟨"MarkOfficeModel", "add", "(II)Z"⟩, (prog_11_method_105_code, (3, (Option.some FieldType.boolean, "MarkOfficeModel"))))
set_option maxRecDepth 100000 in
theorem ok_R_add : MOK m_R_add := ⟨aw_of (i := 1602) rfl rfl, aw_of (i := 132) (by decide +kernel) rfl, by decide +kernel, by decide +kernel, by decide +kernel, rfl⟩
def m_R_canAdd : MInfo := (⟨"MarkOfficeModel", "canAdd", "(II)Z"⟩, (prog_11_method_96_code, (3, (Option.some FieldType.boolean, "MarkOfficeModel"))))
set_option maxRecDepth 100000 in
theorem ok_R_canAdd : MOK m_R_canAdd := ⟨aw_of (i := 1606) rfl rfl, aw_of (i := 132) (by decide +kernel) rfl, by decide +kernel, by decide +kernel, by decide +kernel, rfl⟩
def m_R_isMark : MInfo := (⟨"MarkOfficeModel", "isMark", "(I)Z"⟩, (prog_11_method_9_code, (2, (Option.some FieldType.boolean, "MarkOfficeModel"))))
set_option maxRecDepth 100000 in
theorem ok_R_isMark : MOK m_R_isMark := ⟨aw_of (i := 1610) rfl rfl, aw_of (i := 132) (by decide +kernel) rfl, by decide +kernel, by decide +kernel, by decide +kernel, rfl⟩
def m_R_isStroke : MInfo := (⟨"MarkOfficeModel", "isStroke", "(I)Z"⟩, (prog_11_method_10_code, (1, (Option.some FieldType.boolean, "MarkOfficeModel"))))
set_option maxRecDepth 100000 in
theorem ok_R_isStroke : MOK m_R_isStroke := ⟨aw_of (i := 1613) rfl rfl, aw_of (i := 132) (by decide +kernel) rfl, by decide +kernel, by decide +kernel, by decide +kernel, rfl⟩
def m_R_keep : MInfo := (⟨"MarkOfficeModel", "keep", "()V"⟩, (prog_11_method_103_code, (3, (Option.none, "MarkOfficeModel"))))
set_option maxRecDepth 100000 in
theorem ok_R_keep : MOK m_R_keep := ⟨aw_of (i := 1617) rfl rfl, aw_of (i := 132) (by decide +kernel) rfl, by decide +kernel, by decide +kernel, by decide +kernel, rfl⟩
def m_R_addNow : MInfo := (⟨"MarkOfficeModel", "addNow", "(II)V"⟩, (prog_11_method_97_code, (3, (Option.none, "MarkOfficeModel"))))
set_option maxRecDepth 100000 in
theorem ok_R_addNow : MOK m_R_addNow := ⟨aw_of (i := 1621) rfl rfl, aw_of (i := 132) (by decide +kernel) rfl, by decide +kernel, by decide +kernel, by decide +kernel, rfl⟩
def m_R_write : MInfo := (⟨"MarkOfficeModel", "write", "(III)V"⟩, (prog_11_method_93_code, (5, (Option.none, "MarkOfficeModel"))))
set_option maxRecDepth 100000 in
theorem ok_R_write : MOK m_R_write := ⟨aw_of (i := 1625) rfl rfl, aw_of (i := 132) (by decide +kernel) rfl, by decide +kernel, by decide +kernel, by decide +kernel, rfl⟩
def m_R_rub : MInfo := (⟨"MarkOfficeModel", "rub", "(II)Z"⟩, (prog_11_method_106_code, (3, (Option.some FieldType.boolean, "MarkOfficeModel"))))
set_option maxRecDepth 100000 in
theorem ok_R_rub : MOK m_R_rub := ⟨aw_of (i := 1629) rfl rfl, aw_of (i := 132) (by decide +kernel) rfl, by decide +kernel, by decide +kernel, by decide +kernel, rfl⟩
def m_R_canRub : MInfo := (⟨"MarkOfficeModel", "canRub", "(II)Z"⟩, (prog_11_method_98_code, (3, (Option.some FieldType.boolean, "MarkOfficeModel"))))
set_option maxRecDepth 100000 in
theorem ok_R_canRub : MOK m_R_canRub := ⟨aw_of (i := 1633) rfl rfl, aw_of (i := 132) (by decide +kernel) rfl, by decide +kernel, by decide +kernel, by decide +kernel, rfl⟩
def m_R_rubNow : MInfo := (⟨"MarkOfficeModel", "rubNow", "(III)V"⟩, (prog_11_method_99_code, (4, (Option.none, "MarkOfficeModel"))))
set_option maxRecDepth 100000 in
theorem ok_R_rubNow : MOK m_R_rubNow := ⟨aw_of (i := 1637) rfl rfl, aw_of (i := 132) (by decide +kernel) rfl, by decide +kernel, by decide +kernel, by decide +kernel, rfl⟩
def m_R_renew : MInfo := (⟨"MarkOfficeModel", "renew", "(I)I"⟩, (prog_11_method_107_code, (3, (Option.some FieldType.int, "MarkOfficeModel"))))
set_option maxRecDepth 100000 in
theorem ok_R_renew : MOK m_R_renew := ⟨aw_of (i := 1641) rfl rfl, aw_of (i := 132) (by decide +kernel) rfl, by decide +kernel, by decide +kernel, by decide +kernel, rfl⟩
def m_R_otherThan : MInfo := (⟨"MarkOfficeModel", "otherThan", "(I)I"⟩, (prog_11_method_100_code, (2, (Option.some FieldType.int, "MarkOfficeModel"))))
set_option maxRecDepth 100000 in
theorem ok_R_otherThan : MOK m_R_otherThan := ⟨aw_of (i := 1645) rfl rfl, aw_of (i := 132) (by decide +kernel) rfl, by decide +kernel, by decide +kernel, by decide +kernel, rfl⟩
def m_R_renewNow : MInfo := (⟨"MarkOfficeModel", "renewNow", "(I)V"⟩, (prog_11_method_101_code, (2, (Option.none, "MarkOfficeModel"))))
set_option maxRecDepth 100000 in
theorem ok_R_renewNow : MOK m_R_renewNow := ⟨aw_of (i := 1649) rfl rfl, aw_of (i := 132) (by decide +kernel) rfl, by decide +kernel, by decide +kernel, by decide +kernel, rfl⟩
def m_R_year : MInfo := (⟨"MarkOfficeModel", "year", "(I)I"⟩, (prog_11_method_109_code, (2, (Option.some FieldType.int, "MarkOfficeModel"))))
set_option maxRecDepth 100000 in
theorem ok_R_year : MOK m_R_year := ⟨aw_of (i := 1653) rfl rfl, aw_of (i := 132) (by decide +kernel) rfl, by decide +kernel, by decide +kernel, by decide +kernel, rfl⟩
def m_R_arePassed : MInfo := (⟨"MarkOfficeModel", "arePassed", "(I)Z"⟩, (prog_11_method_108_code, (3, (Option.some FieldType.boolean, "MarkOfficeModel"))))
set_option maxRecDepth 100000 in
theorem ok_R_arePassed : MOK m_R_arePassed := ⟨aw_of (i := 1657) rfl rfl, aw_of (i := 132) (by decide +kernel) rfl, by decide +kernel, by decide +kernel, by decide +kernel, rfl⟩
def m_R_pass : MInfo := (⟨"MarkOfficeModel", "pass", "()V"⟩, (prog_11_method_102_code, (3, (Option.none, "MarkOfficeModel"))))
set_option maxRecDepth 100000 in
theorem ok_R_pass : MOK m_R_pass := ⟨aw_of (i := 1661) rfl rfl, aw_of (i := 132) (by decide +kernel) rfl, by decide +kernel, by decide +kernel, by decide +kernel, rfl⟩
def m_R_feeOf : MInfo := (⟨"MarkOfficeModel", "feeOf", "(I)I"⟩, (prog_11_method_92_code, (2, (Option.some FieldType.int, "MarkOfficeModel"))))
set_option maxRecDepth 100000 in
theorem ok_R_feeOf : MOK m_R_feeOf := ⟨aw_of (i := 1665) rfl rfl, aw_of (i := 132) (by decide +kernel) rfl, by decide +kernel, by decide +kernel, by decide +kernel, rfl⟩
def m_R_name : MInfo := (⟨"MarkOfficeModel", "name", "(II)V"⟩, (prog_11_method_90_code, (4, (Option.none, "MarkOfficeModel"))))
set_option maxRecDepth 100000 in
theorem ok_R_name : MOK m_R_name := ⟨aw_of (i := 1669) rfl rfl, aw_of (i := 132) (by decide +kernel) rfl, by decide +kernel, by decide +kernel, by decide +kernel, rfl⟩
def m_R_piecesOf : MInfo := (⟨"MarkOfficeModel", "piecesOf", "(I)I"⟩, (prog_11_method_24_code, (5, (Option.some FieldType.int, "MarkOfficeModel"))))
set_option maxRecDepth 100000 in
theorem ok_R_piecesOf : MOK m_R_piecesOf := ⟨aw_of (i := 1673) rfl rfl, aw_of (i := 132) (by decide +kernel) rfl, by decide +kernel, by decide +kernel, by decide +kernel, rfl⟩
def m_R_says : MInfo := (⟨"MarkOfficeModel", "says", "(IIII)I"⟩, (prog_11_method_89_code, (6, (Option.some FieldType.int, "MarkOfficeModel"))))
set_option maxRecDepth 100000 in
theorem ok_R_says : MOK m_R_says := ⟨aw_of (i := 1677) rfl rfl, aw_of (i := 132) (by decide +kernel) rfl, by decide +kernel, by decide +kernel, by decide +kernel, rfl⟩
def m_R_summedUp : MInfo := (⟨"MarkOfficeModel", "summedUp", "(II)J"⟩, (prog_11_method_88_code, (10, (Option.some FieldType.long, "MarkOfficeModel"))))
set_option maxRecDepth 100000 in
theorem ok_R_summedUp : MOK m_R_summedUp := ⟨aw_of (i := 1681) rfl rfl, aw_of (i := 132) (by decide +kernel) rfl, by decide +kernel, by decide +kernel, by decide +kernel, rfl⟩
def m_R_ofOne : MInfo := (⟨"MarkOfficeModel", "ofOne", "(IJ)J"⟩, (prog_11_method_86_code, (4, (Option.some FieldType.long, "MarkOfficeModel"))))
set_option maxRecDepth 100000 in
theorem ok_R_ofOne : MOK m_R_ofOne := ⟨aw_of (i := 1685) rfl rfl, aw_of (i := 132) (by decide +kernel) rfl, by decide +kernel, by decide +kernel, by decide +kernel, rfl⟩
def m_R_two : MInfo := (⟨"MarkOfficeModel", "two", "(IJJ)J"⟩, (prog_11_method_84_code, (5, (Option.some FieldType.long, "MarkOfficeModel"))))
set_option maxRecDepth 100000 in
theorem ok_R_two : MOK m_R_two := ⟨aw_of (i := 1689) rfl rfl, aw_of (i := 132) (by decide +kernel) rfl, by decide +kernel, by decide +kernel, by decide +kernel, rfl⟩
def m_R_clip : MInfo := (⟨"MarkOfficeModel", "clip", "(J)J"⟩, (prog_11_method_83_code, (2, (Option.some FieldType.long, "MarkOfficeModel"))))
set_option maxRecDepth 100000 in
theorem ok_R_clip : MOK m_R_clip := ⟨aw_of (i := 1692) rfl rfl, aw_of (i := 132) (by decide +kernel) rfl, by decide +kernel, by decide +kernel, by decide +kernel, rfl⟩
def m_R_isAsked : MInfo := (⟨"MarkOfficeModel", "isAsked", "(IJJ)Z"⟩, (prog_11_method_85_code, (5, (Option.some FieldType.boolean, "MarkOfficeModel"))))
set_option maxRecDepth 100000 in
theorem ok_R_isAsked : MOK m_R_isAsked := ⟨aw_of (i := 1697) rfl rfl, aw_of (i := 132) (by decide +kernel) rfl, by decide +kernel, by decide +kernel, by decide +kernel, rfl⟩
def m_R_joinedTruth : MInfo := (⟨"MarkOfficeModel", "joinedTruth", "(IZZ)Z"⟩, (prog_11_method_87_code, (3, (Option.some FieldType.boolean, "MarkOfficeModel"))))
set_option maxRecDepth 100000 in
theorem ok_R_joinedTruth : MOK m_R_joinedTruth := ⟨aw_of (i := 1700) rfl rfl, aw_of (i := 132) (by decide +kernel) rfl, by decide +kernel, by decide +kernel, by decide +kernel, rfl⟩
def m_R_held : MInfo := (⟨"MarkOfficeModel", "held", "(JII)I"⟩, (prog_11_method_6_code, (4, (Option.some FieldType.int, "MarkOfficeModel"))))
set_option maxRecDepth 100000 in
theorem ok_R_held : MOK m_R_held := ⟨aw_of (i := 1703) rfl rfl, aw_of (i := 132) (by decide +kernel) rfl, by decide +kernel, by decide +kernel, by decide +kernel, rfl⟩
def m_R_drawnBy : MInfo := (⟨"MarkOfficeModel", "drawnBy", "(I)I"⟩, (prog_11_method_94_code, (3, (Option.some FieldType.int, "MarkOfficeModel"))))
set_option maxRecDepth 100000 in
theorem ok_R_drawnBy : MOK m_R_drawnBy := ⟨aw_of (i := 1708) rfl rfl, aw_of (i := 132) (by decide +kernel) rfl, by decide +kernel, by decide +kernel, by decide +kernel, rfl⟩
def m_R_anew : MInfo := (⟨"MarkOfficeModel", "anew", "()V"⟩, (prog_11_method_95_code, (1, (Option.none, "MarkOfficeModel"))))
set_option maxRecDepth 100000 in
theorem ok_R_anew : MOK m_R_anew := ⟨aw_of (i := 1712) rfl rfl, aw_of (i := 132) (by decide +kernel) rfl, by decide +kernel, by decide +kernel, by decide +kernel, rfl⟩
def m_R_wearsOf : MInfo := (⟨"MarkOfficeModel", "wearsOf", "(III)I"⟩, (prog_11_method_91_code, (4, (Option.some FieldType.int, "MarkOfficeModel"))))
set_option maxRecDepth 100000 in
theorem ok_R_wearsOf : MOK m_R_wearsOf := ⟨aw_of (i := 1719) rfl rfl, aw_of (i := 132) (by decide +kernel) rfl, by decide +kernel, by decide +kernel, by decide +kernel, rfl⟩
def m_R_played : MInfo := (⟨"MarkOfficeModel", "played", "(I)I"⟩, (prog_11_method_111_code, (3, (Option.some FieldType.int, "MarkOfficeModel"))))
set_option maxRecDepth 100000 in
theorem ok_R_played : MOK m_R_played := ⟨aw_of (i := 1723) rfl rfl, aw_of (i := 132) (by decide +kernel) rfl, by decide +kernel, by decide +kernel, by decide +kernel, rfl⟩
def m_R_isPlayed : MInfo := (⟨"MarkOfficeModel", "isPlayed", "(I)Z"⟩, (prog_11_method_110_code, (4, (Option.some FieldType.boolean, "MarkOfficeModel"))))
set_option maxRecDepth 100000 in
theorem ok_R_isPlayed : MOK m_R_isPlayed := ⟨aw_of (i := 1727) rfl rfl, aw_of (i := 132) (by decide +kernel) rfl, by decide +kernel, by decide +kernel, by decide +kernel, rfl⟩
def m_R_ages : MInfo := (⟨"MarkOfficeModel", "ages", "(II)I"⟩, (prog_11_method_113_code, (5, (Option.some FieldType.int, "MarkOfficeModel"))))
set_option maxRecDepth 100000 in
theorem ok_R_ages : MOK m_R_ages := ⟨aw_of (i := 1735) rfl rfl, aw_of (i := 132) (by decide +kernel) rfl, by decide +kernel, by decide +kernel, by decide +kernel, rfl⟩
def m_R_happens : MInfo := (⟨"MarkOfficeModel", "happens", "(I)V"⟩, (prog_11_method_112_code, (4, (Option.none, "MarkOfficeModel"))))
set_option maxRecDepth 100000 in
theorem ok_R_happens : MOK m_R_happens := ⟨aw_of (i := 1739) rfl rfl, aw_of (i := 132) (by decide +kernel) rfl, by decide +kernel, by decide +kernel, by decide +kernel, rfl⟩
def m_R_of : MInfo := (⟨"MarkOfficeModel", "of", "(II)I"⟩, (prog_11_method_114_code, (4, (Option.some FieldType.int, "MarkOfficeModel"))))
set_option maxRecDepth 100000 in
theorem ok_R_of : MOK m_R_of := ⟨aw_of (i := 1743) rfl rfl, aw_of (i := 132) (by decide +kernel) rfl, by decide +kernel, by decide +kernel, by decide +kernel, rfl⟩
def m_R_holesOf : MInfo := (⟨"MarkOfficeModel", "holesOf", "(I)I"⟩, (prog_11_method_25_code, (2, (Option.some FieldType.int, "MarkOfficeModel"))))
set_option maxRecDepth 100000 in
theorem ok_R_holesOf : MOK m_R_holesOf := ⟨aw_of (i := 1747) rfl rfl, aw_of (i := 132) (by decide +kernel) rfl, by decide +kernel, by decide +kernel, by decide +kernel, rfl⟩
def m_R_crossingsOf : MInfo := (⟨"MarkOfficeModel", "crossingsOf", "(I)I"⟩, (prog_11_method_26_code, (1, (Option.some FieldType.int, "MarkOfficeModel"))))
set_option maxRecDepth 100000 in
theorem ok_R_crossingsOf : MOK m_R_crossingsOf := ⟨aw_of (i := 1750) rfl rfl, aw_of (i := 132) (by decide +kernel) rfl, by decide +kernel, by decide +kernel, by decide +kernel, rfl⟩
def m_R_wears : MInfo := (⟨"MarkOfficeModel", "wears", "(II)I"⟩, (prog_11_method_115_code, (3, (Option.some FieldType.int, "MarkOfficeModel"))))
set_option maxRecDepth 100000 in
theorem ok_R_wears : MOK m_R_wears := ⟨aw_of (i := 1754) rfl rfl, aw_of (i := 132) (by decide +kernel) rfl, by decide +kernel, by decide +kernel, by decide +kernel, rfl⟩
def m_R_is : MInfo := (⟨"MarkOfficeModel", "is", "(I)I"⟩, (prog_11_method_116_code, (4, (Option.some FieldType.int, "MarkOfficeModel"))))
set_option maxRecDepth 100000 in
theorem ok_R_is : MOK m_R_is := ⟨aw_of (i := 1758) rfl rfl, aw_of (i := 132) (by decide +kernel) rfl, by decide +kernel, by decide +kernel, by decide +kernel, rfl⟩
def m_R_book : MInfo := (⟨"MarkOfficeModel", "book", "(II)I"⟩, (prog_11_method_118_code, (3, (Option.some FieldType.int, "MarkOfficeModel"))))
set_option maxRecDepth 100000 in
theorem ok_R_book : MOK m_R_book := ⟨aw_of (i := 1762) rfl rfl, aw_of (i := 132) (by decide +kernel) rfl, by decide +kernel, by decide +kernel, by decide +kernel, rfl⟩
def m_R_lineOf : MInfo := (⟨"MarkOfficeModel", "lineOf", "(II)I"⟩, (prog_11_method_117_code, (4, (Option.some FieldType.int, "MarkOfficeModel"))))
set_option maxRecDepth 100000 in
theorem ok_R_lineOf : MOK m_R_lineOf := ⟨aw_of (i := 1766) rfl rfl, aw_of (i := 132) (by decide +kernel) rfl, by decide +kernel, by decide +kernel, by decide +kernel, rfl⟩
def m_R_ledger : MInfo := (⟨"MarkOfficeModel", "ledger", "(I)I"⟩, (prog_11_method_119_code, (4, (Option.some FieldType.int, "MarkOfficeModel"))))
set_option maxRecDepth 100000 in
theorem ok_R_ledger : MOK m_R_ledger := ⟨aw_of (i := 1770) rfl rfl, aw_of (i := 132) (by decide +kernel) rfl, by decide +kernel, by decide +kernel, by decide +kernel, rfl⟩
def m_R_richest : MInfo := (⟨"MarkOfficeModel", "richest", "()I"⟩, (prog_11_method_120_code, (3, (Option.some FieldType.int, "MarkOfficeModel"))))
set_option maxRecDepth 100000 in
theorem ok_R_richest : MOK m_R_richest := ⟨aw_of (i := 1774) rfl rfl, aw_of (i := 132) (by decide +kernel) rfl, by decide +kernel, by decide +kernel, by decide +kernel, rfl⟩
def m_R_worn : MInfo := (⟨"MarkOfficeModel", "worn", "()I"⟩, (prog_11_method_121_code, (3, (Option.some FieldType.int, "MarkOfficeModel"))))
set_option maxRecDepth 100000 in
theorem ok_R_worn : MOK m_R_worn := ⟨aw_of (i := 1778) rfl rfl, aw_of (i := 132) (by decide +kernel) rfl, by decide +kernel, by decide +kernel, by decide +kernel, rfl⟩
def m_R_foretold : MInfo := (⟨"MarkOfficeModel", "foretold", "(II)I"⟩, (prog_11_method_122_code, (5, (Option.some FieldType.int, "MarkOfficeModel"))))
set_option maxRecDepth 100000 in
theorem ok_R_foretold : MOK m_R_foretold := ⟨aw_of (i := 1782) rfl rfl, aw_of (i := 132) (by decide +kernel) rfl, by decide +kernel, by decide +kernel, by decide +kernel, rfl⟩
def m_R_alike : MInfo := (⟨"MarkOfficeModel", "alike", "(II)I"⟩, (prog_11_method_125_code, (3, (Option.some FieldType.int, "MarkOfficeModel"))))
set_option maxRecDepth 100000 in
theorem ok_R_alike : MOK m_R_alike := ⟨aw_of (i := 1786) rfl rfl, aw_of (i := 132) (by decide +kernel) rfl, by decide +kernel, by decide +kernel, by decide +kernel, rfl⟩
def m_R_apartBy : MInfo := (⟨"MarkOfficeModel", "apartBy", "(II)I"⟩, (prog_11_method_124_code, (3, (Option.some FieldType.int, "MarkOfficeModel"))))
set_option maxRecDepth 100000 in
theorem ok_R_apartBy : MOK m_R_apartBy := ⟨aw_of (i := 1790) rfl rfl, aw_of (i := 132) (by decide +kernel) rfl, by decide +kernel, by decide +kernel, by decide +kernel, rfl⟩
def m_R_nearestWay : MInfo := (⟨"MarkOfficeModel", "nearestWay", "(II)I"⟩, (prog_11_method_123_code, (5, (Option.some FieldType.int, "MarkOfficeModel"))))
set_option maxRecDepth 100000 in
theorem ok_R_nearestWay : MOK m_R_nearestWay := ⟨aw_of (i := 1794) rfl rfl, aw_of (i := 132) (by decide +kernel) rfl, by decide +kernel, by decide +kernel, by decide +kernel, rfl⟩
def m_R_way : MInfo := (⟨"MarkOfficeModel", "way", "(II)I"⟩, (prog_11_method_126_code, (3, (Option.some FieldType.int, "MarkOfficeModel"))))
set_option maxRecDepth 100000 in
theorem ok_R_way : MOK m_R_way := ⟨aw_of (i := 1798) rfl rfl, aw_of (i := 132) (by decide +kernel) rfl, by decide +kernel, by decide +kernel, by decide +kernel, rfl⟩
def m_R_made : MInfo := (⟨"MarkOfficeModel", "made", "(IIZ)I"⟩, (prog_11_method_129_code, (5, (Option.some FieldType.int, "MarkOfficeModel"))))
set_option maxRecDepth 100000 in
theorem ok_R_made : MOK m_R_made := ⟨aw_of (i := 1802) rfl rfl, aw_of (i := 132) (by decide +kernel) rfl, by decide +kernel, by decide +kernel, by decide +kernel, rfl⟩
def m_R_partWay : MInfo := (⟨"MarkOfficeModel", "partWay", "(II)I"⟩, (prog_11_method_127_code, (4, (Option.some FieldType.int, "MarkOfficeModel"))))
set_option maxRecDepth 100000 in
theorem ok_R_partWay : MOK m_R_partWay := ⟨aw_of (i := 1806) rfl rfl, aw_of (i := 132) (by decide +kernel) rfl, by decide +kernel, by decide +kernel, by decide +kernel, rfl⟩
def m_R_clash : MInfo := (⟨"MarkOfficeModel", "clash", "(IZ)I"⟩, (prog_11_method_131_code, (5, (Option.some FieldType.int, "MarkOfficeModel"))))
set_option maxRecDepth 100000 in
theorem ok_R_clash : MOK m_R_clash := ⟨aw_of (i := 1810) rfl rfl, aw_of (i := 132) (by decide +kernel) rfl, by decide +kernel, by decide +kernel, by decide +kernel, rfl⟩
def m_R_doClash : MInfo := (⟨"MarkOfficeModel", "doClash", "(III)Z"⟩, (prog_11_method_130_code, (4, (Option.some FieldType.boolean, "MarkOfficeModel"))))
set_option maxRecDepth 100000 in
theorem ok_R_doClash : MOK m_R_doClash := ⟨aw_of (i := 1814) rfl rfl, aw_of (i := 132) (by decide +kernel) rfl, by decide +kernel, by decide +kernel, by decide +kernel, rfl⟩
def m_R_isMade : MInfo := (⟨"MarkOfficeModel", "isMade", "(III)Z"⟩, (prog_11_method_128_code, (4, (Option.some FieldType.boolean, "MarkOfficeModel"))))
set_option maxRecDepth 100000 in
theorem ok_R_isMade : MOK m_R_isMade := ⟨aw_of (i := 1818) rfl rfl, aw_of (i := 132) (by decide +kernel) rfl, by decide +kernel, by decide +kernel, by decide +kernel, rfl⟩
def m_R_chain : MInfo := (⟨"MarkOfficeModel", "chain", "(III)I"⟩, (prog_11_method_132_code, (9, (Option.some FieldType.int, "MarkOfficeModel"))))
set_option maxRecDepth 100000 in
theorem ok_R_chain : MOK m_R_chain := ⟨aw_of (i := 1822) rfl rfl, aw_of (i := 132) (by decide +kernel) rfl, by decide +kernel, by decide +kernel, by decide +kernel, rfl⟩
def m_R_free : MInfo := (⟨"MarkOfficeModel", "free", "(II)I"⟩, (prog_11_method_135_code, (6, (Option.some FieldType.int, "MarkOfficeModel"))))
set_option maxRecDepth 100000 in
theorem ok_R_free : MOK m_R_free := ⟨aw_of (i := 1826) rfl rfl, aw_of (i := 132) (by decide +kernel) rfl, by decide +kernel, by decide +kernel, by decide +kernel, rfl⟩
def m_R_isFew : MInfo := (⟨"MarkOfficeModel", "isFew", "(II)Z"⟩, (prog_11_method_134_code, (2, (Option.some FieldType.boolean, "MarkOfficeModel"))))
set_option maxRecDepth 100000 in
theorem ok_R_isFew : MOK m_R_isFew := ⟨aw_of (i := 1829) rfl rfl, aw_of (i := 132) (by decide +kernel) rfl, by decide +kernel, by decide +kernel, by decide +kernel, rfl⟩
def m_R_nextSet : MInfo := (⟨"MarkOfficeModel", "nextSet", "(I)I"⟩, (prog_11_method_133_code, (4, (Option.some FieldType.int, "MarkOfficeModel"))))
set_option maxRecDepth 100000 in
theorem ok_R_nextSet : MOK m_R_nextSet := ⟨aw_of (i := 1832) rfl rfl, aw_of (i := 132) (by decide +kernel) rfl, by decide +kernel, by decide +kernel, by decide +kernel, rfl⟩
def m_R_apart : MInfo := (⟨"MarkOfficeModel", "apart", "(II)I"⟩, (prog_11_method_136_code, (7, (Option.some FieldType.int, "MarkOfficeModel"))))
set_option maxRecDepth 100000 in
theorem ok_R_apart : MOK m_R_apart := ⟨aw_of (i := 1836) rfl rfl, aw_of (i := 132) (by decide +kernel) rfl, by decide +kernel, by decide +kernel, by decide +kernel, rfl⟩
def m_R_kinds : MInfo := (⟨"MarkOfficeModel", "kinds", "(I)J"⟩, (prog_11_method_138_code, (5, (Option.some FieldType.long, "MarkOfficeModel"))))
set_option maxRecDepth 100000 in
theorem ok_R_kinds : MOK m_R_kinds := ⟨aw_of (i := 1840) rfl rfl, aw_of (i := 132) (by decide +kernel) rfl, by decide +kernel, by decide +kernel, by decide +kernel, rfl⟩
def m_R_laySets : MInfo := (⟨"MarkOfficeModel", "laySets", "(I)V"⟩, (prog_11_method_137_code, (6, (Option.none, "MarkOfficeModel"))))
set_option maxRecDepth 100000 in
theorem ok_R_laySets : MOK m_R_laySets := ⟨aw_of (i := 1845) rfl rfl, aw_of (i := 132) (by decide +kernel) rfl, by decide +kernel, by decide +kernel, by decide +kernel, rfl⟩
def m_R_witness : MInfo := (⟨"MarkOfficeModel", "witness", "(IZ)I"⟩, (prog_11_method_139_code, (3, (Option.some FieldType.int, "MarkOfficeModel"))))
set_option maxRecDepth 100000 in
theorem ok_R_witness : MOK m_R_witness := ⟨aw_of (i := 1850) rfl rfl, aw_of (i := 132) (by decide +kernel) rfl, by decide +kernel, by decide +kernel, by decide +kernel, rfl⟩
def m_R_ways : MInfo := (⟨"MarkOfficeModel", "ways", "(I)I"⟩, (prog_11_method_142_code, (2, (Option.some FieldType.int, "MarkOfficeModel"))))
set_option maxRecDepth 100000 in
theorem ok_R_ways : MOK m_R_ways := ⟨aw_of (i := 1854) rfl rfl, aw_of (i := 132) (by decide +kernel) rfl, by decide +kernel, by decide +kernel, by decide +kernel, rfl⟩
def m_R_waysOf : MInfo := (⟨"MarkOfficeModel", "waysOf", "(I)I"⟩, (prog_11_method_141_code, (4, (Option.some FieldType.int, "MarkOfficeModel"))))
set_option maxRecDepth 100000 in
theorem ok_R_waysOf : MOK m_R_waysOf := ⟨aw_of (i := 1858) rfl rfl, aw_of (i := 132) (by decide +kernel) rfl, by decide +kernel, by decide +kernel, by decide +kernel, rfl⟩
def m_R_isSeen : MInfo := (⟨"MarkOfficeModel", "isSeen", "(I)Z"⟩, (prog_11_method_140_code, (2, (Option.some FieldType.boolean, "MarkOfficeModel"))))
set_option maxRecDepth 100000 in
theorem ok_R_isSeen : MOK m_R_isSeen := ⟨aw_of (i := 1862) rfl rfl, aw_of (i := 132) (by decide +kernel) rfl, by decide +kernel, by decide +kernel, by decide +kernel, rfl⟩
def m_R_which : MInfo := (⟨"MarkOfficeModel", "which", "()I"⟩, (prog_11_method_143_code, (3, (Option.some FieldType.int, "MarkOfficeModel"))))
set_option maxRecDepth 100000 in
theorem ok_R_which : MOK m_R_which := ⟨aw_of (i := 1866) rfl rfl, aw_of (i := 132) (by decide +kernel) rfl, by decide +kernel, by decide +kernel, by decide +kernel, rfl⟩
def m_R_ask : MInfo := (⟨"MarkOfficeModel", "ask", "()I"⟩, (prog_11_method_145_code, (4, (Option.some FieldType.int, "MarkOfficeModel"))))
set_option maxRecDepth 100000 in
theorem ok_R_ask : MOK m_R_ask := ⟨aw_of (i := 1870) rfl rfl, aw_of (i := 132) (by decide +kernel) rfl, by decide +kernel, by decide +kernel, by decide +kernel, rfl⟩
def m_R_greaterPart : MInfo := (⟨"MarkOfficeModel", "greaterPart", "(I)I"⟩, (prog_11_method_144_code, (7, (Option.some FieldType.int, "MarkOfficeModel"))))
set_option maxRecDepth 100000 in
theorem ok_R_greaterPart : MOK m_R_greaterPart := ⟨aw_of (i := 1876) rfl rfl, aw_of (i := 132) (by decide +kernel) rfl, by decide +kernel, by decide +kernel, by decide +kernel, rfl⟩
def m_R_game : MInfo := (⟨"MarkOfficeModel", "game", "(II)I"⟩, (prog_11_method_151_code, (3, (Option.some FieldType.int, "MarkOfficeModel"))))
set_option maxRecDepth 100000 in
theorem ok_R_game : MOK m_R_game := ⟨aw_of (i := 1880) rfl rfl, aw_of (i := 132) (by decide +kernel) rfl, by decide +kernel, by decide +kernel, by decide +kernel, rfl⟩
def m_R_isGame : MInfo := (⟨"MarkOfficeModel", "isGame", "(II)Z"⟩, (prog_11_method_149_code, (2, (Option.some FieldType.boolean, "MarkOfficeModel"))))
set_option maxRecDepth 100000 in
theorem ok_R_isGame : MOK m_R_isGame := ⟨aw_of (i := 1883) rfl rfl, aw_of (i := 132) (by decide +kernel) rfl, by decide +kernel, by decide +kernel, by decide +kernel, rfl⟩
def m_R_playFirst : MInfo := (⟨"MarkOfficeModel", "playFirst", "(II)I"⟩, (prog_11_method_150_code, (4, (Option.some FieldType.int, "MarkOfficeModel"))))
set_option maxRecDepth 100000 in
theorem ok_R_playFirst : MOK m_R_playFirst := ⟨aw_of (i := 1887) rfl rfl, aw_of (i := 132) (by decide +kernel) rfl, by decide +kernel, by decide +kernel, by decide +kernel, rfl⟩
def m_R_layFrees : MInfo := (⟨"MarkOfficeModel", "layFrees", "(I)V"⟩, (prog_11_method_146_code, (3, (Option.none, "MarkOfficeModel"))))
set_option maxRecDepth 100000 in
theorem ok_R_layFrees : MOK m_R_layFrees := ⟨aw_of (i := 1891) rfl rfl, aw_of (i := 132) (by decide +kernel) rfl, by decide +kernel, by decide +kernel, by decide +kernel, rfl⟩
def m_R_playOf : MInfo := (⟨"MarkOfficeModel", "playOf", "(II)I"⟩, (prog_11_method_148_code, (5, (Option.some FieldType.int, "MarkOfficeModel"))))
set_option maxRecDepth 100000 in
theorem ok_R_playOf : MOK m_R_playOf := ⟨aw_of (i := 1895) rfl rfl, aw_of (i := 132) (by decide +kernel) rfl, by decide +kernel, by decide +kernel, by decide +kernel, rfl⟩
def m_R_withFrees : MInfo := (⟨"MarkOfficeModel", "withFrees", "(II)I"⟩, (prog_11_method_147_code, (5, (Option.some FieldType.int, "MarkOfficeModel"))))
set_option maxRecDepth 100000 in
theorem ok_R_withFrees : MOK m_R_withFrees := ⟨aw_of (i := 1899) rfl rfl, aw_of (i := 132) (by decide +kernel) rfl, by decide +kernel, by decide +kernel, by decide +kernel, rfl⟩
def m_R_play : MInfo := (⟨"MarkOfficeModel", "play", "(II)I"⟩, (prog_11_method_152_code, (3, (Option.some FieldType.int, "MarkOfficeModel"))))
set_option maxRecDepth 100000 in
theorem ok_R_play : MOK m_R_play := ⟨aw_of (i := 1903) rfl rfl, aw_of (i := 132) (by decide +kernel) rfl, by decide +kernel, by decide +kernel, by decide +kernel, rfl⟩
def m_R_said : MInfo := (⟨"MarkOfficeModel", "said", "(III)I"⟩, (prog_11_method_153_code, (5, (Option.some FieldType.int, "MarkOfficeModel"))))
set_option maxRecDepth 100000 in
theorem ok_R_said : MOK m_R_said := ⟨aw_of (i := 1907) rfl rfl, aw_of (i := 132) (by decide +kernel) rfl, by decide +kernel, by decide +kernel, by decide +kernel, rfl⟩
def m_R_whose : MInfo := (⟨"MarkOfficeModel", "whose", "()I"⟩, (prog_11_method_154_code, (5, (Option.some FieldType.int, "MarkOfficeModel"))))
set_option maxRecDepth 100000 in
theorem ok_R_whose : MOK m_R_whose := ⟨aw_of (i := 1911) rfl rfl, aw_of (i := 132) (by decide +kernel) rfl, by decide +kernel, by decide +kernel, by decide +kernel, rfl⟩
def m_R_image : MInfo := (⟨"MarkOfficeModel", "image", "()I"⟩, (prog_11_method_155_code, (1, (Option.some FieldType.int, "MarkOfficeModel"))))
set_option maxRecDepth 100000 in
theorem ok_R_image : MOK m_R_image := ⟨aw_of (i := 1915) rfl rfl, aw_of (i := 132) (by decide +kernel) rfl, by decide +kernel, by decide +kernel, by decide +kernel, rfl⟩
def m_R_back : MInfo := (⟨"MarkOfficeModel", "back", "()I"⟩, (prog_11_method_156_code, (1, (Option.some FieldType.int, "MarkOfficeModel"))))
set_option maxRecDepth 100000 in
theorem ok_R_back : MOK m_R_back := ⟨aw_of (i := 1919) rfl rfl, aw_of (i := 132) (by decide +kernel) rfl, by decide +kernel, by decide +kernel, by decide +kernel, rfl⟩
def m_R_about : MInfo := (⟨"MarkOfficeModel", "about", "(I)I"⟩, (prog_11_method_157_code, (2, (Option.some FieldType.int, "MarkOfficeModel"))))
set_option maxRecDepth 100000 in
theorem ok_R_about : MOK m_R_about := ⟨aw_of (i := 1923) rfl rfl, aw_of (i := 132) (by decide +kernel) rfl, by decide +kernel, by decide +kernel, by decide +kernel, rfl⟩
def m_W_law : MInfo := (⟨"MarkOfficeLaw", "law", "([I)Z"⟩, (code, (4, (Option.some FieldType.boolean, "MarkOfficeLaw"))))
