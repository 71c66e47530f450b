/-! Methods and links: by program. -/
section Links
variable {D : va_G} {cA : FieldType → ClassId} {b : Nat} {E : State → Prop}
abbrev mX11_init : qM := (⟨"SaltOffice", "<init>", "()V"⟩, prog_1_method_1_code, 2, (Option.none : Option Jvm.ClassFile.FieldType))
set_option maxRecDepth 30000 in
theorem mmX11_init : q_mM (qGG D cA b E) mX11_init 0 := ⟨(q_t1 27 rfl rfl), by decide +kernel, (q_t1 1 (by decide +kernel) rfl), ⟨by decide, by decide⟩, by decide +kernel, by decide⟩
abbrev mX8_init : qM := (⟨"SaltOffice$Tape", "<init>", "()V"⟩, prog_10_method_1_code, 5, (Option.none : Option Jvm.ClassFile.FieldType))
set_option maxRecDepth 30000 in
theorem mmX8_init : q_mM (qGG D cA b E) mX8_init 0 := ⟨(q_t1 35 rfl rfl), by decide +kernel, (q_t1 2 (by decide +kernel) rfl), ⟨by decide, by decide⟩, by decide +kernel, by decide⟩
abbrev mJ0_length_8abf5 : qM := (⟨"java/lang/String", "length", "()I"⟩, prog_18_method_54_code, 1, (Option.some Jvm.ClassFile.FieldType.int))
set_option maxRecDepth 30000 in
theorem mmJ0_length_8abf5 : q_mM (qGG D cA b E) mJ0_length_8abf5 0 := ⟨(q_t1 41 rfl rfl), by decide +kernel, (q_t1 3 (by decide +kernel) rfl), ⟨by decide, by decide⟩, by decide +kernel, by decide⟩
abbrev mJ0_coder_7d493 : qM := (⟨"java/lang/String", "coder", "()B"⟩, prog_18_method_152_code, 1, (Option.some Jvm.ClassFile.FieldType.byte))
set_option maxRecDepth 30000 in
theorem mmJ0_coder_7d493 : q_mM (qGG D cA b E) mJ0_coder_7d493 0 := ⟨(q_t1 45 rfl rfl), by decide +kernel, (q_t1 3 (by decide +kernel) rfl), ⟨by decide, by decide⟩, by decide +kernel, by decide⟩
abbrev mJ0_charAt_5068e : qM := (⟨"java/lang/String", "charAt", "(I)C"⟩, prog_18_method_56_code, 2, (Option.some Jvm.ClassFile.FieldType.char))
set_option maxRecDepth 30000 in
theorem mmJ0_charAt_5068e : q_mM (qGG D cA b E) mJ0_charAt_5068e 1 := ⟨(q_t1 51 rfl rfl), by decide +kernel, (q_t1 3 (by decide +kernel) rfl), ⟨by decide, by decide⟩, by decide +kernel, by decide⟩
abbrev mJ0_isLatin1_aae02 : qM := (⟨"java/lang/String", "isLatin1", "()Z"⟩, prog_18_method_154_code, 1, (Option.some Jvm.ClassFile.FieldType.boolean))
set_option maxRecDepth 30000 in
theorem mmJ0_isLatin1_aae02 : q_mM (qGG D cA b E) mJ0_isLatin1_aae02 0 := ⟨(q_t1 55 rfl rfl), by decide +kernel, (q_t1 3 (by decide +kernel) rfl), ⟨by decide, by decide⟩, by decide +kernel, by decide⟩
abbrev mJ1_charAt_3b067 : qM := (⟨"java/lang/StringLatin1", "charAt", "([BI)C"⟩, prog_19_method_2_code, 2, (Option.some Jvm.ClassFile.FieldType.char))
set_option maxRecDepth 30000 in
theorem mmJ1_charAt_3b067 : q_mM (qGG D cA b E) mJ1_charAt_3b067 2 := ⟨(q_t1 58 rfl rfl), by decide +kernel, (q_t1 4 (by decide +kernel) rfl), ⟨by decide, by decide⟩, by decide +kernel, by decide⟩
abbrev mJ0_checkIndex_df160 : qM := (⟨"java/lang/String", "checkIndex", "(II)V"⟩, prog_18_method_155_code, 2, (Option.none : Option Jvm.ClassFile.FieldType))
set_option maxRecDepth 30000 in
theorem mmJ0_checkIndex_df160 : q_mM (qGG D cA b E) mJ0_checkIndex_df160 2 := ⟨(q_t1 61 rfl rfl), by decide +kernel, (q_t1 3 (by decide +kernel) rfl), ⟨by decide, by decide⟩, by decide +kernel, by decide⟩
abbrev mJ3_checkIndex_8e157 : qM := (⟨"jdk/internal/util/Preconditions", "checkIndex", "(IILjava/util/function/BiFunction;)I"⟩, prog_23_method_11_code, 3, (Option.some Jvm.ClassFile.FieldType.int))
set_option maxRecDepth 30000 in
theorem mmJ3_checkIndex_8e157 : q_mM (qGG D cA b E) mJ3_checkIndex_8e157 3 := ⟨(q_t1 66 rfl rfl), by decide +kernel, (q_t1 5 (by decide +kernel) rfl), ⟨by decide, by decide⟩, by decide +kernel, by decide⟩
abbrev mJ2_charAt_3b067 : qM := (⟨"java/lang/StringUTF16", "charAt", "([BI)C"⟩, prog_20_method_83_code, 2, (Option.some Jvm.ClassFile.FieldType.char))
set_option maxRecDepth 30000 in
theorem mmJ2_charAt_3b067 : q_mM (qGG D cA b E) mJ2_charAt_3b067 2 := ⟨(q_t1 69 rfl rfl), by decide +kernel, (q_t1 6 (by decide +kernel) rfl), ⟨by decide, by decide⟩, by decide +kernel, by decide⟩
abbrev mJ2_checkIndex_2214a : qM := (⟨"java/lang/StringUTF16", "checkIndex", "(I[B)V"⟩, prog_20_method_91_code, 2, (Option.none : Option Jvm.ClassFile.FieldType))
set_option maxRecDepth 30000 in
theorem mmJ2_checkIndex_2214a : q_mM (qGG D cA b E) mJ2_checkIndex_2214a 2 := ⟨(q_t1 72 rfl rfl), by decide +kernel, (q_t1 6 (by decide +kernel) rfl), ⟨by decide, by decide⟩, by decide +kernel, by decide⟩
abbrev mJ2_length_9d52b : qM := (⟨"java/lang/StringUTF16", "length", "([B)I"⟩, prog_20_method_6_code, 1, (Option.some Jvm.ClassFile.FieldType.int))
set_option maxRecDepth 30000 in
theorem mmJ2_length_9d52b : q_mM (qGG D cA b E) mJ2_length_9d52b 1 := ⟨(q_t1 75 rfl rfl), by decide +kernel, (q_t1 6 (by decide +kernel) rfl), ⟨by decide, by decide⟩, by decide +kernel, by decide⟩
abbrev mJ2_getChar_3b067 : qM := (⟨"java/lang/StringUTF16", "getChar", "([BI)C"⟩, prog_20_method_5_code, 2, (Option.some Jvm.ClassFile.FieldType.char))
set_option maxRecDepth 30000 in
theorem mmJ2_getChar_3b067 : q_mM (qGG D cA b E) mJ2_getChar_3b067 2 := ⟨(q_t1 79 rfl rfl), by decide +kernel, (q_t1 6 (by decide +kernel) rfl), ⟨by decide, by decide⟩, by decide +kernel, by decide⟩
abbrev mX8_isLetter : qM := (⟨"SaltOffice$Tape", "isLetter", "(I)Z"⟩, prog_10_method_10_code, 1, (Option.some Jvm.ClassFile.FieldType.boolean))
set_option maxRecDepth 30000 in
theorem mmX8_isLetter : q_mM (qGG D cA b E) mX8_isLetter 1 := ⟨(q_t1 88 rfl rfl), by decide +kernel, (q_t1 2 (by decide +kernel) rfl), ⟨by decide, by decide⟩, by decide +kernel, by decide⟩
abbrev mX8_withLetter : qM := (⟨"SaltOffice$Tape", "withLetter", "(JI)J"⟩, prog_10_method_12_code, 3, (Option.some Jvm.ClassFile.FieldType.long))
set_option maxRecDepth 30000 in
theorem mmX8_withLetter : q_mM (qGG D cA b E) mX8_withLetter 2 := ⟨(q_t1 91 rfl rfl), by decide +kernel, (q_t1 2 (by decide +kernel) rfl), ⟨by decide, by decide⟩, by decide +kernel, by decide⟩
abbrev mX1_init : qM := (⟨"SaltOffice$Land", "<init>", "()V"⟩, prog_3_method_1_code, 1, (Option.none : Option Jvm.ClassFile.FieldType))
set_option maxRecDepth 30000 in
theorem mmX1_init : q_mM (qGG D cA b E) mX1_init 0 := ⟨(q_t1 138 rfl rfl), by decide +kernel, (q_t1 7 (by decide +kernel) rfl), ⟨by decide, by decide⟩, by decide +kernel, by decide⟩
abbrev mX1_clear : qM := (⟨"SaltOffice$Land", "clear", "()V"⟩, prog_3_method_2_code, 2, (Option.none : Option Jvm.ClassFile.FieldType))
set_option maxRecDepth 30000 in
theorem mmX1_clear : q_mM (qGG D cA b E) mX1_clear 0 := ⟨(q_t1 143 rfl rfl), by decide +kernel, (q_t1 7 (by decide +kernel) rfl), ⟨by decide, by decide⟩, by decide +kernel, by decide⟩
abbrev mJ7_fill_53178 : qM := (⟨"java/util/Arrays", "fill", "([II)V"⟩, prog_22_method_103_code, 4, (Option.none : Option Jvm.ClassFile.FieldType))
set_option maxRecDepth 30000 in
theorem mmJ7_fill_53178 : q_mM (qGG D cA b E) mJ7_fill_53178 2 := ⟨(q_t1 146 rfl rfl), by decide +kernel, (q_t1 8 (by decide +kernel) rfl), ⟨by decide, by decide⟩, by decide +kernel, by decide⟩
abbrev mX6_init : qM := (⟨"SaltOffice$Reform", "<init>", "()V"⟩, prog_8_method_1_code, 1, (Option.none : Option Jvm.ClassFile.FieldType))
set_option maxRecDepth 30000 in
theorem mmX6_init : q_mM (qGG D cA b E) mX6_init 0 := ⟨(q_t2 3 rfl rfl), by decide +kernel, (q_t1 9 (by decide +kernel) rfl), ⟨by decide, by decide⟩, by decide +kernel, by decide⟩
abbrev mX9_init : qM := (⟨"SaltOffice$Trade", "<init>", "()V"⟩, prog_11_method_1_code, 1, (Option.none : Option Jvm.ClassFile.FieldType))
set_option maxRecDepth 30000 in
theorem mmX9_init : q_mM (qGG D cA b E) mX9_init 0 := ⟨(q_t2 39 rfl rfl), by decide +kernel, (q_t1 10 (by decide +kernel) rfl), ⟨by decide, by decide⟩, by decide +kernel, by decide⟩
abbrev mX0_init : qM := (⟨"SaltOffice$Facts", "<init>", "()V"⟩, prog_2_method_1_code, 1, (Option.none : Option Jvm.ClassFile.FieldType))
set_option maxRecDepth 30000 in
theorem mmX0_init : q_mM (qGG D cA b E) mX0_init 0 := ⟨(q_t2 83 rfl rfl), by decide +kernel, (q_t1 11 (by decide +kernel) rfl), ⟨by decide, by decide⟩, by decide +kernel, by decide⟩
abbrev mX7_init : qM := (⟨"SaltOffice$Run", "<init>", "()V"⟩, prog_9_method_1_code, 1, (Option.none : Option Jvm.ClassFile.FieldType))
set_option maxRecDepth 30000 in
theorem mmX7_init : q_mM (qGG D cA b E) mX7_init 0 := ⟨(q_t2 120 rfl rfl), by decide +kernel, (q_t1 12 (by decide +kernel) rfl), ⟨by decide, by decide⟩, by decide +kernel, by decide⟩
abbrev mX4_init : qM := (⟨"SaltOffice$Realm", "<init>", "()V"⟩, prog_6_method_1_code, 1, (Option.none : Option Jvm.ClassFile.FieldType))
set_option maxRecDepth 30000 in
theorem mmX4_init : q_mM (qGG D cA b E) mX4_init 0 := ⟨(q_t2 132 rfl rfl), by decide +kernel, (q_t1 13 (by decide +kernel) rfl), ⟨by decide, by decide⟩, by decide +kernel, by decide⟩
abbrev mX3_init : qM := (⟨"SaltOffice$Papers", "<init>", "()V"⟩, prog_5_method_1_code, 1, (Option.none : Option Jvm.ClassFile.FieldType))
set_option maxRecDepth 30000 in
theorem mmX3_init : q_mM (qGG D cA b E) mX3_init 0 := ⟨(q_t2 168 rfl rfl), by decide +kernel, (q_t1 14 (by decide +kernel) rfl), ⟨by decide, by decide⟩, by decide +kernel, by decide⟩
abbrev mX2_init : qM := (⟨"SaltOffice$Loads", "<init>", "()V"⟩, prog_4_method_1_code, 1, (Option.none : Option Jvm.ClassFile.FieldType))
set_option maxRecDepth 30000 in
theorem mmX2_init : q_mM (qGG D cA b E) mX2_init 0 := ⟨(q_t2 233 rfl rfl), by decide +kernel, (q_t1 15 (by decide +kernel) rfl), ⟨by decide, by decide⟩, by decide +kernel, by decide⟩
abbrev mX5_init : qM := (⟨"SaltOffice$Records", "<init>", "()V"⟩, prog_7_method_1_code, 1, (Option.none : Option Jvm.ClassFile.FieldType))
set_option maxRecDepth 30000 in
theorem mmX5_init : q_mM (qGG D cA b E) mX5_init 0 := ⟨(q_t3 40 rfl rfl), by decide +kernel, (q_t1 16 (by decide +kernel) rfl), ⟨by decide, by decide⟩, by decide +kernel, by decide⟩
abbrev mX10_init : qM := (⟨"SaltOffice$Way", "<init>", "()V"⟩, prog_12_method_1_code, 1, (Option.none : Option Jvm.ClassFile.FieldType))
set_option maxRecDepth 30000 in
theorem mmX10_init : q_mM (qGG D cA b E) mX10_init 0 := ⟨(q_t3 63 rfl rfl), by decide +kernel, (q_t1 17 (by decide +kernel) rfl), ⟨by decide, by decide⟩, by decide +kernel, by decide⟩
abbrev mX11_feed : qM := (⟨"SaltOffice", "feed", "(IIIII)I"⟩, prog_1_method_2_code, 6, (Option.some Jvm.ClassFile.FieldType.int))
set_option maxRecDepth 30000 in
theorem mmX11_feed : q_mM (qGG D cA b E) mX11_feed 5 := ⟨(q_t3 216 rfl rfl), by decide +kernel, (q_t1 1 (by decide +kernel) rfl), ⟨by decide, by decide⟩, by decide +kernel, by decide⟩
abbrev mX8_append : qM := (⟨"SaltOffice$Tape", "append", "(I)V"⟩, prog_10_method_2_code, 3, (Option.none : Option Jvm.ClassFile.FieldType))
set_option maxRecDepth 30000 in
theorem mmX8_append : q_mM (qGG D cA b E) mX8_append 1 := ⟨(q_t3 220 rfl rfl), by decide +kernel, (q_t1 2 (by decide +kernel) rfl), ⟨by decide, by decide⟩, by decide +kernel, by decide⟩
abbrev mX11_end : qM := (⟨"SaltOffice", "end", "(I)I"⟩, prog_1_method_3_code, 2, (Option.some Jvm.ClassFile.FieldType.int))
set_option maxRecDepth 30000 in
theorem mmX11_end : q_mM (qGG D cA b E) mX11_end 1 := ⟨(q_t3 224 rfl rfl), by decide +kernel, (q_t1 1 (by decide +kernel) rfl), ⟨by decide, by decide⟩, by decide +kernel, by decide⟩
abbrev mX11_land : qM := (⟨"SaltOffice", "land", "()I"⟩, prog_1_method_4_code, 3, (Option.some Jvm.ClassFile.FieldType.int))
set_option maxRecDepth 30000 in
theorem mmX11_land : q_mM (qGG D cA b E) mX11_land 0 := ⟨(q_t3 228 rfl rfl), by decide +kernel, (q_t1 1 (by decide +kernel) rfl), ⟨by decide, by decide⟩, by decide +kernel, by decide⟩
abbrev mX1_read : qM := (⟨"SaltOffice$Land", "read", "(LSaltOffice$Tape;)Z"⟩, prog_3_method_3_code, 3, (Option.some Jvm.ClassFile.FieldType.boolean))
set_option maxRecDepth 30000 in
theorem mmX1_read : q_mM (qGG D cA b E) mX1_read 1 := ⟨(q_t3 232 rfl rfl), by decide +kernel, (q_t1 7 (by decide +kernel) rfl), ⟨by decide, by decide⟩, by decide +kernel, by decide⟩
abbrev mX8_startReading : qM := (⟨"SaltOffice$Tape", "startReading", "(Z)V"⟩, prog_10_method_3_code, 5, (Option.none : Option Jvm.ClassFile.FieldType))
set_option maxRecDepth 30000 in
theorem mmX8_startReading : q_mM (qGG D cA b E) mX8_startReading 1 := ⟨(q_t3 236 rfl rfl), by decide +kernel, (q_t1 2 (by decide +kernel) rfl), ⟨by decide, by decide⟩, by decide +kernel, by decide⟩
abbrev mX8_cutToken : qM := (⟨"SaltOffice$Tape", "cutToken", "(II)I"⟩, prog_10_method_4_code, 4, (Option.some Jvm.ClassFile.FieldType.int))
set_option maxRecDepth 30000 in
theorem mmX8_cutToken : q_mM (qGG D cA b E) mX8_cutToken 2 := ⟨(q_t4 0 rfl rfl), by decide +kernel, (q_t1 2 (by decide +kernel) rfl), ⟨by decide, by decide⟩, by decide +kernel, by decide⟩
abbrev mX8_byteAt : qM := (⟨"SaltOffice$Tape", "byteAt", "(I)I"⟩, prog_10_method_9_code, 2, (Option.some Jvm.ClassFile.FieldType.int))
set_option maxRecDepth 30000 in
theorem mmX8_byteAt : q_mM (qGG D cA b E) mX8_byteAt 1 := ⟨(q_t4 4 rfl rfl), by decide +kernel, (q_t1 2 (by decide +kernel) rfl), ⟨by decide, by decide⟩, by decide +kernel, by decide⟩
abbrev mX8_placeAt : qM := (⟨"SaltOffice$Tape", "placeAt", "(I)I"⟩, prog_10_method_6_code, 5, (Option.some Jvm.ClassFile.FieldType.int))
set_option maxRecDepth 30000 in
theorem mmX8_placeAt : q_mM (qGG D cA b E) mX8_placeAt 1 := ⟨(q_t4 8 rfl rfl), by decide +kernel, (q_t1 2 (by decide +kernel) rfl), ⟨by decide, by decide⟩, by decide +kernel, by decide⟩
abbrev mX8_isDigit : qM := (⟨"SaltOffice$Tape", "isDigit", "(I)Z"⟩, prog_10_method_11_code, 1, (Option.some Jvm.ClassFile.FieldType.boolean))
set_option maxRecDepth 30000 in
theorem mmX8_isDigit : q_mM (qGG D cA b E) mX8_isDigit 1 := ⟨(q_t4 11 rfl rfl), by decide +kernel, (q_t1 2 (by decide +kernel) rfl), ⟨by decide, by decide⟩, by decide +kernel, by decide⟩
abbrev mX8_cutPlace : qM := (⟨"SaltOffice$Tape", "cutPlace", "(II)I"⟩, prog_10_method_5_code, 3, (Option.some Jvm.ClassFile.FieldType.int))
set_option maxRecDepth 30000 in
theorem mmX8_cutPlace : q_mM (qGG D cA b E) mX8_cutPlace 2 := ⟨(q_t4 15 rfl rfl), by decide +kernel, (q_t1 2 (by decide +kernel) rfl), ⟨by decide, by decide⟩, by decide +kernel, by decide⟩
abbrev mX8_cutWord : qM := (⟨"SaltOffice$Tape", "cutWord", "(II)I"⟩, prog_10_method_7_code, 7, (Option.some Jvm.ClassFile.FieldType.int))
set_option maxRecDepth 30000 in
theorem mmX8_cutWord : q_mM (qGG D cA b E) mX8_cutWord 2 := ⟨(q_t4 19 rfl rfl), by decide +kernel, (q_t1 2 (by decide +kernel) rfl), ⟨by decide, by decide⟩, by decide +kernel, by decide⟩
abbrev mX8_cutNumber : qM := (⟨"SaltOffice$Tape", "cutNumber", "(II)I"⟩, prog_10_method_8_code, 5, (Option.some Jvm.ClassFile.FieldType.int))
set_option maxRecDepth 30000 in
theorem mmX8_cutNumber : q_mM (qGG D cA b E) mX8_cutNumber 2 := ⟨(q_t4 23 rfl rfl), by decide +kernel, (q_t1 2 (by decide +kernel) rfl), ⟨by decide, by decide⟩, by decide +kernel, by decide⟩
abbrev mJ0_indexOf_0f7a4 : qM := (⟨"java/lang/String", "indexOf", "(I)I"⟩, prog_18_method_79_code, 2, (Option.some Jvm.ClassFile.FieldType.int))
set_option maxRecDepth 30000 in
theorem mmJ0_indexOf_0f7a4 : q_mM (qGG D cA b E) mJ0_indexOf_0f7a4 1 := ⟨(q_t4 28 rfl rfl), by decide +kernel, (q_t1 3 (by decide +kernel) rfl), ⟨by decide, by decide⟩, by decide +kernel, by decide⟩
abbrev mJ0_indexOf_7cf53 : qM := (⟨"java/lang/String", "indexOf", "(II)I"⟩, prog_18_method_80_code, 3, (Option.some Jvm.ClassFile.FieldType.int))
set_option maxRecDepth 30000 in
theorem mmJ0_indexOf_7cf53 : q_mM (qGG D cA b E) mJ0_indexOf_7cf53 2 := ⟨(q_t4 32 rfl rfl), by decide +kernel, (q_t1 3 (by decide +kernel) rfl), ⟨by decide, by decide⟩, by decide +kernel, by decide⟩
abbrev mJ1_indexOf_4cfef : qM := (⟨"java/lang/StringLatin1", "indexOf", "([BIII)I"⟩, prog_19_method_22_code, 4, (Option.some Jvm.ClassFile.FieldType.int))
set_option maxRecDepth 30000 in
theorem mmJ1_indexOf_4cfef : q_mM (qGG D cA b E) mJ1_indexOf_4cfef 4 := ⟨(q_t4 36 rfl rfl), by decide +kernel, (q_t1 4 (by decide +kernel) rfl), ⟨by decide, by decide⟩, by decide +kernel, by decide⟩
abbrev mJ1_canEncode_9a6ad : qM := (⟨"java/lang/StringLatin1", "canEncode", "(I)Z"⟩, prog_19_method_4_code, 1, (Option.some Jvm.ClassFile.FieldType.boolean))
set_option maxRecDepth 30000 in
theorem mmJ1_canEncode_9a6ad : q_mM (qGG D cA b E) mJ1_canEncode_9a6ad 1 := ⟨(q_t4 39 rfl rfl), by decide +kernel, (q_t1 4 (by decide +kernel) rfl), ⟨by decide, by decide⟩, by decide +kernel, by decide⟩
abbrev mJ9_max_7cf53 : qM := (⟨"java/lang/Math", "max", "(II)I"⟩, prog_17_method_65_code, 2, (Option.some Jvm.ClassFile.FieldType.int))
abbrev mJ9_min_7cf53 : qM := (⟨"java/lang/Math", "min", "(II)I"⟩, prog_17_method_69_code, 2, (Option.some Jvm.ClassFile.FieldType.int))
abbrev mJ1_indexOfChar_4cfef : qM := (⟨"java/lang/StringLatin1", "indexOfChar", "([BIII)I"⟩, prog_19_method_23_code, 6, (Option.some Jvm.ClassFile.FieldType.int))
set_option maxRecDepth 30000 in
theorem mmJ1_indexOfChar_4cfef : q_mM (qGG D cA b E) mJ1_indexOfChar_4cfef 4 := ⟨(q_t4 48 rfl rfl), by decide +kernel, (q_t1 4 (by decide +kernel) rfl), ⟨by decide, by decide⟩, by decide +kernel, by decide⟩
abbrev mJ2_indexOf_4cfef : qM := (⟨"java/lang/StringUTF16", "indexOf", "([BIII)I"⟩, prog_20_method_40_code, 4, (Option.some Jvm.ClassFile.FieldType.int))
set_option maxRecDepth 30000 in
theorem mmJ2_indexOf_4cfef : q_mM (qGG D cA b E) mJ2_indexOf_4cfef 4 := ⟨(q_t4 51 rfl rfl), by decide +kernel, (q_t1 6 (by decide +kernel) rfl), ⟨by decide, by decide⟩, by decide +kernel, by decide⟩
abbrev mJ2_indexOfChar_4cfef : qM := (⟨"java/lang/StringUTF16", "indexOfChar", "([BIII)I"⟩, prog_20_method_47_code, 4, (Option.some Jvm.ClassFile.FieldType.int))
set_option maxRecDepth 30000 in
theorem mmJ2_indexOfChar_4cfef : q_mM (qGG D cA b E) mJ2_indexOfChar_4cfef 4 := ⟨(q_t4 57 rfl rfl), by decide +kernel, (q_t1 6 (by decide +kernel) rfl), ⟨by decide, by decide⟩, by decide +kernel, by decide⟩
abbrev mJ2_checkBoundsBeginEnd_d044e : qM := (⟨"java/lang/StringUTF16", "checkBoundsBeginEnd", "(II[B)V"⟩, prog_20_method_93_code, 3, (Option.none : Option Jvm.ClassFile.FieldType))
set_option maxRecDepth 30000 in
theorem mmJ2_checkBoundsBeginEnd_d044e : q_mM (qGG D cA b E) mJ2_checkBoundsBeginEnd_d044e 3 := ⟨(q_t4 60 rfl rfl), by decide +kernel, (q_t1 6 (by decide +kernel) rfl), ⟨by decide, by decide⟩, by decide +kernel, by decide⟩
abbrev mJ0_checkBoundsBeginEnd_23922 : qM := (⟨"java/lang/String", "checkBoundsBeginEnd", "(III)V"⟩, prog_18_method_158_code, 3, (Option.none : Option Jvm.ClassFile.FieldType))
set_option maxRecDepth 30000 in
theorem mmJ0_checkBoundsBeginEnd_23922 : q_mM (qGG D cA b E) mJ0_checkBoundsBeginEnd_23922 3 := ⟨(q_t4 63 rfl rfl), by decide +kernel, (q_t1 3 (by decide +kernel) rfl), ⟨by decide, by decide⟩, by decide +kernel, by decide⟩
abbrev mJ3_checkFromToIndex_8c36e : qM := (⟨"jdk/internal/util/Preconditions", "checkFromToIndex", "(IIILjava/util/function/BiFunction;)I"⟩, prog_23_method_12_code, 4, (Option.some Jvm.ClassFile.FieldType.int))
set_option maxRecDepth 30000 in
theorem mmJ3_checkFromToIndex_8c36e : q_mM (qGG D cA b E) mJ3_checkFromToIndex_8c36e 4 := ⟨(q_t4 66 rfl rfl), by decide +kernel, (q_t1 5 (by decide +kernel) rfl), ⟨by decide, by decide⟩, by decide +kernel, by decide⟩
abbrev mJ2_indexOfCharUnsafe_4cfef : qM := (⟨"java/lang/StringUTF16", "indexOfCharUnsafe", "([BIII)I"⟩, prog_20_method_48_code, 5, (Option.some Jvm.ClassFile.FieldType.int))
set_option maxRecDepth 30000 in
theorem mmJ2_indexOfCharUnsafe_4cfef : q_mM (qGG D cA b E) mJ2_indexOfCharUnsafe_4cfef 4 := ⟨(q_t4 69 rfl rfl), by decide +kernel, (q_t1 6 (by decide +kernel) rfl), ⟨by decide, by decide⟩, by decide +kernel, by decide⟩
abbrev mJ2_indexOfSupplementary_4cfef : qM := (⟨"java/lang/StringUTF16", "indexOfSupplementary", "([BIII)I"⟩, prog_20_method_49_code, 7, (Option.some Jvm.ClassFile.FieldType.int))
set_option maxRecDepth 30000 in
theorem mmJ2_indexOfSupplementary_4cfef : q_mM (qGG D cA b E) mJ2_indexOfSupplementary_4cfef 4 := ⟨(q_t4 72 rfl rfl), by decide +kernel, (q_t1 6 (by decide +kernel) rfl), ⟨by decide, by decide⟩, by decide +kernel, by decide⟩
abbrev mJ11_isValidCodePoint_9a6ad : qM := (⟨"java/lang/Character", "isValidCodePoint", "(I)Z"⟩, prog_15_method_11_code, 2, (Option.some Jvm.ClassFile.FieldType.boolean))
set_option maxRecDepth 30000 in
theorem mmJ11_isValidCodePoint_9a6ad : q_mM (qGG D cA b E) mJ11_isValidCodePoint_9a6ad 1 := ⟨(q_t4 75 rfl rfl), by decide +kernel, (q_t1 20 (by decide +kernel) rfl), ⟨by decide, by decide⟩, by decide +kernel, by decide⟩
abbrev mJ11_highSurrogate_5068e : qM := (⟨"java/lang/Character", "highSurrogate", "(I)C"⟩, prog_15_method_28_code, 1, (Option.some Jvm.ClassFile.FieldType.char))
set_option maxRecDepth 30000 in
theorem mmJ11_highSurrogate_5068e : q_mM (qGG D cA b E) mJ11_highSurrogate_5068e 1 := ⟨(q_t4 78 rfl rfl), by decide +kernel, (q_t1 20 (by decide +kernel) rfl), ⟨by decide, by decide⟩, by decide +kernel, by decide⟩
abbrev mJ11_lowSurrogate_5068e : qM := (⟨"java/lang/Character", "lowSurrogate", "(I)C"⟩, prog_15_method_29_code, 1, (Option.some Jvm.ClassFile.FieldType.char))
set_option maxRecDepth 30000 in
theorem mmJ11_lowSurrogate_5068e : q_mM (qGG D cA b E) mJ11_lowSurrogate_5068e 1 := ⟨(q_t4 82 rfl rfl), by decide +kernel, (q_t1 20 (by decide +kernel) rfl), ⟨by decide, by decide⟩, by decide +kernel, by decide⟩
abbrev mX8_atEnd : qM := (⟨"SaltOffice$Tape", "atEnd", "()Z"⟩, prog_10_method_21_code, 1, (Option.some Jvm.ClassFile.FieldType.boolean))
set_option maxRecDepth 30000 in
theorem mmX8_atEnd : q_mM (qGG D cA b E) mX8_atEnd 0 := ⟨(q_t4 87 rfl rfl), by decide +kernel, (q_t1 2 (by decide +kernel) rfl), ⟨by decide, by decide⟩, by decide +kernel, by decide⟩
abbrev mX1_readLine : qM := (⟨"SaltOffice$Land", "readLine", "(LSaltOffice$Tape;)Z"⟩, prog_3_method_4_code, 2, (Option.some Jvm.ClassFile.FieldType.boolean))
set_option maxRecDepth 30000 in
theorem mmX1_readLine : q_mM (qGG D cA b E) mX1_readLine 1 := ⟨(q_t4 91 rfl rfl), by decide +kernel, (q_t1 7 (by decide +kernel) rfl), ⟨by decide, by decide⟩, by decide +kernel, by decide⟩
abbrev mX8_isWord : qM := (⟨"SaltOffice$Tape", "isWord", "(I)Z"⟩, prog_10_method_18_code, 2, (Option.some Jvm.ClassFile.FieldType.boolean))
set_option maxRecDepth 30000 in
theorem mmX8_isWord : q_mM (qGG D cA b E) mX8_isWord 1 := ⟨(q_t4 95 rfl rfl), by decide +kernel, (q_t1 2 (by decide +kernel) rfl), ⟨by decide, by decide⟩, by decide +kernel, by decide⟩
abbrev mX1_readRoad : qM := (⟨"SaltOffice$Land", "readRoad", "(LSaltOffice$Tape;)Z"⟩, prog_3_method_5_code, 5, (Option.some Jvm.ClassFile.FieldType.boolean))
set_option maxRecDepth 30000 in
theorem mmX1_readRoad : q_mM (qGG D cA b E) mX1_readRoad 1 := ⟨(q_t4 99 rfl rfl), by decide +kernel, (q_t1 7 (by decide +kernel) rfl), ⟨by decide, by decide⟩, by decide +kernel, by decide⟩
abbrev mX8_step : qM := (⟨"SaltOffice$Tape", "step", "()V"⟩, prog_10_method_16_code, 1, (Option.none : Option Jvm.ClassFile.FieldType))
set_option maxRecDepth 30000 in
theorem mmX8_step : q_mM (qGG D cA b E) mX8_step 0 := ⟨(q_t4 103 rfl rfl), by decide +kernel, (q_t1 2 (by decide +kernel) rfl), ⟨by decide, by decide⟩, by decide +kernel, by decide⟩
abbrev mX8_takePlaceUnlike : qM := (⟨"SaltOffice$Tape", "takePlaceUnlike", "(I)I"⟩, prog_10_method_26_code, 3, (Option.some Jvm.ClassFile.FieldType.int))
set_option maxRecDepth 30000 in
theorem mmX8_takePlaceUnlike : q_mM (qGG D cA b E) mX8_takePlaceUnlike 1 := ⟨(q_t4 107 rfl rfl), by decide +kernel, (q_t1 2 (by decide +kernel) rfl), ⟨by decide, by decide⟩, by decide +kernel, by decide⟩
abbrev mX8_refuse : qM := (⟨"SaltOffice$Tape", "refuse", "(I)V"⟩, prog_10_method_17_code, 2, (Option.none : Option Jvm.ClassFile.FieldType))
set_option maxRecDepth 30000 in
theorem mmX8_refuse : q_mM (qGG D cA b E) mX8_refuse 1 := ⟨(q_t4 111 rfl rfl), by decide +kernel, (q_t1 2 (by decide +kernel) rfl), ⟨by decide, by decide⟩, by decide +kernel, by decide⟩
abbrev mX8_takeNumber : qM := (⟨"SaltOffice$Tape", "takeNumber", "(II)I"⟩, prog_10_method_24_code, 4, (Option.some Jvm.ClassFile.FieldType.int))
set_option maxRecDepth 30000 in
theorem mmX8_takeNumber : q_mM (qGG D cA b E) mX8_takeNumber 2 := ⟨(q_t4 116 rfl rfl), by decide +kernel, (q_t1 2 (by decide +kernel) rfl), ⟨by decide, by decide⟩, by decide +kernel, by decide⟩
abbrev mX8_isNumber : qM := (⟨"SaltOffice$Tape", "isNumber", "()Z"⟩, prog_10_method_20_code, 1, (Option.some Jvm.ClassFile.FieldType.boolean))
set_option maxRecDepth 30000 in
theorem mmX8_isNumber : q_mM (qGG D cA b E) mX8_isNumber 0 := ⟨(q_t4 120 rfl rfl), by decide +kernel, (q_t1 2 (by decide +kernel) rfl), ⟨by decide, by decide⟩, by decide +kernel, by decide⟩
abbrev mX8_closeLine : qM := (⟨"SaltOffice$Tape", "closeLine", "()Z"⟩, prog_10_method_23_code, 1, (Option.some Jvm.ClassFile.FieldType.boolean))
set_option maxRecDepth 30000 in
theorem mmX8_closeLine : q_mM (qGG D cA b E) mX8_closeLine 0 := ⟨(q_t4 124 rfl rfl), by decide +kernel, (q_t1 2 (by decide +kernel) rfl), ⟨by decide, by decide⟩, by decide +kernel, by decide⟩
abbrev mX8_isSign : qM := (⟨"SaltOffice$Tape", "isSign", "(I)Z"⟩, prog_10_method_19_code, 2, (Option.some Jvm.ClassFile.FieldType.boolean))
set_option maxRecDepth 30000 in
theorem mmX8_isSign : q_mM (qGG D cA b E) mX8_isSign 1 := ⟨(q_t4 128 rfl rfl), by decide +kernel, (q_t1 2 (by decide +kernel) rfl), ⟨by decide, by decide⟩, by decide +kernel, by decide⟩
abbrev mX8_passIf : qM := (⟨"SaltOffice$Tape", "passIf", "(Z)V"⟩, prog_10_method_22_code, 2, (Option.none : Option Jvm.ClassFile.FieldType))
set_option maxRecDepth 30000 in
theorem mmX8_passIf : q_mM (qGG D cA b E) mX8_passIf 1 := ⟨(q_t4 132 rfl rfl), by decide +kernel, (q_t1 2 (by decide +kernel) rfl), ⟨by decide, by decide⟩, by decide +kernel, by decide⟩
abbrev mX1_shorten : qM := (⟨"SaltOffice$Land", "shorten", "(III)V"⟩, prog_3_method_13_code, 5, (Option.none : Option Jvm.ClassFile.FieldType))
set_option maxRecDepth 30000 in
theorem mmX1_shorten : q_mM (qGG D cA b E) mX1_shorten 3 := ⟨(q_t4 136 rfl rfl), by decide +kernel, (q_t1 7 (by decide +kernel) rfl), ⟨by decide, by decide⟩, by decide +kernel, by decide⟩
abbrev mX1_daysBetween : qM := (⟨"SaltOffice$Land", "daysBetween", "(II)I"⟩, prog_3_method_14_code, 3, (Option.some Jvm.ClassFile.FieldType.int))
set_option maxRecDepth 30000 in
theorem mmX1_daysBetween : q_mM (qGG D cA b E) mX1_daysBetween 2 := ⟨(q_t4 140 rfl rfl), by decide +kernel, (q_t1 7 (by decide +kernel) rfl), ⟨by decide, by decide⟩, by decide +kernel, by decide⟩
abbrev mX1_readFort : qM := (⟨"SaltOffice$Land", "readFort", "(LSaltOffice$Tape;)Z"⟩, prog_3_method_6_code, 2, (Option.some Jvm.ClassFile.FieldType.boolean))
set_option maxRecDepth 30000 in
theorem mmX1_readFort : q_mM (qGG D cA b E) mX1_readFort 1 := ⟨(q_t4 144 rfl rfl), by decide +kernel, (q_t1 7 (by decide +kernel) rfl), ⟨by decide, by decide⟩, by decide +kernel, by decide⟩
abbrev mX1_readName : qM := (⟨"SaltOffice$Land", "readName", "(LSaltOffice$Tape;)V"⟩, prog_3_method_10_code, 3, (Option.none : Option Jvm.ClassFile.FieldType))
set_option maxRecDepth 30000 in
theorem mmX1_readName : q_mM (qGG D cA b E) mX1_readName 1 := ⟨(q_t4 148 rfl rfl), by decide +kernel, (q_t1 7 (by decide +kernel) rfl), ⟨by decide, by decide⟩, by decide +kernel, by decide⟩
abbrev mX8_kind : qM := (⟨"SaltOffice$Tape", "kind", "()I"⟩, prog_10_method_13_code, 1, (Option.some Jvm.ClassFile.FieldType.int))
set_option maxRecDepth 30000 in
theorem mmX8_kind : q_mM (qGG D cA b E) mX8_kind 0 := ⟨(q_t4 152 rfl rfl), by decide +kernel, (q_t1 2 (by decide +kernel) rfl), ⟨by decide, by decide⟩, by decide +kernel, by decide⟩
abbrev mX8_value : qM := (⟨"SaltOffice$Tape", "value", "()I"⟩, prog_10_method_14_code, 1, (Option.some Jvm.ClassFile.FieldType.int))
set_option maxRecDepth 30000 in
theorem mmX8_value : q_mM (qGG D cA b E) mX8_value 0 := ⟨(q_t4 156 rfl rfl), by decide +kernel, (q_t1 2 (by decide +kernel) rfl), ⟨by decide, by decide⟩, by decide +kernel, by decide⟩
abbrev mX8_name : qM := (⟨"SaltOffice$Tape", "name", "()J"⟩, prog_10_method_15_code, 1, (Option.some Jvm.ClassFile.FieldType.long))
set_option maxRecDepth 30000 in
theorem mmX8_name : q_mM (qGG D cA b E) mX8_name 0 := ⟨(q_t4 161 rfl rfl), by decide +kernel, (q_t1 2 (by decide +kernel) rfl), ⟨by decide, by decide⟩, by decide +kernel, by decide⟩
abbrev mX1_readSite : qM := (⟨"SaltOffice$Land", "readSite", "(LSaltOffice$Tape;)I"⟩, prog_3_method_11_code, 2, (Option.some Jvm.ClassFile.FieldType.int))
set_option maxRecDepth 30000 in
theorem mmX1_readSite : q_mM (qGG D cA b E) mX1_readSite 1 := ⟨(q_t4 165 rfl rfl), by decide +kernel, (q_t1 7 (by decide +kernel) rfl), ⟨by decide, by decide⟩, by decide +kernel, by decide⟩
abbrev mX8_takeNumberBehind : qM := (⟨"SaltOffice$Tape", "takeNumberBehind", "(III)I"⟩, prog_10_method_25_code, 4, (Option.some Jvm.ClassFile.FieldType.int))
set_option maxRecDepth 30000 in
theorem mmX8_takeNumberBehind : q_mM (qGG D cA b E) mX8_takeNumberBehind 3 := ⟨(q_t4 170 rfl rfl), by decide +kernel, (q_t1 2 (by decide +kernel) rfl), ⟨by decide, by decide⟩, by decide +kernel, by decide⟩
abbrev mX1_readPan : qM := (⟨"SaltOffice$Land", "readPan", "(LSaltOffice$Tape;)Z"⟩, prog_3_method_7_code, 4, (Option.some Jvm.ClassFile.FieldType.boolean))
set_option maxRecDepth 30000 in
theorem mmX1_readPan : q_mM (qGG D cA b E) mX1_readPan 1 := ⟨(q_t4 176 rfl rfl), by decide +kernel, (q_t1 7 (by decide +kernel) rfl), ⟨by decide, by decide⟩, by decide +kernel, by decide⟩
abbrev mX1_readDistrict : qM := (⟨"SaltOffice$Land", "readDistrict", "(LSaltOffice$Tape;)V"⟩, prog_3_method_8_code, 3, (Option.none : Option Jvm.ClassFile.FieldType))
set_option maxRecDepth 30000 in
theorem mmX1_readDistrict : q_mM (qGG D cA b E) mX1_readDistrict 1 := ⟨(q_t4 181 rfl rfl), by decide +kernel, (q_t1 7 (by decide +kernel) rfl), ⟨by decide, by decide⟩, by decide +kernel, by decide⟩
abbrev mX1_serves : qM := (⟨"SaltOffice$Land", "serves", "(II)Z"⟩, prog_3_method_15_code, 3, (Option.some Jvm.ClassFile.FieldType.boolean))
set_option maxRecDepth 30000 in
theorem mmX1_serves : q_mM (qGG D cA b E) mX1_serves 2 := ⟨(q_t4 186 rfl rfl), by decide +kernel, (q_t1 7 (by decide +kernel) rfl), ⟨by decide, by decide⟩, by decide +kernel, by decide⟩
abbrev mX1_readTown : qM := (⟨"SaltOffice$Land", "readTown", "(LSaltOffice$Tape;)Z"⟩, prog_3_method_9_code, 2, (Option.some Jvm.ClassFile.FieldType.boolean))
set_option maxRecDepth 30000 in
theorem mmX1_readTown : q_mM (qGG D cA b E) mX1_readTown 1 := ⟨(q_t4 190 rfl rfl), by decide +kernel, (q_t1 7 (by decide +kernel) rfl), ⟨by decide, by decide⟩, by decide +kernel, by decide⟩
abbrev mX1_shortenWays : qM := (⟨"SaltOffice$Land", "shortenWays", "()V"⟩, prog_3_method_12_code, 6, (Option.none : Option Jvm.ClassFile.FieldType))
set_option maxRecDepth 30000 in
theorem mmX1_shortenWays : q_mM (qGG D cA b E) mX1_shortenWays 0 := ⟨(q_t4 194 rfl rfl), by decide +kernel, (q_t1 7 (by decide +kernel) rfl), ⟨by decide, by decide⟩, by decide +kernel, by decide⟩
abbrev mX11_reform : qM := (⟨"SaltOffice", "reform", "(I)I"⟩, prog_1_method_5_code, 5, (Option.some Jvm.ClassFile.FieldType.int))
set_option maxRecDepth 30000 in
theorem mmX11_reform : q_mM (qGG D cA b E) mX11_reform 1 := ⟨(q_t4 198 rfl rfl), by decide +kernel, (q_t1 1 (by decide +kernel) rfl), ⟨by decide, by decide⟩, by decide +kernel, by decide⟩
abbrev mX6_read : qM := (⟨"SaltOffice$Reform", "read", "(LSaltOffice$Tape;)Z"⟩, prog_8_method_4_code, 3, (Option.some Jvm.ClassFile.FieldType.boolean))
set_option maxRecDepth 30000 in
theorem mmX6_read : q_mM (qGG D cA b E) mX6_read 1 := ⟨(q_t4 202 rfl rfl), by decide +kernel, (q_t1 9 (by decide +kernel) rfl), ⟨by decide, by decide⟩, by decide +kernel, by decide⟩
abbrev mX6_clear : qM := (⟨"SaltOffice$Reform", "clear", "()V"⟩, prog_8_method_2_code, 1, (Option.none : Option Jvm.ClassFile.FieldType))
set_option maxRecDepth 30000 in
theorem mmX6_clear : q_mM (qGG D cA b E) mX6_clear 0 := ⟨(q_t4 206 rfl rfl), by decide +kernel, (q_t1 9 (by decide +kernel) rfl), ⟨by decide, by decide⟩, by decide +kernel, by decide⟩
abbrev mX6_readLine : qM := (⟨"SaltOffice$Reform", "readLine", "(LSaltOffice$Tape;)Z"⟩, prog_8_method_5_code, 2, (Option.some Jvm.ClassFile.FieldType.boolean))
set_option maxRecDepth 30000 in
theorem mmX6_readLine : q_mM (qGG D cA b E) mX6_readLine 1 := ⟨(q_t4 213 rfl rfl), by decide +kernel, (q_t1 9 (by decide +kernel) rfl), ⟨by decide, by decide⟩, by decide +kernel, by decide⟩
abbrev mX6_freeSlot : qM := (⟨"SaltOffice$Reform", "freeSlot", "(LSaltOffice$Tape;)I"⟩, prog_8_method_6_code, 3, (Option.some Jvm.ClassFile.FieldType.int))
set_option maxRecDepth 30000 in
theorem mmX6_freeSlot : q_mM (qGG D cA b E) mX6_freeSlot 1 := ⟨(q_t4 217 rfl rfl), by decide +kernel, (q_t1 9 (by decide +kernel) rfl), ⟨by decide, by decide⟩, by decide +kernel, by decide⟩
abbrev mX6_readEither : qM := (⟨"SaltOffice$Reform", "readEither", "(LSaltOffice$Tape;I)V"⟩, prog_8_method_7_code, 4, (Option.none : Option Jvm.ClassFile.FieldType))
set_option maxRecDepth 30000 in
theorem mmX6_readEither : q_mM (qGG D cA b E) mX6_readEither 2 := ⟨(q_t4 225 rfl rfl), by decide +kernel, (q_t1 9 (by decide +kernel) rfl), ⟨by decide, by decide⟩, by decide +kernel, by decide⟩
abbrev mX6_readBoth : qM := (⟨"SaltOffice$Reform", "readBoth", "(LSaltOffice$Tape;I)V"⟩, prog_8_method_8_code, 4, (Option.none : Option Jvm.ClassFile.FieldType))
set_option maxRecDepth 30000 in
theorem mmX6_readBoth : q_mM (qGG D cA b E) mX6_readBoth 2 := ⟨(q_t4 229 rfl rfl), by decide +kernel, (q_t1 9 (by decide +kernel) rfl), ⟨by decide, by decide⟩, by decide +kernel, by decide⟩
abbrev mX6_readOne : qM := (⟨"SaltOffice$Reform", "readOne", "(LSaltOffice$Tape;I)V"⟩, prog_8_method_9_code, 4, (Option.none : Option Jvm.ClassFile.FieldType))
set_option maxRecDepth 30000 in
theorem mmX6_readOne : q_mM (qGG D cA b E) mX6_readOne 2 := ⟨(q_t4 233 rfl rfl), by decide +kernel, (q_t1 9 (by decide +kernel) rfl), ⟨by decide, by decide⟩, by decide +kernel, by decide⟩
abbrev mX6_emit : qM := (⟨"SaltOffice$Reform", "emit", "(I)V"⟩, prog_8_method_15_code, 2, (Option.none : Option Jvm.ClassFile.FieldType))
set_option maxRecDepth 30000 in
theorem mmX6_emit : q_mM (qGG D cA b E) mX6_emit 1 := ⟨(q_t4 238 rfl rfl), by decide +kernel, (q_t1 9 (by decide +kernel) rfl), ⟨by decide, by decide⟩, by decide +kernel, by decide⟩
abbrev mX6_readSum : qM := (⟨"SaltOffice$Reform", "readSum", "(LSaltOffice$Tape;I)V"⟩, prog_8_method_10_code, 5, (Option.none : Option Jvm.ClassFile.FieldType))
set_option maxRecDepth 30000 in
theorem mmX6_readSum : q_mM (qGG D cA b E) mX6_readSum 2 := ⟨(q_t5 2 rfl rfl), by decide +kernel, (q_t1 9 (by decide +kernel) rfl), ⟨by decide, by decide⟩, by decide +kernel, by decide⟩
abbrev mX6_readTerm : qM := (⟨"SaltOffice$Reform", "readTerm", "(LSaltOffice$Tape;I)V"⟩, prog_8_method_11_code, 5, (Option.none : Option Jvm.ClassFile.FieldType))
set_option maxRecDepth 30000 in
theorem mmX6_readTerm : q_mM (qGG D cA b E) mX6_readTerm 2 := ⟨(q_t5 6 rfl rfl), by decide +kernel, (q_t1 9 (by decide +kernel) rfl), ⟨by decide, by decide⟩, by decide +kernel, by decide⟩
abbrev mX6_readUnit : qM := (⟨"SaltOffice$Reform", "readUnit", "(LSaltOffice$Tape;I)V"⟩, prog_8_method_12_code, 5, (Option.none : Option Jvm.ClassFile.FieldType))
set_option maxRecDepth 30000 in
theorem mmX6_readUnit : q_mM (qGG D cA b E) mX6_readUnit 2 := ⟨(q_t5 10 rfl rfl), by decide +kernel, (q_t1 9 (by decide +kernel) rfl), ⟨by decide, by decide⟩, by decide +kernel, by decide⟩
abbrev mX6_isAsked : qM := (⟨"SaltOffice$Reform", "isAsked", "(I)Z"⟩, prog_8_method_13_code, 1, (Option.some Jvm.ClassFile.FieldType.boolean))
set_option maxRecDepth 30000 in
theorem mmX6_isAsked : q_mM (qGG D cA b E) mX6_isAsked 1 := ⟨(q_t5 14 rfl rfl), by decide +kernel, (q_t1 9 (by decide +kernel) rfl), ⟨by decide, by decide⟩, by decide +kernel, by decide⟩
abbrev mX6_mayAsk : qM := (⟨"SaltOffice$Reform", "mayAsk", "(I)Z"⟩, prog_8_method_14_code, 2, (Option.some Jvm.ClassFile.FieldType.boolean))
set_option maxRecDepth 30000 in
theorem mmX6_mayAsk : q_mM (qGG D cA b E) mX6_mayAsk 1 := ⟨(q_t5 19 rfl rfl), by decide +kernel, (q_t1 9 (by decide +kernel) rfl), ⟨by decide, by decide⟩, by decide +kernel, by decide⟩
abbrev mX11_fault : qM := (⟨"SaltOffice", "fault", "(I)I"⟩, prog_1_method_6_code, 2, (Option.some Jvm.ClassFile.FieldType.int))
set_option maxRecDepth 30000 in
theorem mmX11_fault : q_mM (qGG D cA b E) mX11_fault 1 := ⟨(q_t5 25 rfl rfl), by decide +kernel, (q_t1 1 (by decide +kernel) rfl), ⟨by decide, by decide⟩, by decide +kernel, by decide⟩
abbrev mX11_days : qM := (⟨"SaltOffice", "days", "(II)I"⟩, prog_1_method_7_code, 3, (Option.some Jvm.ClassFile.FieldType.int))
set_option maxRecDepth 30000 in
theorem mmX11_days : q_mM (qGG D cA b E) mX11_days 2 := ⟨(q_t5 29 rfl rfl), by decide +kernel, (q_t1 1 (by decide +kernel) rfl), ⟨by decide, by decide⟩, by decide +kernel, by decide⟩
abbrev mX11_merchant : qM := (⟨"SaltOffice", "merchant", "(I)I"⟩, prog_1_method_8_code, 2, (Option.some Jvm.ClassFile.FieldType.int))
set_option maxRecDepth 30000 in
theorem mmX11_merchant : q_mM (qGG D cA b E) mX11_merchant 1 := ⟨(q_t5 34 rfl rfl), by decide +kernel, (q_t1 1 (by decide +kernel) rfl), ⟨by decide, by decide⟩, by decide +kernel, by decide⟩
abbrev mX11_costs : qM := (⟨"SaltOffice", "costs", "(IIIII)Z"⟩, prog_1_method_9_code, 7, (Option.some Jvm.ClassFile.FieldType.boolean))
set_option maxRecDepth 30000 in
theorem mmX11_costs : q_mM (qGG D cA b E) mX11_costs 5 := ⟨(q_t5 38 rfl rfl), by decide +kernel, (q_t1 1 (by decide +kernel) rfl), ⟨by decide, by decide⟩, by decide +kernel, by decide⟩
abbrev mX11_within : qM := (⟨"SaltOffice", "within", "(III)Z"⟩, prog_1_method_30_code, 3, (Option.some Jvm.ClassFile.FieldType.boolean))
set_option maxRecDepth 30000 in
theorem mmX11_within : q_mM (qGG D cA b E) mX11_within 3 := ⟨(q_t5 41 rfl rfl), by decide +kernel, (q_t1 1 (by decide +kernel) rfl), ⟨by decide, by decide⟩, by decide +kernel, by decide⟩
abbrev mX11_weather : qM := (⟨"SaltOffice", "weather", "(III)I"⟩, prog_1_method_10_code, 4, (Option.some Jvm.ClassFile.FieldType.int))
set_option maxRecDepth 30000 in
theorem mmX11_weather : q_mM (qGG D cA b E) mX11_weather 3 := ⟨(q_t5 45 rfl rfl), by decide +kernel, (q_t1 1 (by decide +kernel) rfl), ⟨by decide, by decide⟩, by decide +kernel, by decide⟩
abbrev mX11_tellFact : qM := (⟨"SaltOffice", "tellFact", "(IIII)I"⟩, prog_1_method_13_code, 5, (Option.some Jvm.ClassFile.FieldType.int))
set_option maxRecDepth 30000 in
theorem mmX11_tellFact : q_mM (qGG D cA b E) mX11_tellFact 4 := ⟨(q_t5 49 rfl rfl), by decide +kernel, (q_t1 1 (by decide +kernel) rfl), ⟨by decide, by decide⟩, by decide +kernel, by decide⟩
abbrev mX0_add : qM := (⟨"SaltOffice$Facts", "add", "(IIIII)I"⟩, prog_2_method_2_code, 6, (Option.some Jvm.ClassFile.FieldType.int))
set_option maxRecDepth 30000 in
theorem mmX0_add : q_mM (qGG D cA b E) mX0_add 5 := ⟨(q_t5 53 rfl rfl), by decide +kernel, (q_t1 11 (by decide +kernel) rfl), ⟨by decide, by decide⟩, by decide +kernel, by decide⟩
abbrev mX11_forged : qM := (⟨"SaltOffice", "forged", "(II)I"⟩, prog_1_method_11_code, 3, (Option.some Jvm.ClassFile.FieldType.int))
set_option maxRecDepth 30000 in
theorem mmX11_forged : q_mM (qGG D cA b E) mX11_forged 2 := ⟨(q_t5 57 rfl rfl), by decide +kernel, (q_t1 1 (by decide +kernel) rfl), ⟨by decide, by decide⟩, by decide +kernel, by decide⟩
abbrev mX11_dead : qM := (⟨"SaltOffice", "dead", "(III)I"⟩, prog_1_method_12_code, 4, (Option.some Jvm.ClassFile.FieldType.int))
set_option maxRecDepth 30000 in
theorem mmX11_dead : q_mM (qGG D cA b E) mX11_dead 3 := ⟨(q_t5 61 rfl rfl), by decide +kernel, (q_t1 1 (by decide +kernel) rfl), ⟨by decide, by decide⟩, by decide +kernel, by decide⟩
abbrev mX11_untell : qM := (⟨"SaltOffice", "untell", "(I)Z"⟩, prog_1_method_14_code, 2, (Option.some Jvm.ClassFile.FieldType.boolean))
set_option maxRecDepth 30000 in
theorem mmX11_untell : q_mM (qGG D cA b E) mX11_untell 1 := ⟨(q_t5 65 rfl rfl), by decide +kernel, (q_t1 1 (by decide +kernel) rfl), ⟨by decide, by decide⟩, by decide +kernel, by decide⟩
abbrev mX11_later : qM := (⟨"SaltOffice", "later", "(I)I"⟩, prog_1_method_15_code, 2, (Option.some Jvm.ClassFile.FieldType.int))
set_option maxRecDepth 30000 in
theorem mmX11_later : q_mM (qGG D cA b E) mX11_later 1 := ⟨(q_t5 69 rfl rfl), by decide +kernel, (q_t1 1 (by decide +kernel) rfl), ⟨by decide, by decide⟩, by decide +kernel, by decide⟩
abbrev mX11_run : qM := (⟨"SaltOffice", "run", "(III)I"⟩, prog_1_method_16_code, 5, (Option.some Jvm.ClassFile.FieldType.int))
set_option maxRecDepth 30000 in
theorem mmX11_run : q_mM (qGG D cA b E) mX11_run 3 := ⟨(q_t5 74 rfl rfl), by decide +kernel, (q_t1 1 (by decide +kernel) rfl), ⟨by decide, by decide⟩, by decide +kernel, by decide⟩
abbrev mX11_shelfAt : qM := (⟨"SaltOffice", "shelfAt", "(I)LSaltOffice$Reform;"⟩, prog_1_method_27_code, 2, (Option.some (Jvm.ClassFile.FieldType.object "SaltOffice$Reform")))
set_option maxRecDepth 30000 in
theorem mmX11_shelfAt : q_mM (qGG D cA b E) mX11_shelfAt 1 := ⟨(q_t5 78 rfl rfl), by decide +kernel, (q_t1 1 (by decide +kernel) rfl), ⟨by decide, by decide⟩, by decide +kernel, by decide⟩
abbrev mX7_play : qM := (⟨"SaltOffice$Run", "play", "(LSaltOffice$Land;LSaltOffice$Trade;LSaltOffice$Reform;LSaltOffice$Facts;II)V"⟩, prog_9_method_2_code, 7, (Option.none : Option Jvm.ClassFile.FieldType))
set_option maxRecDepth 30000 in
theorem mmX7_play : q_mM (qGG D cA b E) mX7_play 6 := ⟨(q_t5 82 rfl rfl), by decide +kernel, (q_t1 12 (by decide +kernel) rfl), ⟨by decide, by decide⟩, by decide +kernel, by decide⟩
abbrev mX6_copyFrom : qM := (⟨"SaltOffice$Reform", "copyFrom", "(LSaltOffice$Reform;)V"⟩, prog_8_method_3_code, 2, (Option.none : Option Jvm.ClassFile.FieldType))
set_option maxRecDepth 30000 in
theorem mmX6_copyFrom : q_mM (qGG D cA b E) mX6_copyFrom 1 := ⟨(q_t5 86 rfl rfl), by decide +kernel, (q_t1 9 (by decide +kernel) rfl), ⟨by decide, by decide⟩, by decide +kernel, by decide⟩
abbrev mX7_begin : qM := (⟨"SaltOffice$Run", "begin", "(LSaltOffice$Facts;I)V"⟩, prog_9_method_3_code, 4, (Option.none : Option Jvm.ClassFile.FieldType))
set_option maxRecDepth 30000 in
theorem mmX7_begin : q_mM (qGG D cA b E) mX7_begin 2 := ⟨(q_t5 93 rfl rfl), by decide +kernel, (q_t1 12 (by decide +kernel) rfl), ⟨by decide, by decide⟩, by decide +kernel, by decide⟩
abbrev mX4_start : qM := (⟨"SaltOffice$Realm", "start", "(LSaltOffice$Land;)V"⟩, prog_6_method_2_code, 2, (Option.none : Option Jvm.ClassFile.FieldType))
set_option maxRecDepth 30000 in
theorem mmX4_start : q_mM (qGG D cA b E) mX4_start 1 := ⟨(q_t5 97 rfl rfl), by decide +kernel, (q_t1 13 (by decide +kernel) rfl), ⟨by decide, by decide⟩, by decide +kernel, by decide⟩
abbrev mX4_refillGrain : qM := (⟨"SaltOffice$Realm", "refillGrain", "(LSaltOffice$Land;)V"⟩, prog_6_method_3_code, 2, (Option.none : Option Jvm.ClassFile.FieldType))
set_option maxRecDepth 30000 in
theorem mmX4_refillGrain : q_mM (qGG D cA b E) mX4_refillGrain 1 := ⟨(q_t5 103 rfl rfl), by decide +kernel, (q_t1 13 (by decide +kernel) rfl), ⟨by decide, by decide⟩, by decide +kernel, by decide⟩
abbrev mX3_start : qM := (⟨"SaltOffice$Papers", "start", "(LSaltOffice$Facts;I)V"⟩, prog_5_method_2_code, 5, (Option.none : Option Jvm.ClassFile.FieldType))
set_option maxRecDepth 30000 in
theorem mmX3_start : q_mM (qGG D cA b E) mX3_start 2 := ⟨(q_t5 107 rfl rfl), by decide +kernel, (q_t1 14 (by decide +kernel) rfl), ⟨by decide, by decide⟩, by decide +kernel, by decide⟩
abbrev mX0_isKnown : qM := (⟨"SaltOffice$Facts", "isKnown", "(III)Z"⟩, prog_2_method_3_code, 4, (Option.some Jvm.ClassFile.FieldType.boolean))
set_option maxRecDepth 30000 in
theorem mmX0_isKnown : q_mM (qGG D cA b E) mX0_isKnown 3 := ⟨(q_t5 113 rfl rfl), by decide +kernel, (q_t1 11 (by decide +kernel) rfl), ⟨by decide, by decide⟩, by decide +kernel, by decide⟩
abbrev mX2_start : qM := (⟨"SaltOffice$Loads", "start", "()V"⟩, prog_4_method_2_code, 1, (Option.none : Option Jvm.ClassFile.FieldType))
set_option maxRecDepth 30000 in
theorem mmX2_start : q_mM (qGG D cA b E) mX2_start 0 := ⟨(q_t5 118 rfl rfl), by decide +kernel, (q_t1 15 (by decide +kernel) rfl), ⟨by decide, by decide⟩, by decide +kernel, by decide⟩
abbrev mJ7_fill_d0a16 : qM := (⟨"java/util/Arrays", "fill", "([JJ)V"⟩, prog_22_method_101_code, 5, (Option.none : Option Jvm.ClassFile.FieldType))
set_option maxRecDepth 30000 in
theorem mmJ7_fill_d0a16 : q_mM (qGG D cA b E) mJ7_fill_d0a16 2 := ⟨(q_t5 121 rfl rfl), by decide +kernel, (q_t1 8 (by decide +kernel) rfl), ⟨by decide, by decide⟩, by decide +kernel, by decide⟩
abbrev mX7_readDeaths : qM := (⟨"SaltOffice$Run", "readDeaths", "(LSaltOffice$Facts;I)V"⟩, prog_9_method_4_code, 5, (Option.none : Option Jvm.ClassFile.FieldType))
set_option maxRecDepth 30000 in
theorem mmX7_readDeaths : q_mM (qGG D cA b E) mX7_readDeaths 2 := ⟨(q_t5 126 rfl rfl), by decide +kernel, (q_t1 12 (by decide +kernel) rfl), ⟨by decide, by decide⟩, by decide +kernel, by decide⟩
abbrev mX3_loseForged : qM := (⟨"SaltOffice$Papers", "loseForged", "(I)V"⟩, prog_5_method_8_code, 3, (Option.none : Option Jvm.ClassFile.FieldType))
set_option maxRecDepth 30000 in
theorem mmX3_loseForged : q_mM (qGG D cA b E) mX3_loseForged 1 := ⟨(q_t5 132 rfl rfl), by decide +kernel, (q_t1 14 (by decide +kernel) rfl), ⟨by decide, by decide⟩, by decide +kernel, by decide⟩
abbrev mX3_lose : qM := (⟨"SaltOffice$Papers", "lose", "(I)V"⟩, prog_5_method_6_code, 2, (Option.none : Option Jvm.ClassFile.FieldType))
set_option maxRecDepth 30000 in
theorem mmX3_lose : q_mM (qGG D cA b E) mX3_lose 1 := ⟨(q_t5 136 rfl rfl), by decide +kernel, (q_t1 14 (by decide +kernel) rfl), ⟨by decide, by decide⟩, by decide +kernel, by decide⟩
abbrev mX3_isWaiting : qM := (⟨"SaltOffice$Papers", "isWaiting", "(I)Z"⟩, prog_5_method_4_code, 2, (Option.some Jvm.ClassFile.FieldType.boolean))
set_option maxRecDepth 30000 in
theorem mmX3_isWaiting : q_mM (qGG D cA b E) mX3_isWaiting 1 := ⟨(q_t5 140 rfl rfl), by decide +kernel, (q_t1 14 (by decide +kernel) rfl), ⟨by decide, by decide⟩, by decide +kernel, by decide⟩
abbrev mX3_stopWaiting : qM := (⟨"SaltOffice$Papers", "stopWaiting", "(I)V"⟩, prog_5_method_5_code, 2, (Option.none : Option Jvm.ClassFile.FieldType))
set_option maxRecDepth 30000 in
theorem mmX3_stopWaiting : q_mM (qGG D cA b E) mX3_stopWaiting 1 := ⟨(q_t5 144 rfl rfl), by decide +kernel, (q_t1 14 (by decide +kernel) rfl), ⟨by decide, by decide⟩, by decide +kernel, by decide⟩
abbrev mX7_buryDead : qM := (⟨"SaltOffice$Run", "buryDead", "()V"⟩, prog_9_method_7_code, 2, (Option.none : Option Jvm.ClassFile.FieldType))
set_option maxRecDepth 30000 in
theorem mmX7_buryDead : q_mM (qGG D cA b E) mX7_buryDead 0 := ⟨(q_t5 148 rfl rfl), by decide +kernel, (q_t1 12 (by decide +kernel) rfl), ⟨by decide, by decide⟩, by decide +kernel, by decide⟩
abbrev mX7_bury : qM := (⟨"SaltOffice$Run", "bury", "(I)V"⟩, prog_9_method_8_code, 4, (Option.none : Option Jvm.ClassFile.FieldType))
set_option maxRecDepth 30000 in
theorem mmX7_bury : q_mM (qGG D cA b E) mX7_bury 1 := ⟨(q_t5 152 rfl rfl), by decide +kernel, (q_t1 12 (by decide +kernel) rfl), ⟨by decide, by decide⟩, by decide +kernel, by decide⟩
abbrev mX7_isDead : qM := (⟨"SaltOffice$Run", "isDead", "(I)Z"⟩, prog_9_method_6_code, 2, (Option.some Jvm.ClassFile.FieldType.boolean))
set_option maxRecDepth 30000 in
theorem mmX7_isDead : q_mM (qGG D cA b E) mX7_isDead 1 := ⟨(q_t5 156 rfl rfl), by decide +kernel, (q_t1 12 (by decide +kernel) rfl), ⟨by decide, by decide⟩, by decide +kernel, by decide⟩
abbrev mX7_payTo : qM := (⟨"SaltOffice$Run", "payTo", "(IJ)V"⟩, prog_9_method_9_code, 4, (Option.none : Option Jvm.ClassFile.FieldType))
set_option maxRecDepth 30000 in
theorem mmX7_payTo : q_mM (qGG D cA b E) mX7_payTo 2 := ⟨(q_t5 160 rfl rfl), by decide +kernel, (q_t1 12 (by decide +kernel) rfl), ⟨by decide, by decide⟩, by decide +kernel, by decide⟩
abbrev mX3_leaveTo : qM := (⟨"SaltOffice$Papers", "leaveTo", "(II)V"⟩, prog_5_method_9_code, 5, (Option.none : Option Jvm.ClassFile.FieldType))
set_option maxRecDepth 30000 in
theorem mmX3_leaveTo : q_mM (qGG D cA b E) mX3_leaveTo 2 := ⟨(q_t5 164 rfl rfl), by decide +kernel, (q_t1 14 (by decide +kernel) rfl), ⟨by decide, by decide⟩, by decide +kernel, by decide⟩
abbrev mX2_leaveTo : qM := (⟨"SaltOffice$Loads", "leaveTo", "(II)V"⟩, prog_4_method_6_code, 4, (Option.none : Option Jvm.ClassFile.FieldType))
set_option maxRecDepth 30000 in
theorem mmX2_leaveTo : q_mM (qGG D cA b E) mX2_leaveTo 2 := ⟨(q_t5 168 rfl rfl), by decide +kernel, (q_t1 15 (by decide +kernel) rfl), ⟨by decide, by decide⟩, by decide +kernel, by decide⟩
abbrev mX7_makeSalt : qM := (⟨"SaltOffice$Run", "makeSalt", "(LSaltOffice$Facts;I)V"⟩, prog_9_method_10_code, 5, (Option.none : Option Jvm.ClassFile.FieldType))
set_option maxRecDepth 30000 in
theorem mmX7_makeSalt : q_mM (qGG D cA b E) mX7_makeSalt 2 := ⟨(q_t5 172 rfl rfl), by decide +kernel, (q_t1 12 (by decide +kernel) rfl), ⟨by decide, by decide⟩, by decide +kernel, by decide⟩
abbrev mX0_saltByWeather : qM := (⟨"SaltOffice$Facts", "saltByWeather", "(IIII)I"⟩, prog_2_method_4_code, 9, (Option.some Jvm.ClassFile.FieldType.int))
set_option maxRecDepth 30000 in
theorem mmX0_saltByWeather : q_mM (qGG D cA b E) mX0_saltByWeather 4 := ⟨(q_t5 176 rfl rfl), by decide +kernel, (q_t1 11 (by decide +kernel) rfl), ⟨by decide, by decide⟩, by decide +kernel, by decide⟩
abbrev mJ9_min_f86c9 : qM := (⟨"java/lang/Math", "min", "(JJ)J"⟩, prog_17_method_70_code, 4, (Option.some Jvm.ClassFile.FieldType.long))
abbrev mX7_tellMonth : qM := (⟨"SaltOffice$Run", "tellMonth", "()V"⟩, prog_9_method_11_code, 3, (Option.none : Option Jvm.ClassFile.FieldType))
set_option maxRecDepth 30000 in
theorem mmX7_tellMonth : q_mM (qGG D cA b E) mX7_tellMonth 0 := ⟨(q_t5 186 rfl rfl), by decide +kernel, (q_t1 12 (by decide +kernel) rfl), ⟨by decide, by decide⟩, by decide +kernel, by decide⟩
abbrev mX7_askCommon : qM := (⟨"SaltOffice$Run", "askCommon", "()V"⟩, prog_9_method_12_code, 1, (Option.none : Option Jvm.ClassFile.FieldType))
set_option maxRecDepth 30000 in
theorem mmX7_askCommon : q_mM (qGG D cA b E) mX7_askCommon 0 := ⟨(q_t5 190 rfl rfl), by decide +kernel, (q_t1 12 (by decide +kernel) rfl), ⟨by decide, by decide⟩, by decide +kernel, by decide⟩
abbrev mX4_allSalt : qM := (⟨"SaltOffice$Realm", "allSalt", "(I)I"⟩, prog_6_method_4_code, 4, (Option.some Jvm.ClassFile.FieldType.int))
set_option maxRecDepth 30000 in
theorem mmX4_allSalt : q_mM (qGG D cA b E) mX4_allSalt 1 := ⟨(q_t5 194 rfl rfl), by decide +kernel, (q_t1 13 (by decide +kernel) rfl), ⟨by decide, by decide⟩, by decide +kernel, by decide⟩
abbrev mX6_tell : qM := (⟨"SaltOffice$Reform", "tell", "(I[I)I"⟩, prog_8_method_16_code, 6, (Option.some Jvm.ClassFile.FieldType.int))
set_option maxRecDepth 30000 in
theorem mmX6_tell : q_mM (qGG D cA b E) mX6_tell 2 := ⟨(q_t5 198 rfl rfl), by decide +kernel, (q_t1 9 (by decide +kernel) rfl), ⟨by decide, by decide⟩, by decide +kernel, by decide⟩
abbrev mX6_isJoint : qM := (⟨"SaltOffice$Reform", "isJoint", "(I)Z"⟩, prog_8_method_17_code, 1, (Option.some Jvm.ClassFile.FieldType.boolean))
set_option maxRecDepth 30000 in
theorem mmX6_isJoint : q_mM (qGG D cA b E) mX6_isJoint 1 := ⟨(q_t5 201 rfl rfl), by decide +kernel, (q_t1 9 (by decide +kernel) rfl), ⟨by decide, by decide⟩, by decide +kernel, by decide⟩
abbrev mX6_join : qM := (⟨"SaltOffice$Reform", "join", "(III)I"⟩, prog_8_method_18_code, 3, (Option.some Jvm.ClassFile.FieldType.int))
set_option maxRecDepth 30000 in
theorem mmX6_join : q_mM (qGG D cA b E) mX6_join 3 := ⟨(q_t5 204 rfl rfl), by decide +kernel, (q_t1 9 (by decide +kernel) rfl), ⟨by decide, by decide⟩, by decide +kernel, by decide⟩
abbrev mX7_bringLoads : qM := (⟨"SaltOffice$Run", "bringLoads", "()V"⟩, prog_9_method_14_code, 2, (Option.none : Option Jvm.ClassFile.FieldType))
set_option maxRecDepth 30000 in
theorem mmX7_bringLoads : q_mM (qGG D cA b E) mX7_bringLoads 0 := ⟨(q_t5 211 rfl rfl), by decide +kernel, (q_t1 12 (by decide +kernel) rfl), ⟨by decide, by decide⟩, by decide +kernel, by decide⟩
abbrev mX7_bringGrain : qM := (⟨"SaltOffice$Run", "bringGrain", "(I)V"⟩, prog_9_method_15_code, 2, (Option.none : Option Jvm.ClassFile.FieldType))
set_option maxRecDepth 30000 in
theorem mmX7_bringGrain : q_mM (qGG D cA b E) mX7_bringGrain 1 := ⟨(q_t5 215 rfl rfl), by decide +kernel, (q_t1 12 (by decide +kernel) rfl), ⟨by decide, by decide⟩, by decide +kernel, by decide⟩
abbrev mX3_give : qM := (⟨"SaltOffice$Papers", "give", "(IIIIII)V"⟩, prog_5_method_3_code, 8, (Option.none : Option Jvm.ClassFile.FieldType))
set_option maxRecDepth 30000 in
theorem mmX3_give : q_mM (qGG D cA b E) mX3_give 6 := ⟨(q_t5 219 rfl rfl), by decide +kernel, (q_t1 14 (by decide +kernel) rfl), ⟨by decide, by decide⟩, by decide +kernel, by decide⟩
abbrev mX7_sellSalt : qM := (⟨"SaltOffice$Run", "sellSalt", "(I)V"⟩, prog_9_method_16_code, 6, (Option.none : Option Jvm.ClassFile.FieldType))
set_option maxRecDepth 30000 in
theorem mmX7_sellSalt : q_mM (qGG D cA b E) mX7_sellSalt 1 := ⟨(q_t5 223 rfl rfl), by decide +kernel, (q_t1 12 (by decide +kernel) rfl), ⟨by decide, by decide⟩, by decide +kernel, by decide⟩
abbrev mX4_priceIn : qM := (⟨"SaltOffice$Realm", "priceIn", "(LSaltOffice$Land;I)I"⟩, prog_6_method_5_code, 7, (Option.some Jvm.ClassFile.FieldType.int))
set_option maxRecDepth 30000 in
theorem mmX4_priceIn : q_mM (qGG D cA b E) mX4_priceIn 2 := ⟨(q_t5 227 rfl rfl), by decide +kernel, (q_t1 13 (by decide +kernel) rfl), ⟨by decide, by decide⟩, by decide +kernel, by decide⟩
abbrev mJ9_max_f86c9 : qM := (⟨"java/lang/Math", "max", "(JJ)J"⟩, prog_17_method_66_code, 4, (Option.some Jvm.ClassFile.FieldType.long))
abbrev mX2_forgetCome : qM := (⟨"SaltOffice$Loads", "forgetCome", "(I)V"⟩, prog_4_method_7_code, 2, (Option.none : Option Jvm.ClassFile.FieldType))
set_option maxRecDepth 30000 in
theorem mmX2_forgetCome : q_mM (qGG D cA b E) mX2_forgetCome 1 := ⟨(q_t5 235 rfl rfl), by decide +kernel, (q_t1 15 (by decide +kernel) rfl), ⟨by decide, by decide⟩, by decide +kernel, by decide⟩
abbrev mX7_drawPapers : qM := (⟨"SaltOffice$Run", "drawPapers", "()V"⟩, prog_9_method_17_code, 2, (Option.none : Option Jvm.ClassFile.FieldType))
set_option maxRecDepth 30000 in
theorem mmX7_drawPapers : q_mM (qGG D cA b E) mX7_drawPapers 0 := ⟨(q_t5 239 rfl rfl), by decide +kernel, (q_t1 12 (by decide +kernel) rfl), ⟨by decide, by decide⟩, by decide +kernel, by decide⟩
abbrev mX3_closeQueue : qM := (⟨"SaltOffice$Papers", "closeQueue", "()V"⟩, prog_5_method_10_code, 3, (Option.none : Option Jvm.ClassFile.FieldType))
set_option maxRecDepth 30000 in
theorem mmX3_closeQueue : q_mM (qGG D cA b E) mX3_closeQueue 0 := ⟨(q_t6 3 rfl rfl), by decide +kernel, (q_t1 14 (by decide +kernel) rfl), ⟨by decide, by decide⟩, by decide +kernel, by decide⟩
abbrev mX7_classAll : qM := (⟨"SaltOffice$Run", "classAll", "()V"⟩, prog_9_method_18_code, 4, (Option.none : Option Jvm.ClassFile.FieldType))
set_option maxRecDepth 30000 in
theorem mmX7_classAll : q_mM (qGG D cA b E) mX7_classAll 0 := ⟨(q_t6 7 rfl rfl), by decide +kernel, (q_t1 12 (by decide +kernel) rfl), ⟨by decide, by decide⟩, by decide +kernel, by decide⟩
abbrev mX7_drawAt : qM := (⟨"SaltOffice$Run", "drawAt", "(I)V"⟩, prog_9_method_19_code, 6, (Option.none : Option Jvm.ClassFile.FieldType))
set_option maxRecDepth 30000 in
theorem mmX7_drawAt : q_mM (qGG D cA b E) mX7_drawAt 1 := ⟨(q_t6 11 rfl rfl), by decide +kernel, (q_t1 12 (by decide +kernel) rfl), ⟨by decide, by decide⟩, by decide +kernel, by decide⟩
abbrev mX7_townFor : qM := (⟨"SaltOffice$Run", "townFor", "(I)I"⟩, prog_9_method_21_code, 7, (Option.some Jvm.ClassFile.FieldType.int))
set_option maxRecDepth 30000 in
theorem mmX7_townFor : q_mM (qGG D cA b E) mX7_townFor 1 := ⟨(q_t6 15 rfl rfl), by decide +kernel, (q_t1 12 (by decide +kernel) rfl), ⟨by decide, by decide⟩, by decide +kernel, by decide⟩
abbrev mX7_worthIn : qM := (⟨"SaltOffice$Run", "worthIn", "(III)J"⟩, prog_9_method_22_code, 7, (Option.some Jvm.ClassFile.FieldType.long))
set_option maxRecDepth 30000 in
theorem mmX7_worthIn : q_mM (qGG D cA b E) mX7_worthIn 3 := ⟨(q_t6 21 rfl rfl), by decide +kernel, (q_t1 12 (by decide +kernel) rfl), ⟨by decide, by decide⟩, by decide +kernel, by decide⟩
abbrev mX11_monthsOfWay : qM := (⟨"SaltOffice", "monthsOfWay", "(I)I"⟩, prog_1_method_29_code, 1, (Option.some Jvm.ClassFile.FieldType.int))
set_option maxRecDepth 30000 in
theorem mmX11_monthsOfWay : q_mM (qGG D cA b E) mX11_monthsOfWay 1 := ⟨(q_t6 24 rfl rfl), by decide +kernel, (q_t1 1 (by decide +kernel) rfl), ⟨by decide, by decide⟩, by decide +kernel, by decide⟩
abbrev mX7_drawPaper : qM := (⟨"SaltOffice$Run", "drawPaper", "(III)V"⟩, prog_9_method_20_code, 9, (Option.none : Option Jvm.ClassFile.FieldType))
set_option maxRecDepth 30000 in
theorem mmX7_drawPaper : q_mM (qGG D cA b E) mX7_drawPaper 3 := ⟨(q_t6 28 rfl rfl), by decide +kernel, (q_t1 12 (by decide +kernel) rfl), ⟨by decide, by decide⟩, by decide +kernel, by decide⟩
abbrev mX3_draw : qM := (⟨"SaltOffice$Papers", "draw", "(II)V"⟩, prog_5_method_7_code, 3, (Option.none : Option Jvm.ClassFile.FieldType))
set_option maxRecDepth 30000 in
theorem mmX3_draw : q_mM (qGG D cA b E) mX3_draw 2 := ⟨(q_t6 32 rfl rfl), by decide +kernel, (q_t1 14 (by decide +kernel) rfl), ⟨by decide, by decide⟩, by decide +kernel, by decide⟩
abbrev mX2_sendSalt : qM := (⟨"SaltOffice$Loads", "sendSalt", "(IIIII)V"⟩, prog_4_method_3_code, 6, (Option.none : Option Jvm.ClassFile.FieldType))
set_option maxRecDepth 30000 in
theorem mmX2_sendSalt : q_mM (qGG D cA b E) mX2_sendSalt 5 := ⟨(q_t6 37 rfl rfl), by decide +kernel, (q_t1 15 (by decide +kernel) rfl), ⟨by decide, by decide⟩, by decide +kernel, by decide⟩
end Links
