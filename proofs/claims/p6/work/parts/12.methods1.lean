/-! Methods and links: by program. -/
section Links
variable {D : va_G} {cA : FieldType → ClassId} {b : Nat} {E : State → Prop}
abbrev mOffice_init : qM := (⟨"SaltOffice", "<init>", "()V"⟩, prog_1_method_1_code, 2, (Option.none : Option Jvm.ClassFile.FieldType))
set_option maxRecDepth 30000 in
theorem mmOffice_init : q_mM (qGG D cA b E) mOffice_init 0 := ⟨(q_t1 27 rfl rfl), by decide +kernel, (q_t1 1 (by decide +kernel) rfl), ⟨by decide, by decide⟩, by decide +kernel, by decide⟩
abbrev mTape_init : qM := (⟨"SaltOffice$Tape", "<init>", "()V"⟩, prog_10_method_1_code, 5, (Option.none : Option Jvm.ClassFile.FieldType))
set_option maxRecDepth 30000 in
theorem mmTape_init : q_mM (qGG D cA b E) mTape_init 0 := ⟨(q_t1 35 rfl rfl), by decide +kernel, (q_t1 2 (by decide +kernel) rfl), ⟨by decide, by decide⟩, by decide +kernel, by decide⟩
abbrev mString_length_8abf5 : qM := (⟨"java/lang/String", "length", "()I"⟩, prog_18_method_54_code, 1, (Option.some Jvm.ClassFile.FieldType.int))
set_option maxRecDepth 30000 in
theorem mmString_length_8abf5 : q_mM (qGG D cA b E) mString_length_8abf5 0 := ⟨(q_t1 41 rfl rfl), by decide +kernel, (q_t1 3 (by decide +kernel) rfl), ⟨by decide, by decide⟩, by decide +kernel, by decide⟩
abbrev mString_coder_7d493 : qM := (⟨"java/lang/String", "coder", "()B"⟩, prog_18_method_152_code, 1, (Option.some Jvm.ClassFile.FieldType.byte))
set_option maxRecDepth 30000 in
theorem mmString_coder_7d493 : q_mM (qGG D cA b E) mString_coder_7d493 0 := ⟨(q_t1 45 rfl rfl), by decide +kernel, (q_t1 3 (by decide +kernel) rfl), ⟨by decide, by decide⟩, by decide +kernel, by decide⟩
abbrev mString_charAt_5068e : qM := (⟨"java/lang/String", "charAt", "(I)C"⟩, prog_18_method_56_code, 2, (Option.some Jvm.ClassFile.FieldType.char))
set_option maxRecDepth 30000 in
theorem mmString_charAt_5068e : q_mM (qGG D cA b E) mString_charAt_5068e 1 := ⟨(q_t1 51 rfl rfl), by decide +kernel, (q_t1 3 (by decide +kernel) rfl), ⟨by decide, by decide⟩, by decide +kernel, by decide⟩
abbrev mString_isLatin1_aae02 : qM := (⟨"java/lang/String", "isLatin1", "()Z"⟩, prog_18_method_154_code, 1, (Option.some Jvm.ClassFile.FieldType.boolean))
set_option maxRecDepth 30000 in
theorem mmString_isLatin1_aae02 : q_mM (qGG D cA b E) mString_isLatin1_aae02 0 := ⟨(q_t1 55 rfl rfl), by decide +kernel, (q_t1 3 (by decide +kernel) rfl), ⟨by decide, by decide⟩, by decide +kernel, by decide⟩
abbrev mStringLatin1_charAt_3b067 : qM := (⟨"java/lang/StringLatin1", "charAt", "([BI)C"⟩, prog_19_method_2_code, 2, (Option.some Jvm.ClassFile.FieldType.char))
set_option maxRecDepth 30000 in
theorem mmStringLatin1_charAt_3b067 : q_mM (qGG D cA b E) mStringLatin1_charAt_3b067 2 := ⟨(q_t1 58 rfl rfl), by decide +kernel, (q_t1 4 (by decide +kernel) rfl), ⟨by decide, by decide⟩, by decide +kernel, by decide⟩
abbrev mString_checkIndex_df160 : qM := (⟨"java/lang/String", "checkIndex", "(II)V"⟩, prog_18_method_155_code, 2, (Option.none : Option Jvm.ClassFile.FieldType))
set_option maxRecDepth 30000 in
theorem mmString_checkIndex_df160 : q_mM (qGG D cA b E) mString_checkIndex_df160 2 := ⟨(q_t1 61 rfl rfl), by decide +kernel, (q_t1 3 (by decide +kernel) rfl), ⟨by decide, by decide⟩, by decide +kernel, by decide⟩
abbrev mPreconditions_checkIndex_8e157 : qM := (⟨"jdk/internal/util/Preconditions", "checkIndex", "(IILjava/util/function/BiFunction;)I"⟩, prog_23_method_11_code, 3, (Option.some Jvm.ClassFile.FieldType.int))
set_option maxRecDepth 30000 in
theorem mmPreconditions_checkIndex_8e157 : q_mM (qGG D cA b E) mPreconditions_checkIndex_8e157 3 := ⟨(q_t1 66 rfl rfl), by decide +kernel, (q_t1 5 (by decide +kernel) rfl), ⟨by decide, by decide⟩, by decide +kernel, by decide⟩
abbrev mStringUTF16_charAt_3b067 : qM := (⟨"java/lang/StringUTF16", "charAt", "([BI)C"⟩, prog_20_method_83_code, 2, (Option.some Jvm.ClassFile.FieldType.char))
set_option maxRecDepth 30000 in
theorem mmStringUTF16_charAt_3b067 : q_mM (qGG D cA b E) mStringUTF16_charAt_3b067 2 := ⟨(q_t1 69 rfl rfl), by decide +kernel, (q_t1 6 (by decide +kernel) rfl), ⟨by decide, by decide⟩, by decide +kernel, by decide⟩
abbrev mStringUTF16_checkIndex_2214a : qM := (⟨"java/lang/StringUTF16", "checkIndex", "(I[B)V"⟩, prog_20_method_91_code, 2, (Option.none : Option Jvm.ClassFile.FieldType))
set_option maxRecDepth 30000 in
theorem mmStringUTF16_checkIndex_2214a : q_mM (qGG D cA b E) mStringUTF16_checkIndex_2214a 2 := ⟨(q_t1 72 rfl rfl), by decide +kernel, (q_t1 6 (by decide +kernel) rfl), ⟨by decide, by decide⟩, by decide +kernel, by decide⟩
abbrev mStringUTF16_length_9d52b : qM := (⟨"java/lang/StringUTF16", "length", "([B)I"⟩, prog_20_method_6_code, 1, (Option.some Jvm.ClassFile.FieldType.int))
set_option maxRecDepth 30000 in
theorem mmStringUTF16_length_9d52b : q_mM (qGG D cA b E) mStringUTF16_length_9d52b 1 := ⟨(q_t1 75 rfl rfl), by decide +kernel, (q_t1 6 (by decide +kernel) rfl), ⟨by decide, by decide⟩, by decide +kernel, by decide⟩
abbrev mStringUTF16_getChar_3b067 : qM := (⟨"java/lang/StringUTF16", "getChar", "([BI)C"⟩, prog_20_method_5_code, 2, (Option.some Jvm.ClassFile.FieldType.char))
set_option maxRecDepth 30000 in
theorem mmStringUTF16_getChar_3b067 : q_mM (qGG D cA b E) mStringUTF16_getChar_3b067 2 := ⟨(q_t1 79 rfl rfl), by decide +kernel, (q_t1 6 (by decide +kernel) rfl), ⟨by decide, by decide⟩, by decide +kernel, by decide⟩
abbrev mTape_isLetter : qM := (⟨"SaltOffice$Tape", "isLetter", "(I)Z"⟩, prog_10_method_10_code, 1, (Option.some Jvm.ClassFile.FieldType.boolean))
set_option maxRecDepth 30000 in
theorem mmTape_isLetter : q_mM (qGG D cA b E) mTape_isLetter 1 := ⟨(q_t1 88 rfl rfl), by decide +kernel, (q_t1 2 (by decide +kernel) rfl), ⟨by decide, by decide⟩, by decide +kernel, by decide⟩
abbrev mTape_withLetter : qM := (⟨"SaltOffice$Tape", "withLetter", "(JI)J"⟩, prog_10_method_12_code, 3, (Option.some Jvm.ClassFile.FieldType.long))
set_option maxRecDepth 30000 in
theorem mmTape_withLetter : q_mM (qGG D cA b E) mTape_withLetter 2 := ⟨(q_t1 91 rfl rfl), by decide +kernel, (q_t1 2 (by decide +kernel) rfl), ⟨by decide, by decide⟩, by decide +kernel, by decide⟩
abbrev mLand_init : qM := (⟨"SaltOffice$Land", "<init>", "()V"⟩, prog_3_method_1_code, 1, (Option.none : Option Jvm.ClassFile.FieldType))
set_option maxRecDepth 30000 in
theorem mmLand_init : q_mM (qGG D cA b E) mLand_init 0 := ⟨(q_t1 138 rfl rfl), by decide +kernel, (q_t1 7 (by decide +kernel) rfl), ⟨by decide, by decide⟩, by decide +kernel, by decide⟩
abbrev mLand_clear : qM := (⟨"SaltOffice$Land", "clear", "()V"⟩, prog_3_method_2_code, 2, (Option.none : Option Jvm.ClassFile.FieldType))
set_option maxRecDepth 30000 in
theorem mmLand_clear : q_mM (qGG D cA b E) mLand_clear 0 := ⟨(q_t1 143 rfl rfl), by decide +kernel, (q_t1 7 (by decide +kernel) rfl), ⟨by decide, by decide⟩, by decide +kernel, by decide⟩
abbrev mArrays_fill_53178 : qM := (⟨"java/util/Arrays", "fill", "([II)V"⟩, prog_22_method_103_code, 4, (Option.none : Option Jvm.ClassFile.FieldType))
set_option maxRecDepth 30000 in
theorem mmArrays_fill_53178 : q_mM (qGG D cA b E) mArrays_fill_53178 2 := ⟨(q_t1 146 rfl rfl), by decide +kernel, (q_t1 8 (by decide +kernel) rfl), ⟨by decide, by decide⟩, by decide +kernel, by decide⟩
abbrev mReform_init : qM := (⟨"SaltOffice$Reform", "<init>", "()V"⟩, prog_8_method_1_code, 1, (Option.none : Option Jvm.ClassFile.FieldType))
set_option maxRecDepth 30000 in
theorem mmReform_init : q_mM (qGG D cA b E) mReform_init 0 := ⟨(q_t2 3 rfl rfl), by decide +kernel, (q_t1 9 (by decide +kernel) rfl), ⟨by decide, by decide⟩, by decide +kernel, by decide⟩
abbrev mTrade_init : qM := (⟨"SaltOffice$Trade", "<init>", "()V"⟩, prog_11_method_1_code, 1, (Option.none : Option Jvm.ClassFile.FieldType))
set_option maxRecDepth 30000 in
theorem mmTrade_init : q_mM (qGG D cA b E) mTrade_init 0 := ⟨(q_t2 39 rfl rfl), by decide +kernel, (q_t1 10 (by decide +kernel) rfl), ⟨by decide, by decide⟩, by decide +kernel, by decide⟩
abbrev mFacts_init : qM := (⟨"SaltOffice$Facts", "<init>", "()V"⟩, prog_2_method_1_code, 1, (Option.none : Option Jvm.ClassFile.FieldType))
set_option maxRecDepth 30000 in
theorem mmFacts_init : q_mM (qGG D cA b E) mFacts_init 0 := ⟨(q_t2 83 rfl rfl), by decide +kernel, (q_t1 11 (by decide +kernel) rfl), ⟨by decide, by decide⟩, by decide +kernel, by decide⟩
abbrev mRun_init : qM := (⟨"SaltOffice$Run", "<init>", "()V"⟩, prog_9_method_1_code, 1, (Option.none : Option Jvm.ClassFile.FieldType))
set_option maxRecDepth 30000 in
theorem mmRun_init : q_mM (qGG D cA b E) mRun_init 0 := ⟨(q_t2 120 rfl rfl), by decide +kernel, (q_t1 12 (by decide +kernel) rfl), ⟨by decide, by decide⟩, by decide +kernel, by decide⟩
abbrev mRealm_init : qM := (⟨"SaltOffice$Realm", "<init>", "()V"⟩, prog_6_method_1_code, 1, (Option.none : Option Jvm.ClassFile.FieldType))
set_option maxRecDepth 30000 in
theorem mmRealm_init : q_mM (qGG D cA b E) mRealm_init 0 := ⟨(q_t2 132 rfl rfl), by decide +kernel, (q_t1 13 (by decide +kernel) rfl), ⟨by decide, by decide⟩, by decide +kernel, by decide⟩
abbrev mPapers_init : qM := (⟨"SaltOffice$Papers", "<init>", "()V"⟩, prog_5_method_1_code, 1, (Option.none : Option Jvm.ClassFile.FieldType))
set_option maxRecDepth 30000 in
theorem mmPapers_init : q_mM (qGG D cA b E) mPapers_init 0 := ⟨(q_t2 168 rfl rfl), by decide +kernel, (q_t1 14 (by decide +kernel) rfl), ⟨by decide, by decide⟩, by decide +kernel, by decide⟩
abbrev mLoads_init : qM := (⟨"SaltOffice$Loads", "<init>", "()V"⟩, prog_4_method_1_code, 1, (Option.none : Option Jvm.ClassFile.FieldType))
set_option maxRecDepth 30000 in
theorem mmLoads_init : q_mM (qGG D cA b E) mLoads_init 0 := ⟨(q_t2 233 rfl rfl), by decide +kernel, (q_t1 15 (by decide +kernel) rfl), ⟨by decide, by decide⟩, by decide +kernel, by decide⟩
abbrev mRecords_init : qM := (⟨"SaltOffice$Records", "<init>", "()V"⟩, prog_7_method_1_code, 1, (Option.none : Option Jvm.ClassFile.FieldType))
set_option maxRecDepth 30000 in
theorem mmRecords_init : q_mM (qGG D cA b E) mRecords_init 0 := ⟨(q_t3 40 rfl rfl), by decide +kernel, (q_t1 16 (by decide +kernel) rfl), ⟨by decide, by decide⟩, by decide +kernel, by decide⟩
abbrev mWay_init : qM := (⟨"SaltOffice$Way", "<init>", "()V"⟩, prog_12_method_1_code, 1, (Option.none : Option Jvm.ClassFile.FieldType))
set_option maxRecDepth 30000 in
theorem mmWay_init : q_mM (qGG D cA b E) mWay_init 0 := ⟨(q_t3 63 rfl rfl), by decide +kernel, (q_t1 17 (by decide +kernel) rfl), ⟨by decide, by decide⟩, by decide +kernel, by decide⟩
abbrev mOffice_feed : qM := (⟨"SaltOffice", "feed", "(IIIII)I"⟩, prog_1_method_2_code, 6, (Option.some Jvm.ClassFile.FieldType.int))
set_option maxRecDepth 30000 in
theorem mmOffice_feed : q_mM (qGG D cA b E) mOffice_feed 5 := ⟨(q_t3 216 rfl rfl), by decide +kernel, (q_t1 1 (by decide +kernel) rfl), ⟨by decide, by decide⟩, by decide +kernel, by decide⟩
abbrev mTape_append : qM := (⟨"SaltOffice$Tape", "append", "(I)V"⟩, prog_10_method_2_code, 3, (Option.none : Option Jvm.ClassFile.FieldType))
set_option maxRecDepth 30000 in
theorem mmTape_append : q_mM (qGG D cA b E) mTape_append 1 := ⟨(q_t3 220 rfl rfl), by decide +kernel, (q_t1 2 (by decide +kernel) rfl), ⟨by decide, by decide⟩, by decide +kernel, by decide⟩
abbrev mOffice_end : qM := (⟨"SaltOffice", "end", "(I)I"⟩, prog_1_method_3_code, 2, (Option.some Jvm.ClassFile.FieldType.int))
set_option maxRecDepth 30000 in
theorem mmOffice_end : q_mM (qGG D cA b E) mOffice_end 1 := ⟨(q_t3 224 rfl rfl), by decide +kernel, (q_t1 1 (by decide +kernel) rfl), ⟨by decide, by decide⟩, by decide +kernel, by decide⟩
abbrev mOffice_land : qM := (⟨"SaltOffice", "land", "()I"⟩, prog_1_method_4_code, 3, (Option.some Jvm.ClassFile.FieldType.int))
set_option maxRecDepth 30000 in
theorem mmOffice_land : q_mM (qGG D cA b E) mOffice_land 0 := ⟨(q_t3 228 rfl rfl), by decide +kernel, (q_t1 1 (by decide +kernel) rfl), ⟨by decide, by decide⟩, by decide +kernel, by decide⟩
abbrev mLand_read : qM := (⟨"SaltOffice$Land", "read", "(LSaltOffice$Tape;)Z"⟩, prog_3_method_3_code, 3, (Option.some Jvm.ClassFile.FieldType.boolean))
set_option maxRecDepth 30000 in
theorem mmLand_read : q_mM (qGG D cA b E) mLand_read 1 := ⟨(q_t3 232 rfl rfl), by decide +kernel, (q_t1 7 (by decide +kernel) rfl), ⟨by decide, by decide⟩, by decide +kernel, by decide⟩
abbrev mTape_startReading : qM := (⟨"SaltOffice$Tape", "startReading", "(Z)V"⟩, prog_10_method_3_code, 5, (Option.none : Option Jvm.ClassFile.FieldType))
set_option maxRecDepth 30000 in
theorem mmTape_startReading : q_mM (qGG D cA b E) mTape_startReading 1 := ⟨(q_t3 236 rfl rfl), by decide +kernel, (q_t1 2 (by decide +kernel) rfl), ⟨by decide, by decide⟩, by decide +kernel, by decide⟩
abbrev mTape_cutToken : qM := (⟨"SaltOffice$Tape", "cutToken", "(II)I"⟩, prog_10_method_4_code, 4, (Option.some Jvm.ClassFile.FieldType.int))
set_option maxRecDepth 30000 in
theorem mmTape_cutToken : q_mM (qGG D cA b E) mTape_cutToken 2 := ⟨(q_t4 0 rfl rfl), by decide +kernel, (q_t1 2 (by decide +kernel) rfl), ⟨by decide, by decide⟩, by decide +kernel, by decide⟩
abbrev mTape_byteAt : qM := (⟨"SaltOffice$Tape", "byteAt", "(I)I"⟩, prog_10_method_9_code, 2, (Option.some Jvm.ClassFile.FieldType.int))
set_option maxRecDepth 30000 in
theorem mmTape_byteAt : q_mM (qGG D cA b E) mTape_byteAt 1 := ⟨(q_t4 4 rfl rfl), by decide +kernel, (q_t1 2 (by decide +kernel) rfl), ⟨by decide, by decide⟩, by decide +kernel, by decide⟩
abbrev mTape_placeAt : qM := (⟨"SaltOffice$Tape", "placeAt", "(I)I"⟩, prog_10_method_6_code, 5, (Option.some Jvm.ClassFile.FieldType.int))
set_option maxRecDepth 30000 in
theorem mmTape_placeAt : q_mM (qGG D cA b E) mTape_placeAt 1 := ⟨(q_t4 8 rfl rfl), by decide +kernel, (q_t1 2 (by decide +kernel) rfl), ⟨by decide, by decide⟩, by decide +kernel, by decide⟩
abbrev mTape_isDigit : qM := (⟨"SaltOffice$Tape", "isDigit", "(I)Z"⟩, prog_10_method_11_code, 1, (Option.some Jvm.ClassFile.FieldType.boolean))
set_option maxRecDepth 30000 in
theorem mmTape_isDigit : q_mM (qGG D cA b E) mTape_isDigit 1 := ⟨(q_t4 11 rfl rfl), by decide +kernel, (q_t1 2 (by decide +kernel) rfl), ⟨by decide, by decide⟩, by decide +kernel, by decide⟩
abbrev mTape_cutPlace : qM := (⟨"SaltOffice$Tape", "cutPlace", "(II)I"⟩, prog_10_method_5_code, 3, (Option.some Jvm.ClassFile.FieldType.int))
set_option maxRecDepth 30000 in
theorem mmTape_cutPlace : q_mM (qGG D cA b E) mTape_cutPlace 2 := ⟨(q_t4 15 rfl rfl), by decide +kernel, (q_t1 2 (by decide +kernel) rfl), ⟨by decide, by decide⟩, by decide +kernel, by decide⟩
abbrev mTape_cutWord : qM := (⟨"SaltOffice$Tape", "cutWord", "(II)I"⟩, prog_10_method_7_code, 7, (Option.some Jvm.ClassFile.FieldType.int))
set_option maxRecDepth 30000 in
theorem mmTape_cutWord : q_mM (qGG D cA b E) mTape_cutWord 2 := ⟨(q_t4 19 rfl rfl), by decide +kernel, (q_t1 2 (by decide +kernel) rfl), ⟨by decide, by decide⟩, by decide +kernel, by decide⟩
abbrev mTape_cutNumber : qM := (⟨"SaltOffice$Tape", "cutNumber", "(II)I"⟩, prog_10_method_8_code, 5, (Option.some Jvm.ClassFile.FieldType.int))
set_option maxRecDepth 30000 in
theorem mmTape_cutNumber : q_mM (qGG D cA b E) mTape_cutNumber 2 := ⟨(q_t4 23 rfl rfl), by decide +kernel, (q_t1 2 (by decide +kernel) rfl), ⟨by decide, by decide⟩, by decide +kernel, by decide⟩
abbrev mString_indexOf_0f7a4 : qM := (⟨"java/lang/String", "indexOf", "(I)I"⟩, prog_18_method_79_code, 2, (Option.some Jvm.ClassFile.FieldType.int))
set_option maxRecDepth 30000 in
theorem mmString_indexOf_0f7a4 : q_mM (qGG D cA b E) mString_indexOf_0f7a4 1 := ⟨(q_t4 28 rfl rfl), by decide +kernel, (q_t1 3 (by decide +kernel) rfl), ⟨by decide, by decide⟩, by decide +kernel, by decide⟩
abbrev mString_indexOf_7cf53 : qM := (⟨"java/lang/String", "indexOf", "(II)I"⟩, prog_18_method_80_code, 3, (Option.some Jvm.ClassFile.FieldType.int))
set_option maxRecDepth 30000 in
theorem mmString_indexOf_7cf53 : q_mM (qGG D cA b E) mString_indexOf_7cf53 2 := ⟨(q_t4 32 rfl rfl), by decide +kernel, (q_t1 3 (by decide +kernel) rfl), ⟨by decide, by decide⟩, by decide +kernel, by decide⟩
abbrev mStringLatin1_indexOf_4cfef : qM := (⟨"java/lang/StringLatin1", "indexOf", "([BIII)I"⟩, prog_19_method_22_code, 4, (Option.some Jvm.ClassFile.FieldType.int))
set_option maxRecDepth 30000 in
theorem mmStringLatin1_indexOf_4cfef : q_mM (qGG D cA b E) mStringLatin1_indexOf_4cfef 4 := ⟨(q_t4 36 rfl rfl), by decide +kernel, (q_t1 4 (by decide +kernel) rfl), ⟨by decide, by decide⟩, by decide +kernel, by decide⟩
abbrev mStringLatin1_canEncode_9a6ad : qM := (⟨"java/lang/StringLatin1", "canEncode", "(I)Z"⟩, prog_19_method_4_code, 1, (Option.some Jvm.ClassFile.FieldType.boolean))
set_option maxRecDepth 30000 in
theorem mmStringLatin1_canEncode_9a6ad : q_mM (qGG D cA b E) mStringLatin1_canEncode_9a6ad 1 := ⟨(q_t4 39 rfl rfl), by decide +kernel, (q_t1 4 (by decide +kernel) rfl), ⟨by decide, by decide⟩, by decide +kernel, by decide⟩
abbrev mMath_max_7cf53 : qM := (⟨"java/lang/Math", "max", "(II)I"⟩, prog_17_method_65_code, 2, (Option.some Jvm.ClassFile.FieldType.int))
abbrev mMath_min_7cf53 : qM := (⟨"java/lang/Math", "min", "(II)I"⟩, prog_17_method_69_code, 2, (Option.some Jvm.ClassFile.FieldType.int))
abbrev mStringLatin1_indexOfChar_4cfef : qM := (⟨"java/lang/StringLatin1", "indexOfChar", "([BIII)I"⟩, prog_19_method_23_code, 6, (Option.some Jvm.ClassFile.FieldType.int))
set_option maxRecDepth 30000 in
theorem mmStringLatin1_indexOfChar_4cfef : q_mM (qGG D cA b E) mStringLatin1_indexOfChar_4cfef 4 := ⟨(q_t4 48 rfl rfl), by decide +kernel, (q_t1 4 (by decide +kernel) rfl), ⟨by decide, by decide⟩, by decide +kernel, by decide⟩
abbrev mStringUTF16_indexOf_4cfef : qM := (⟨"java/lang/StringUTF16", "indexOf", "([BIII)I"⟩, prog_20_method_40_code, 4, (Option.some Jvm.ClassFile.FieldType.int))
set_option maxRecDepth 30000 in
theorem mmStringUTF16_indexOf_4cfef : q_mM (qGG D cA b E) mStringUTF16_indexOf_4cfef 4 := ⟨(q_t4 51 rfl rfl), by decide +kernel, (q_t1 6 (by decide +kernel) rfl), ⟨by decide, by decide⟩, by decide +kernel, by decide⟩
abbrev mStringUTF16_indexOfChar_4cfef : qM := (⟨"java/lang/StringUTF16", "indexOfChar", "([BIII)I"⟩, prog_20_method_47_code, 4, (Option.some Jvm.ClassFile.FieldType.int))
set_option maxRecDepth 30000 in
theorem mmStringUTF16_indexOfChar_4cfef : q_mM (qGG D cA b E) mStringUTF16_indexOfChar_4cfef 4 := ⟨(q_t4 57 rfl rfl), by decide +kernel, (q_t1 6 (by decide +kernel) rfl), ⟨by decide, by decide⟩, by decide +kernel, by decide⟩
abbrev mStringUTF16_checkBoundsBeginEnd_d044e : qM := (⟨"java/lang/StringUTF16", "checkBoundsBeginEnd", "(II[B)V"⟩, prog_20_method_93_code, 3, (Option.none : Option Jvm.ClassFile.FieldType))
set_option maxRecDepth 30000 in
theorem mmStringUTF16_checkBoundsBeginEnd_d044e : q_mM (qGG D cA b E) mStringUTF16_checkBoundsBeginEnd_d044e 3 := ⟨(q_t4 60 rfl rfl), by decide +kernel, (q_t1 6 (by decide +kernel) rfl), ⟨by decide, by decide⟩, by decide +kernel, by decide⟩
abbrev mString_checkBoundsBeginEnd_23922 : qM := (⟨"java/lang/String", "checkBoundsBeginEnd", "(III)V"⟩, prog_18_method_158_code, 3, (Option.none : Option Jvm.ClassFile.FieldType))
set_option maxRecDepth 30000 in
theorem mmString_checkBoundsBeginEnd_23922 : q_mM (qGG D cA b E) mString_checkBoundsBeginEnd_23922 3 := ⟨(q_t4 63 rfl rfl), by decide +kernel, (q_t1 3 (by decide +kernel) rfl), ⟨by decide, by decide⟩, by decide +kernel, by decide⟩
abbrev mPreconditions_checkFromToIndex_8c36e : qM := (⟨"jdk/internal/util/Preconditions", "checkFromToIndex", "(IIILjava/util/function/BiFunction;)I"⟩, prog_23_method_12_code, 4, (Option.some Jvm.ClassFile.FieldType.int))
set_option maxRecDepth 30000 in
theorem mmPreconditions_checkFromToIndex_8c36e : q_mM (qGG D cA b E) mPreconditions_checkFromToIndex_8c36e 4 := ⟨(q_t4 66 rfl rfl), by decide +kernel, (q_t1 5 (by decide +kernel) rfl), ⟨by decide, by decide⟩, by decide +kernel, by decide⟩
abbrev mStringUTF16_indexOfCharUnsafe_4cfef : qM := (⟨"java/lang/StringUTF16", "indexOfCharUnsafe", "([BIII)I"⟩, prog_20_method_48_code, 5, (Option.some Jvm.ClassFile.FieldType.int))
set_option maxRecDepth 30000 in
theorem mmStringUTF16_indexOfCharUnsafe_4cfef : q_mM (qGG D cA b E) mStringUTF16_indexOfCharUnsafe_4cfef 4 := ⟨(q_t4 69 rfl rfl), by decide +kernel, (q_t1 6 (by decide +kernel) rfl), ⟨by decide, by decide⟩, by decide +kernel, by decide⟩
abbrev mStringUTF16_indexOfSupplementary_4cfef : qM := (⟨"java/lang/StringUTF16", "indexOfSupplementary", "([BIII)I"⟩, prog_20_method_49_code, 7, (Option.some Jvm.ClassFile.FieldType.int))
set_option maxRecDepth 30000 in
theorem mmStringUTF16_indexOfSupplementary_4cfef : q_mM (qGG D cA b E) mStringUTF16_indexOfSupplementary_4cfef 4 := ⟨(q_t4 72 rfl rfl), by decide +kernel, (q_t1 6 (by decide +kernel) rfl), ⟨by decide, by decide⟩, by decide +kernel, by decide⟩
abbrev mCharacter_isValidCodePoint_9a6ad : qM := (⟨"java/lang/Character", "isValidCodePoint", "(I)Z"⟩, prog_15_method_11_code, 2, (Option.some Jvm.ClassFile.FieldType.boolean))
set_option maxRecDepth 30000 in
theorem mmCharacter_isValidCodePoint_9a6ad : q_mM (qGG D cA b E) mCharacter_isValidCodePoint_9a6ad 1 := ⟨(q_t4 75 rfl rfl), by decide +kernel, (q_t1 20 (by decide +kernel) rfl), ⟨by decide, by decide⟩, by decide +kernel, by decide⟩
abbrev mCharacter_highSurrogate_5068e : qM := (⟨"java/lang/Character", "highSurrogate", "(I)C"⟩, prog_15_method_28_code, 1, (Option.some Jvm.ClassFile.FieldType.char))
set_option maxRecDepth 30000 in
theorem mmCharacter_highSurrogate_5068e : q_mM (qGG D cA b E) mCharacter_highSurrogate_5068e 1 := ⟨(q_t4 78 rfl rfl), by decide +kernel, (q_t1 20 (by decide +kernel) rfl), ⟨by decide, by decide⟩, by decide +kernel, by decide⟩
abbrev mCharacter_lowSurrogate_5068e : qM := (⟨"java/lang/Character", "lowSurrogate", "(I)C"⟩, prog_15_method_29_code, 1, (Option.some Jvm.ClassFile.FieldType.char))
set_option maxRecDepth 30000 in
theorem mmCharacter_lowSurrogate_5068e : q_mM (qGG D cA b E) mCharacter_lowSurrogate_5068e 1 := ⟨(q_t4 82 rfl rfl), by decide +kernel, (q_t1 20 (by decide +kernel) rfl), ⟨by decide, by decide⟩, by decide +kernel, by decide⟩
abbrev mTape_atEnd : qM := (⟨"SaltOffice$Tape", "atEnd", "()Z"⟩, prog_10_method_21_code, 1, (Option.some Jvm.ClassFile.FieldType.boolean))
set_option maxRecDepth 30000 in
theorem mmTape_atEnd : q_mM (qGG D cA b E) mTape_atEnd 0 := ⟨(q_t4 87 rfl rfl), by decide +kernel, (q_t1 2 (by decide +kernel) rfl), ⟨by decide, by decide⟩, by decide +kernel, by decide⟩
abbrev mLand_readLine : qM := (⟨"SaltOffice$Land", "readLine", "(LSaltOffice$Tape;)Z"⟩, prog_3_method_4_code, 2, (Option.some Jvm.ClassFile.FieldType.boolean))
set_option maxRecDepth 30000 in
theorem mmLand_readLine : q_mM (qGG D cA b E) mLand_readLine 1 := ⟨(q_t4 91 rfl rfl), by decide +kernel, (q_t1 7 (by decide +kernel) rfl), ⟨by decide, by decide⟩, by decide +kernel, by decide⟩
abbrev mTape_isWord : qM := (⟨"SaltOffice$Tape", "isWord", "(I)Z"⟩, prog_10_method_18_code, 2, (Option.some Jvm.ClassFile.FieldType.boolean))
set_option maxRecDepth 30000 in
theorem mmTape_isWord : q_mM (qGG D cA b E) mTape_isWord 1 := ⟨(q_t4 95 rfl rfl), by decide +kernel, (q_t1 2 (by decide +kernel) rfl), ⟨by decide, by decide⟩, by decide +kernel, by decide⟩
abbrev mLand_readRoad : qM := (⟨"SaltOffice$Land", "readRoad", "(LSaltOffice$Tape;)Z"⟩, prog_3_method_5_code, 5, (Option.some Jvm.ClassFile.FieldType.boolean))
set_option maxRecDepth 30000 in
theorem mmLand_readRoad : q_mM (qGG D cA b E) mLand_readRoad 1 := ⟨(q_t4 99 rfl rfl), by decide +kernel, (q_t1 7 (by decide +kernel) rfl), ⟨by decide, by decide⟩, by decide +kernel, by decide⟩
abbrev mTape_step : qM := (⟨"SaltOffice$Tape", "step", "()V"⟩, prog_10_method_16_code, 1, (Option.none : Option Jvm.ClassFile.FieldType))
set_option maxRecDepth 30000 in
theorem mmTape_step : q_mM (qGG D cA b E) mTape_step 0 := ⟨(q_t4 103 rfl rfl), by decide +kernel, (q_t1 2 (by decide +kernel) rfl), ⟨by decide, by decide⟩, by decide +kernel, by decide⟩
abbrev mTape_takePlaceUnlike : qM := (⟨"SaltOffice$Tape", "takePlaceUnlike", "(I)I"⟩, prog_10_method_26_code, 3, (Option.some Jvm.ClassFile.FieldType.int))
set_option maxRecDepth 30000 in
theorem mmTape_takePlaceUnlike : q_mM (qGG D cA b E) mTape_takePlaceUnlike 1 := ⟨(q_t4 107 rfl rfl), by decide +kernel, (q_t1 2 (by decide +kernel) rfl), ⟨by decide, by decide⟩, by decide +kernel, by decide⟩
abbrev mTape_refuse : qM := (⟨"SaltOffice$Tape", "refuse", "(I)V"⟩, prog_10_method_17_code, 2, (Option.none : Option Jvm.ClassFile.FieldType))
set_option maxRecDepth 30000 in
theorem mmTape_refuse : q_mM (qGG D cA b E) mTape_refuse 1 := ⟨(q_t4 111 rfl rfl), by decide +kernel, (q_t1 2 (by decide +kernel) rfl), ⟨by decide, by decide⟩, by decide +kernel, by decide⟩
abbrev mTape_takeNumber : qM := (⟨"SaltOffice$Tape", "takeNumber", "(II)I"⟩, prog_10_method_24_code, 4, (Option.some Jvm.ClassFile.FieldType.int))
set_option maxRecDepth 30000 in
theorem mmTape_takeNumber : q_mM (qGG D cA b E) mTape_takeNumber 2 := ⟨(q_t4 116 rfl rfl), by decide +kernel, (q_t1 2 (by decide +kernel) rfl), ⟨by decide, by decide⟩, by decide +kernel, by decide⟩
abbrev mTape_isNumber : qM := (⟨"SaltOffice$Tape", "isNumber", "()Z"⟩, prog_10_method_20_code, 1, (Option.some Jvm.ClassFile.FieldType.boolean))
set_option maxRecDepth 30000 in
theorem mmTape_isNumber : q_mM (qGG D cA b E) mTape_isNumber 0 := ⟨(q_t4 120 rfl rfl), by decide +kernel, (q_t1 2 (by decide +kernel) rfl), ⟨by decide, by decide⟩, by decide +kernel, by decide⟩
abbrev mTape_closeLine : qM := (⟨"SaltOffice$Tape", "closeLine", "()Z"⟩, prog_10_method_23_code, 1, (Option.some Jvm.ClassFile.FieldType.boolean))
set_option maxRecDepth 30000 in
theorem mmTape_closeLine : q_mM (qGG D cA b E) mTape_closeLine 0 := ⟨(q_t4 124 rfl rfl), by decide +kernel, (q_t1 2 (by decide +kernel) rfl), ⟨by decide, by decide⟩, by decide +kernel, by decide⟩
abbrev mTape_isSign : qM := (⟨"SaltOffice$Tape", "isSign", "(I)Z"⟩, prog_10_method_19_code, 2, (Option.some Jvm.ClassFile.FieldType.boolean))
set_option maxRecDepth 30000 in
theorem mmTape_isSign : q_mM (qGG D cA b E) mTape_isSign 1 := ⟨(q_t4 128 rfl rfl), by decide +kernel, (q_t1 2 (by decide +kernel) rfl), ⟨by decide, by decide⟩, by decide +kernel, by decide⟩
abbrev mTape_passIf : qM := (⟨"SaltOffice$Tape", "passIf", "(Z)V"⟩, prog_10_method_22_code, 2, (Option.none : Option Jvm.ClassFile.FieldType))
set_option maxRecDepth 30000 in
theorem mmTape_passIf : q_mM (qGG D cA b E) mTape_passIf 1 := ⟨(q_t4 132 rfl rfl), by decide +kernel, (q_t1 2 (by decide +kernel) rfl), ⟨by decide, by decide⟩, by decide +kernel, by decide⟩
abbrev mLand_shorten : qM := (⟨"SaltOffice$Land", "shorten", "(III)V"⟩, prog_3_method_13_code, 5, (Option.none : Option Jvm.ClassFile.FieldType))
set_option maxRecDepth 30000 in
theorem mmLand_shorten : q_mM (qGG D cA b E) mLand_shorten 3 := ⟨(q_t4 136 rfl rfl), by decide +kernel, (q_t1 7 (by decide +kernel) rfl), ⟨by decide, by decide⟩, by decide +kernel, by decide⟩
abbrev mLand_daysBetween : qM := (⟨"SaltOffice$Land", "daysBetween", "(II)I"⟩, prog_3_method_14_code, 3, (Option.some Jvm.ClassFile.FieldType.int))
set_option maxRecDepth 30000 in
theorem mmLand_daysBetween : q_mM (qGG D cA b E) mLand_daysBetween 2 := ⟨(q_t4 140 rfl rfl), by decide +kernel, (q_t1 7 (by decide +kernel) rfl), ⟨by decide, by decide⟩, by decide +kernel, by decide⟩
abbrev mLand_readFort : qM := (⟨"SaltOffice$Land", "readFort", "(LSaltOffice$Tape;)Z"⟩, prog_3_method_6_code, 2, (Option.some Jvm.ClassFile.FieldType.boolean))
set_option maxRecDepth 30000 in
theorem mmLand_readFort : q_mM (qGG D cA b E) mLand_readFort 1 := ⟨(q_t4 144 rfl rfl), by decide +kernel, (q_t1 7 (by decide +kernel) rfl), ⟨by decide, by decide⟩, by decide +kernel, by decide⟩
abbrev mLand_readName : qM := (⟨"SaltOffice$Land", "readName", "(LSaltOffice$Tape;)V"⟩, prog_3_method_10_code, 3, (Option.none : Option Jvm.ClassFile.FieldType))
set_option maxRecDepth 30000 in
theorem mmLand_readName : q_mM (qGG D cA b E) mLand_readName 1 := ⟨(q_t4 148 rfl rfl), by decide +kernel, (q_t1 7 (by decide +kernel) rfl), ⟨by decide, by decide⟩, by decide +kernel, by decide⟩
abbrev mTape_kind : qM := (⟨"SaltOffice$Tape", "kind", "()I"⟩, prog_10_method_13_code, 1, (Option.some Jvm.ClassFile.FieldType.int))
set_option maxRecDepth 30000 in
theorem mmTape_kind : q_mM (qGG D cA b E) mTape_kind 0 := ⟨(q_t4 152 rfl rfl), by decide +kernel, (q_t1 2 (by decide +kernel) rfl), ⟨by decide, by decide⟩, by decide +kernel, by decide⟩
abbrev mTape_value : qM := (⟨"SaltOffice$Tape", "value", "()I"⟩, prog_10_method_14_code, 1, (Option.some Jvm.ClassFile.FieldType.int))
set_option maxRecDepth 30000 in
theorem mmTape_value : q_mM (qGG D cA b E) mTape_value 0 := ⟨(q_t4 156 rfl rfl), by decide +kernel, (q_t1 2 (by decide +kernel) rfl), ⟨by decide, by decide⟩, by decide +kernel, by decide⟩
abbrev mTape_name : qM := (⟨"SaltOffice$Tape", "name", "()J"⟩, prog_10_method_15_code, 1, (Option.some Jvm.ClassFile.FieldType.long))
set_option maxRecDepth 30000 in
theorem mmTape_name : q_mM (qGG D cA b E) mTape_name 0 := ⟨(q_t4 161 rfl rfl), by decide +kernel, (q_t1 2 (by decide +kernel) rfl), ⟨by decide, by decide⟩, by decide +kernel, by decide⟩
abbrev mLand_readSite : qM := (⟨"SaltOffice$Land", "readSite", "(LSaltOffice$Tape;)I"⟩, prog_3_method_11_code, 2, (Option.some Jvm.ClassFile.FieldType.int))
set_option maxRecDepth 30000 in
theorem mmLand_readSite : q_mM (qGG D cA b E) mLand_readSite 1 := ⟨(q_t4 165 rfl rfl), by decide +kernel, (q_t1 7 (by decide +kernel) rfl), ⟨by decide, by decide⟩, by decide +kernel, by decide⟩
abbrev mTape_takeNumberBehind : qM := (⟨"SaltOffice$Tape", "takeNumberBehind", "(III)I"⟩, prog_10_method_25_code, 4, (Option.some Jvm.ClassFile.FieldType.int))
set_option maxRecDepth 30000 in
theorem mmTape_takeNumberBehind : q_mM (qGG D cA b E) mTape_takeNumberBehind 3 := ⟨(q_t4 170 rfl rfl), by decide +kernel, (q_t1 2 (by decide +kernel) rfl), ⟨by decide, by decide⟩, by decide +kernel, by decide⟩
abbrev mLand_readPan : qM := (⟨"SaltOffice$Land", "readPan", "(LSaltOffice$Tape;)Z"⟩, prog_3_method_7_code, 4, (Option.some Jvm.ClassFile.FieldType.boolean))
set_option maxRecDepth 30000 in
theorem mmLand_readPan : q_mM (qGG D cA b E) mLand_readPan 1 := ⟨(q_t4 176 rfl rfl), by decide +kernel, (q_t1 7 (by decide +kernel) rfl), ⟨by decide, by decide⟩, by decide +kernel, by decide⟩
abbrev mLand_readDistrict : qM := (⟨"SaltOffice$Land", "readDistrict", "(LSaltOffice$Tape;)V"⟩, prog_3_method_8_code, 3, (Option.none : Option Jvm.ClassFile.FieldType))
set_option maxRecDepth 30000 in
theorem mmLand_readDistrict : q_mM (qGG D cA b E) mLand_readDistrict 1 := ⟨(q_t4 181 rfl rfl), by decide +kernel, (q_t1 7 (by decide +kernel) rfl), ⟨by decide, by decide⟩, by decide +kernel, by decide⟩
abbrev mLand_serves : qM := (⟨"SaltOffice$Land", "serves", "(II)Z"⟩, prog_3_method_15_code, 3, (Option.some Jvm.ClassFile.FieldType.boolean))
set_option maxRecDepth 30000 in
theorem mmLand_serves : q_mM (qGG D cA b E) mLand_serves 2 := ⟨(q_t4 186 rfl rfl), by decide +kernel, (q_t1 7 (by decide +kernel) rfl), ⟨by decide, by decide⟩, by decide +kernel, by decide⟩
abbrev mLand_readTown : qM := (⟨"SaltOffice$Land", "readTown", "(LSaltOffice$Tape;)Z"⟩, prog_3_method_9_code, 2, (Option.some Jvm.ClassFile.FieldType.boolean))
set_option maxRecDepth 30000 in
theorem mmLand_readTown : q_mM (qGG D cA b E) mLand_readTown 1 := ⟨(q_t4 190 rfl rfl), by decide +kernel, (q_t1 7 (by decide +kernel) rfl), ⟨by decide, by decide⟩, by decide +kernel, by decide⟩
abbrev mLand_shortenWays : qM := (⟨"SaltOffice$Land", "shortenWays", "()V"⟩, prog_3_method_12_code, 6, (Option.none : Option Jvm.ClassFile.FieldType))
set_option maxRecDepth 30000 in
theorem mmLand_shortenWays : q_mM (qGG D cA b E) mLand_shortenWays 0 := ⟨(q_t4 194 rfl rfl), by decide +kernel, (q_t1 7 (by decide +kernel) rfl), ⟨by decide, by decide⟩, by decide +kernel, by decide⟩
abbrev mOffice_reform : qM := (⟨"SaltOffice", "reform", "(I)I"⟩, prog_1_method_5_code, 5, (Option.some Jvm.ClassFile.FieldType.int))
set_option maxRecDepth 30000 in
theorem mmOffice_reform : q_mM (qGG D cA b E) mOffice_reform 1 := ⟨(q_t4 198 rfl rfl), by decide +kernel, (q_t1 1 (by decide +kernel) rfl), ⟨by decide, by decide⟩, by decide +kernel, by decide⟩
abbrev mReform_read : qM := (⟨"SaltOffice$Reform", "read", "(LSaltOffice$Tape;)Z"⟩, prog_8_method_4_code, 3, (Option.some Jvm.ClassFile.FieldType.boolean))
set_option maxRecDepth 30000 in
theorem mmReform_read : q_mM (qGG D cA b E) mReform_read 1 := ⟨(q_t4 202 rfl rfl), by decide +kernel, (q_t1 9 (by decide +kernel) rfl), ⟨by decide, by decide⟩, by decide +kernel, by decide⟩
abbrev mReform_clear : qM := (⟨"SaltOffice$Reform", "clear", "()V"⟩, prog_8_method_2_code, 1, (Option.none : Option Jvm.ClassFile.FieldType))
set_option maxRecDepth 30000 in
theorem mmReform_clear : q_mM (qGG D cA b E) mReform_clear 0 := ⟨(q_t4 206 rfl rfl), by decide +kernel, (q_t1 9 (by decide +kernel) rfl), ⟨by decide, by decide⟩, by decide +kernel, by decide⟩
abbrev mReform_readLine : qM := (⟨"SaltOffice$Reform", "readLine", "(LSaltOffice$Tape;)Z"⟩, prog_8_method_5_code, 2, (Option.some Jvm.ClassFile.FieldType.boolean))
set_option maxRecDepth 30000 in
theorem mmReform_readLine : q_mM (qGG D cA b E) mReform_readLine 1 := ⟨(q_t4 213 rfl rfl), by decide +kernel, (q_t1 9 (by decide +kernel) rfl), ⟨by decide, by decide⟩, by decide +kernel, by decide⟩
abbrev mReform_freeSlot : qM := (⟨"SaltOffice$Reform", "freeSlot", "(LSaltOffice$Tape;)I"⟩, prog_8_method_6_code, 3, (Option.some Jvm.ClassFile.FieldType.int))
set_option maxRecDepth 30000 in
theorem mmReform_freeSlot : q_mM (qGG D cA b E) mReform_freeSlot 1 := ⟨(q_t4 217 rfl rfl), by decide +kernel, (q_t1 9 (by decide +kernel) rfl), ⟨by decide, by decide⟩, by decide +kernel, by decide⟩
abbrev mReform_readEither : qM := (⟨"SaltOffice$Reform", "readEither", "(LSaltOffice$Tape;I)V"⟩, prog_8_method_7_code, 4, (Option.none : Option Jvm.ClassFile.FieldType))
set_option maxRecDepth 30000 in
theorem mmReform_readEither : q_mM (qGG D cA b E) mReform_readEither 2 := ⟨(q_t4 225 rfl rfl), by decide +kernel, (q_t1 9 (by decide +kernel) rfl), ⟨by decide, by decide⟩, by decide +kernel, by decide⟩
abbrev mReform_readBoth : qM := (⟨"SaltOffice$Reform", "readBoth", "(LSaltOffice$Tape;I)V"⟩, prog_8_method_8_code, 4, (Option.none : Option Jvm.ClassFile.FieldType))
set_option maxRecDepth 30000 in
theorem mmReform_readBoth : q_mM (qGG D cA b E) mReform_readBoth 2 := ⟨(q_t4 229 rfl rfl), by decide +kernel, (q_t1 9 (by decide +kernel) rfl), ⟨by decide, by decide⟩, by decide +kernel, by decide⟩
abbrev mReform_readOne : qM := (⟨"SaltOffice$Reform", "readOne", "(LSaltOffice$Tape;I)V"⟩, prog_8_method_9_code, 4, (Option.none : Option Jvm.ClassFile.FieldType))
set_option maxRecDepth 30000 in
theorem mmReform_readOne : q_mM (qGG D cA b E) mReform_readOne 2 := ⟨(q_t4 233 rfl rfl), by decide +kernel, (q_t1 9 (by decide +kernel) rfl), ⟨by decide, by decide⟩, by decide +kernel, by decide⟩
abbrev mReform_emit : qM := (⟨"SaltOffice$Reform", "emit", "(I)V"⟩, prog_8_method_15_code, 2, (Option.none : Option Jvm.ClassFile.FieldType))
set_option maxRecDepth 30000 in
theorem mmReform_emit : q_mM (qGG D cA b E) mReform_emit 1 := ⟨(q_t4 238 rfl rfl), by decide +kernel, (q_t1 9 (by decide +kernel) rfl), ⟨by decide, by decide⟩, by decide +kernel, by decide⟩
abbrev mReform_readSum : qM := (⟨"SaltOffice$Reform", "readSum", "(LSaltOffice$Tape;I)V"⟩, prog_8_method_10_code, 5, (Option.none : Option Jvm.ClassFile.FieldType))
set_option maxRecDepth 30000 in
theorem mmReform_readSum : q_mM (qGG D cA b E) mReform_readSum 2 := ⟨(q_t5 2 rfl rfl), by decide +kernel, (q_t1 9 (by decide +kernel) rfl), ⟨by decide, by decide⟩, by decide +kernel, by decide⟩
abbrev mReform_readTerm : qM := (⟨"SaltOffice$Reform", "readTerm", "(LSaltOffice$Tape;I)V"⟩, prog_8_method_11_code, 5, (Option.none : Option Jvm.ClassFile.FieldType))
set_option maxRecDepth 30000 in
theorem mmReform_readTerm : q_mM (qGG D cA b E) mReform_readTerm 2 := ⟨(q_t5 6 rfl rfl), by decide +kernel, (q_t1 9 (by decide +kernel) rfl), ⟨by decide, by decide⟩, by decide +kernel, by decide⟩
abbrev mReform_readUnit : qM := (⟨"SaltOffice$Reform", "readUnit", "(LSaltOffice$Tape;I)V"⟩, prog_8_method_12_code, 5, (Option.none : Option Jvm.ClassFile.FieldType))
set_option maxRecDepth 30000 in
theorem mmReform_readUnit : q_mM (qGG D cA b E) mReform_readUnit 2 := ⟨(q_t5 10 rfl rfl), by decide +kernel, (q_t1 9 (by decide +kernel) rfl), ⟨by decide, by decide⟩, by decide +kernel, by decide⟩
abbrev mReform_isAsked : qM := (⟨"SaltOffice$Reform", "isAsked", "(I)Z"⟩, prog_8_method_13_code, 1, (Option.some Jvm.ClassFile.FieldType.boolean))
set_option maxRecDepth 30000 in
theorem mmReform_isAsked : q_mM (qGG D cA b E) mReform_isAsked 1 := ⟨(q_t5 14 rfl rfl), by decide +kernel, (q_t1 9 (by decide +kernel) rfl), ⟨by decide, by decide⟩, by decide +kernel, by decide⟩
abbrev mReform_mayAsk : qM := (⟨"SaltOffice$Reform", "mayAsk", "(I)Z"⟩, prog_8_method_14_code, 2, (Option.some Jvm.ClassFile.FieldType.boolean))
set_option maxRecDepth 30000 in
theorem mmReform_mayAsk : q_mM (qGG D cA b E) mReform_mayAsk 1 := ⟨(q_t5 19 rfl rfl), by decide +kernel, (q_t1 9 (by decide +kernel) rfl), ⟨by decide, by decide⟩, by decide +kernel, by decide⟩
abbrev mOffice_fault : qM := (⟨"SaltOffice", "fault", "(I)I"⟩, prog_1_method_6_code, 2, (Option.some Jvm.ClassFile.FieldType.int))
set_option maxRecDepth 30000 in
theorem mmOffice_fault : q_mM (qGG D cA b E) mOffice_fault 1 := ⟨(q_t5 25 rfl rfl), by decide +kernel, (q_t1 1 (by decide +kernel) rfl), ⟨by decide, by decide⟩, by decide +kernel, by decide⟩
abbrev mOffice_days : qM := (⟨"SaltOffice", "days", "(II)I"⟩, prog_1_method_7_code, 3, (Option.some Jvm.ClassFile.FieldType.int))
set_option maxRecDepth 30000 in
theorem mmOffice_days : q_mM (qGG D cA b E) mOffice_days 2 := ⟨(q_t5 29 rfl rfl), by decide +kernel, (q_t1 1 (by decide +kernel) rfl), ⟨by decide, by decide⟩, by decide +kernel, by decide⟩
abbrev mOffice_merchant : qM := (⟨"SaltOffice", "merchant", "(I)I"⟩, prog_1_method_8_code, 2, (Option.some Jvm.ClassFile.FieldType.int))
set_option maxRecDepth 30000 in
theorem mmOffice_merchant : q_mM (qGG D cA b E) mOffice_merchant 1 := ⟨(q_t5 34 rfl rfl), by decide +kernel, (q_t1 1 (by decide +kernel) rfl), ⟨by decide, by decide⟩, by decide +kernel, by decide⟩
abbrev mOffice_costs : qM := (⟨"SaltOffice", "costs", "(IIIII)Z"⟩, prog_1_method_9_code, 7, (Option.some Jvm.ClassFile.FieldType.boolean))
set_option maxRecDepth 30000 in
theorem mmOffice_costs : q_mM (qGG D cA b E) mOffice_costs 5 := ⟨(q_t5 38 rfl rfl), by decide +kernel, (q_t1 1 (by decide +kernel) rfl), ⟨by decide, by decide⟩, by decide +kernel, by decide⟩
abbrev mOffice_within : qM := (⟨"SaltOffice", "within", "(III)Z"⟩, prog_1_method_30_code, 3, (Option.some Jvm.ClassFile.FieldType.boolean))
set_option maxRecDepth 30000 in
theorem mmOffice_within : q_mM (qGG D cA b E) mOffice_within 3 := ⟨(q_t5 41 rfl rfl), by decide +kernel, (q_t1 1 (by decide +kernel) rfl), ⟨by decide, by decide⟩, by decide +kernel, by decide⟩
abbrev mOffice_weather : qM := (⟨"SaltOffice", "weather", "(III)I"⟩, prog_1_method_10_code, 4, (Option.some Jvm.ClassFile.FieldType.int))
set_option maxRecDepth 30000 in
theorem mmOffice_weather : q_mM (qGG D cA b E) mOffice_weather 3 := ⟨(q_t5 45 rfl rfl), by decide +kernel, (q_t1 1 (by decide +kernel) rfl), ⟨by decide, by decide⟩, by decide +kernel, by decide⟩
abbrev mOffice_tellFact : qM := (⟨"SaltOffice", "tellFact", "(IIII)I"⟩, prog_1_method_13_code, 5, (Option.some Jvm.ClassFile.FieldType.int))
set_option maxRecDepth 30000 in
theorem mmOffice_tellFact : q_mM (qGG D cA b E) mOffice_tellFact 4 := ⟨(q_t5 49 rfl rfl), by decide +kernel, (q_t1 1 (by decide +kernel) rfl), ⟨by decide, by decide⟩, by decide +kernel, by decide⟩
abbrev mFacts_add : qM := (⟨"SaltOffice$Facts", "add", "(IIIII)I"⟩, prog_2_method_2_code, 6, (Option.some Jvm.ClassFile.FieldType.int))
set_option maxRecDepth 30000 in
theorem mmFacts_add : q_mM (qGG D cA b E) mFacts_add 5 := ⟨(q_t5 53 rfl rfl), by decide +kernel, (q_t1 11 (by decide +kernel) rfl), ⟨by decide, by decide⟩, by decide +kernel, by decide⟩
abbrev mOffice_forged : qM := (⟨"SaltOffice", "forged", "(II)I"⟩, prog_1_method_11_code, 3, (Option.some Jvm.ClassFile.FieldType.int))
set_option maxRecDepth 30000 in
theorem mmOffice_forged : q_mM (qGG D cA b E) mOffice_forged 2 := ⟨(q_t5 57 rfl rfl), by decide +kernel, (q_t1 1 (by decide +kernel) rfl), ⟨by decide, by decide⟩, by decide +kernel, by decide⟩
abbrev mOffice_dead : qM := (⟨"SaltOffice", "dead", "(III)I"⟩, prog_1_method_12_code, 4, (Option.some Jvm.ClassFile.FieldType.int))
set_option maxRecDepth 30000 in
theorem mmOffice_dead : q_mM (qGG D cA b E) mOffice_dead 3 := ⟨(q_t5 61 rfl rfl), by decide +kernel, (q_t1 1 (by decide +kernel) rfl), ⟨by decide, by decide⟩, by decide +kernel, by decide⟩
abbrev mOffice_untell : qM := (⟨"SaltOffice", "untell", "(I)Z"⟩, prog_1_method_14_code, 2, (Option.some Jvm.ClassFile.FieldType.boolean))
set_option maxRecDepth 30000 in
theorem mmOffice_untell : q_mM (qGG D cA b E) mOffice_untell 1 := ⟨(q_t5 65 rfl rfl), by decide +kernel, (q_t1 1 (by decide +kernel) rfl), ⟨by decide, by decide⟩, by decide +kernel, by decide⟩
abbrev mOffice_later : qM := (⟨"SaltOffice", "later", "(I)I"⟩, prog_1_method_15_code, 2, (Option.some Jvm.ClassFile.FieldType.int))
set_option maxRecDepth 30000 in
theorem mmOffice_later : q_mM (qGG D cA b E) mOffice_later 1 := ⟨(q_t5 69 rfl rfl), by decide +kernel, (q_t1 1 (by decide +kernel) rfl), ⟨by decide, by decide⟩, by decide +kernel, by decide⟩
abbrev mOffice_run : qM := (⟨"SaltOffice", "run", "(III)I"⟩, prog_1_method_16_code, 5, (Option.some Jvm.ClassFile.FieldType.int))
set_option maxRecDepth 30000 in
theorem mmOffice_run : q_mM (qGG D cA b E) mOffice_run 3 := ⟨(q_t5 74 rfl rfl), by decide +kernel, (q_t1 1 (by decide +kernel) rfl), ⟨by decide, by decide⟩, by decide +kernel, by decide⟩
abbrev mOffice_shelfAt : qM := (⟨"SaltOffice", "shelfAt", "(I)LSaltOffice$Reform;"⟩, prog_1_method_27_code, 2, (Option.some (Jvm.ClassFile.FieldType.object "SaltOffice$Reform")))
set_option maxRecDepth 30000 in
theorem mmOffice_shelfAt : q_mM (qGG D cA b E) mOffice_shelfAt 1 := ⟨(q_t5 78 rfl rfl), by decide +kernel, (q_t1 1 (by decide +kernel) rfl), ⟨by decide, by decide⟩, by decide +kernel, by decide⟩
abbrev mRun_play : qM := (⟨"SaltOffice$Run", "play", "(LSaltOffice$Land;LSaltOffice$Trade;LSaltOffice$Reform;LSaltOffice$Facts;II)V"⟩, prog_9_method_2_code, 7, (Option.none : Option Jvm.ClassFile.FieldType))
set_option maxRecDepth 30000 in
theorem mmRun_play : q_mM (qGG D cA b E) mRun_play 6 := ⟨(q_t5 82 rfl rfl), by decide +kernel, (q_t1 12 (by decide +kernel) rfl), ⟨by decide, by decide⟩, by decide +kernel, by decide⟩
abbrev mReform_copyFrom : qM := (⟨"SaltOffice$Reform", "copyFrom", "(LSaltOffice$Reform;)V"⟩, prog_8_method_3_code, 2, (Option.none : Option Jvm.ClassFile.FieldType))
set_option maxRecDepth 30000 in
theorem mmReform_copyFrom : q_mM (qGG D cA b E) mReform_copyFrom 1 := ⟨(q_t5 86 rfl rfl), by decide +kernel, (q_t1 9 (by decide +kernel) rfl), ⟨by decide, by decide⟩, by decide +kernel, by decide⟩
abbrev mRun_begin : qM := (⟨"SaltOffice$Run", "begin", "(LSaltOffice$Facts;I)V"⟩, prog_9_method_3_code, 4, (Option.none : Option Jvm.ClassFile.FieldType))
set_option maxRecDepth 30000 in
theorem mmRun_begin : q_mM (qGG D cA b E) mRun_begin 2 := ⟨(q_t5 93 rfl rfl), by decide +kernel, (q_t1 12 (by decide +kernel) rfl), ⟨by decide, by decide⟩, by decide +kernel, by decide⟩
abbrev mRealm_start : qM := (⟨"SaltOffice$Realm", "start", "(LSaltOffice$Land;)V"⟩, prog_6_method_2_code, 2, (Option.none : Option Jvm.ClassFile.FieldType))
set_option maxRecDepth 30000 in
theorem mmRealm_start : q_mM (qGG D cA b E) mRealm_start 1 := ⟨(q_t5 97 rfl rfl), by decide +kernel, (q_t1 13 (by decide +kernel) rfl), ⟨by decide, by decide⟩, by decide +kernel, by decide⟩
abbrev mPapers_start : qM := (⟨"SaltOffice$Papers", "start", "(LSaltOffice$Facts;I)V"⟩, prog_5_method_2_code, 5, (Option.none : Option Jvm.ClassFile.FieldType))
set_option maxRecDepth 30000 in
theorem mmPapers_start : q_mM (qGG D cA b E) mPapers_start 2 := ⟨(q_t5 103 rfl rfl), by decide +kernel, (q_t1 14 (by decide +kernel) rfl), ⟨by decide, by decide⟩, by decide +kernel, by decide⟩
abbrev mFacts_isKnown : qM := (⟨"SaltOffice$Facts", "isKnown", "(III)Z"⟩, prog_2_method_3_code, 4, (Option.some Jvm.ClassFile.FieldType.boolean))
set_option maxRecDepth 30000 in
theorem mmFacts_isKnown : q_mM (qGG D cA b E) mFacts_isKnown 3 := ⟨(q_t5 109 rfl rfl), by decide +kernel, (q_t1 11 (by decide +kernel) rfl), ⟨by decide, by decide⟩, by decide +kernel, by decide⟩
abbrev mLoads_start : qM := (⟨"SaltOffice$Loads", "start", "()V"⟩, prog_4_method_2_code, 1, (Option.none : Option Jvm.ClassFile.FieldType))
set_option maxRecDepth 30000 in
theorem mmLoads_start : q_mM (qGG D cA b E) mLoads_start 0 := ⟨(q_t5 114 rfl rfl), by decide +kernel, (q_t1 15 (by decide +kernel) rfl), ⟨by decide, by decide⟩, by decide +kernel, by decide⟩
abbrev mArrays_fill_d0a16 : qM := (⟨"java/util/Arrays", "fill", "([JJ)V"⟩, prog_22_method_101_code, 5, (Option.none : Option Jvm.ClassFile.FieldType))
set_option maxRecDepth 30000 in
theorem mmArrays_fill_d0a16 : q_mM (qGG D cA b E) mArrays_fill_d0a16 2 := ⟨(q_t5 117 rfl rfl), by decide +kernel, (q_t1 8 (by decide +kernel) rfl), ⟨by decide, by decide⟩, by decide +kernel, by decide⟩
abbrev mRun_readDeaths : qM := (⟨"SaltOffice$Run", "readDeaths", "(LSaltOffice$Facts;I)V"⟩, prog_9_method_4_code, 5, (Option.none : Option Jvm.ClassFile.FieldType))
set_option maxRecDepth 30000 in
theorem mmRun_readDeaths : q_mM (qGG D cA b E) mRun_readDeaths 2 := ⟨(q_t5 122 rfl rfl), by decide +kernel, (q_t1 12 (by decide +kernel) rfl), ⟨by decide, by decide⟩, by decide +kernel, by decide⟩
abbrev mPapers_loseForged : qM := (⟨"SaltOffice$Papers", "loseForged", "(I)V"⟩, prog_5_method_8_code, 3, (Option.none : Option Jvm.ClassFile.FieldType))
set_option maxRecDepth 30000 in
theorem mmPapers_loseForged : q_mM (qGG D cA b E) mPapers_loseForged 1 := ⟨(q_t5 128 rfl rfl), by decide +kernel, (q_t1 14 (by decide +kernel) rfl), ⟨by decide, by decide⟩, by decide +kernel, by decide⟩
abbrev mPapers_lose : qM := (⟨"SaltOffice$Papers", "lose", "(I)V"⟩, prog_5_method_6_code, 2, (Option.none : Option Jvm.ClassFile.FieldType))
set_option maxRecDepth 30000 in
theorem mmPapers_lose : q_mM (qGG D cA b E) mPapers_lose 1 := ⟨(q_t5 132 rfl rfl), by decide +kernel, (q_t1 14 (by decide +kernel) rfl), ⟨by decide, by decide⟩, by decide +kernel, by decide⟩
abbrev mPapers_isWaiting : qM := (⟨"SaltOffice$Papers", "isWaiting", "(I)Z"⟩, prog_5_method_4_code, 2, (Option.some Jvm.ClassFile.FieldType.boolean))
set_option maxRecDepth 30000 in
theorem mmPapers_isWaiting : q_mM (qGG D cA b E) mPapers_isWaiting 1 := ⟨(q_t5 136 rfl rfl), by decide +kernel, (q_t1 14 (by decide +kernel) rfl), ⟨by decide, by decide⟩, by decide +kernel, by decide⟩
abbrev mPapers_stopWaiting : qM := (⟨"SaltOffice$Papers", "stopWaiting", "(I)V"⟩, prog_5_method_5_code, 2, (Option.none : Option Jvm.ClassFile.FieldType))
set_option maxRecDepth 30000 in
theorem mmPapers_stopWaiting : q_mM (qGG D cA b E) mPapers_stopWaiting 1 := ⟨(q_t5 140 rfl rfl), by decide +kernel, (q_t1 14 (by decide +kernel) rfl), ⟨by decide, by decide⟩, by decide +kernel, by decide⟩
abbrev mRun_buryDead : qM := (⟨"SaltOffice$Run", "buryDead", "()V"⟩, prog_9_method_7_code, 2, (Option.none : Option Jvm.ClassFile.FieldType))
set_option maxRecDepth 30000 in
theorem mmRun_buryDead : q_mM (qGG D cA b E) mRun_buryDead 0 := ⟨(q_t5 144 rfl rfl), by decide +kernel, (q_t1 12 (by decide +kernel) rfl), ⟨by decide, by decide⟩, by decide +kernel, by decide⟩
abbrev mRun_bury : qM := (⟨"SaltOffice$Run", "bury", "(I)V"⟩, prog_9_method_8_code, 4, (Option.none : Option Jvm.ClassFile.FieldType))
set_option maxRecDepth 30000 in
theorem mmRun_bury : q_mM (qGG D cA b E) mRun_bury 1 := ⟨(q_t5 148 rfl rfl), by decide +kernel, (q_t1 12 (by decide +kernel) rfl), ⟨by decide, by decide⟩, by decide +kernel, by decide⟩
abbrev mRun_isDead : qM := (⟨"SaltOffice$Run", "isDead", "(I)Z"⟩, prog_9_method_6_code, 2, (Option.some Jvm.ClassFile.FieldType.boolean))
set_option maxRecDepth 30000 in
theorem mmRun_isDead : q_mM (qGG D cA b E) mRun_isDead 1 := ⟨(q_t5 152 rfl rfl), by decide +kernel, (q_t1 12 (by decide +kernel) rfl), ⟨by decide, by decide⟩, by decide +kernel, by decide⟩
abbrev mRun_payTo : qM := (⟨"SaltOffice$Run", "payTo", "(IJ)V"⟩, prog_9_method_9_code, 4, (Option.none : Option Jvm.ClassFile.FieldType))
set_option maxRecDepth 30000 in
theorem mmRun_payTo : q_mM (qGG D cA b E) mRun_payTo 2 := ⟨(q_t5 156 rfl rfl), by decide +kernel, (q_t1 12 (by decide +kernel) rfl), ⟨by decide, by decide⟩, by decide +kernel, by decide⟩
abbrev mPapers_leaveTo : qM := (⟨"SaltOffice$Papers", "leaveTo", "(II)V"⟩, prog_5_method_9_code, 5, (Option.none : Option Jvm.ClassFile.FieldType))
set_option maxRecDepth 30000 in
theorem mmPapers_leaveTo : q_mM (qGG D cA b E) mPapers_leaveTo 2 := ⟨(q_t5 160 rfl rfl), by decide +kernel, (q_t1 14 (by decide +kernel) rfl), ⟨by decide, by decide⟩, by decide +kernel, by decide⟩
abbrev mLoads_leaveTo : qM := (⟨"SaltOffice$Loads", "leaveTo", "(II)V"⟩, prog_4_method_6_code, 4, (Option.none : Option Jvm.ClassFile.FieldType))
set_option maxRecDepth 30000 in
theorem mmLoads_leaveTo : q_mM (qGG D cA b E) mLoads_leaveTo 2 := ⟨(q_t5 164 rfl rfl), by decide +kernel, (q_t1 15 (by decide +kernel) rfl), ⟨by decide, by decide⟩, by decide +kernel, by decide⟩
abbrev mRun_makeSalt : qM := (⟨"SaltOffice$Run", "makeSalt", "(LSaltOffice$Facts;I)V"⟩, prog_9_method_10_code, 5, (Option.none : Option Jvm.ClassFile.FieldType))
set_option maxRecDepth 30000 in
theorem mmRun_makeSalt : q_mM (qGG D cA b E) mRun_makeSalt 2 := ⟨(q_t5 168 rfl rfl), by decide +kernel, (q_t1 12 (by decide +kernel) rfl), ⟨by decide, by decide⟩, by decide +kernel, by decide⟩
abbrev mFacts_saltByWeather : qM := (⟨"SaltOffice$Facts", "saltByWeather", "(IIII)I"⟩, prog_2_method_4_code, 9, (Option.some Jvm.ClassFile.FieldType.int))
set_option maxRecDepth 30000 in
theorem mmFacts_saltByWeather : q_mM (qGG D cA b E) mFacts_saltByWeather 4 := ⟨(q_t5 172 rfl rfl), by decide +kernel, (q_t1 11 (by decide +kernel) rfl), ⟨by decide, by decide⟩, by decide +kernel, by decide⟩
abbrev mMath_min_f86c9 : qM := (⟨"java/lang/Math", "min", "(JJ)J"⟩, prog_17_method_70_code, 4, (Option.some Jvm.ClassFile.FieldType.long))
abbrev mRun_tellMonth : qM := (⟨"SaltOffice$Run", "tellMonth", "()V"⟩, prog_9_method_11_code, 3, (Option.none : Option Jvm.ClassFile.FieldType))
set_option maxRecDepth 30000 in
theorem mmRun_tellMonth : q_mM (qGG D cA b E) mRun_tellMonth 0 := ⟨(q_t5 182 rfl rfl), by decide +kernel, (q_t1 12 (by decide +kernel) rfl), ⟨by decide, by decide⟩, by decide +kernel, by decide⟩
abbrev mRun_askCommon : qM := (⟨"SaltOffice$Run", "askCommon", "()V"⟩, prog_9_method_12_code, 1, (Option.none : Option Jvm.ClassFile.FieldType))
set_option maxRecDepth 30000 in
theorem mmRun_askCommon : q_mM (qGG D cA b E) mRun_askCommon 0 := ⟨(q_t5 186 rfl rfl), by decide +kernel, (q_t1 12 (by decide +kernel) rfl), ⟨by decide, by decide⟩, by decide +kernel, by decide⟩
abbrev mRealm_allSalt : qM := (⟨"SaltOffice$Realm", "allSalt", "(I)I"⟩, prog_6_method_4_code, 4, (Option.some Jvm.ClassFile.FieldType.int))
set_option maxRecDepth 30000 in
theorem mmRealm_allSalt : q_mM (qGG D cA b E) mRealm_allSalt 1 := ⟨(q_t5 190 rfl rfl), by decide +kernel, (q_t1 13 (by decide +kernel) rfl), ⟨by decide, by decide⟩, by decide +kernel, by decide⟩
abbrev mReform_tell : qM := (⟨"SaltOffice$Reform", "tell", "(I[I)I"⟩, prog_8_method_16_code, 6, (Option.some Jvm.ClassFile.FieldType.int))
set_option maxRecDepth 30000 in
theorem mmReform_tell : q_mM (qGG D cA b E) mReform_tell 2 := ⟨(q_t5 194 rfl rfl), by decide +kernel, (q_t1 9 (by decide +kernel) rfl), ⟨by decide, by decide⟩, by decide +kernel, by decide⟩
abbrev mReform_isJoint : qM := (⟨"SaltOffice$Reform", "isJoint", "(I)Z"⟩, prog_8_method_17_code, 1, (Option.some Jvm.ClassFile.FieldType.boolean))
set_option maxRecDepth 30000 in
theorem mmReform_isJoint : q_mM (qGG D cA b E) mReform_isJoint 1 := ⟨(q_t5 197 rfl rfl), by decide +kernel, (q_t1 9 (by decide +kernel) rfl), ⟨by decide, by decide⟩, by decide +kernel, by decide⟩
abbrev mReform_join : qM := (⟨"SaltOffice$Reform", "join", "(III)I"⟩, prog_8_method_18_code, 3, (Option.some Jvm.ClassFile.FieldType.int))
set_option maxRecDepth 30000 in
theorem mmReform_join : q_mM (qGG D cA b E) mReform_join 3 := ⟨(q_t5 200 rfl rfl), by decide +kernel, (q_t1 9 (by decide +kernel) rfl), ⟨by decide, by decide⟩, by decide +kernel, by decide⟩
abbrev mRealm_refillGrain : qM := (⟨"SaltOffice$Realm", "refillGrain", "(LSaltOffice$Land;)V"⟩, prog_6_method_3_code, 2, (Option.none : Option Jvm.ClassFile.FieldType))
set_option maxRecDepth 30000 in
theorem mmRealm_refillGrain : q_mM (qGG D cA b E) mRealm_refillGrain 1 := ⟨(q_t5 206 rfl rfl), by decide +kernel, (q_t1 13 (by decide +kernel) rfl), ⟨by decide, by decide⟩, by decide +kernel, by decide⟩
abbrev mRun_bringLoads : qM := (⟨"SaltOffice$Run", "bringLoads", "()V"⟩, prog_9_method_14_code, 2, (Option.none : Option Jvm.ClassFile.FieldType))
set_option maxRecDepth 30000 in
theorem mmRun_bringLoads : q_mM (qGG D cA b E) mRun_bringLoads 0 := ⟨(q_t5 210 rfl rfl), by decide +kernel, (q_t1 12 (by decide +kernel) rfl), ⟨by decide, by decide⟩, by decide +kernel, by decide⟩
abbrev mRun_bringGrain : qM := (⟨"SaltOffice$Run", "bringGrain", "(I)V"⟩, prog_9_method_15_code, 2, (Option.none : Option Jvm.ClassFile.FieldType))
set_option maxRecDepth 30000 in
theorem mmRun_bringGrain : q_mM (qGG D cA b E) mRun_bringGrain 1 := ⟨(q_t5 214 rfl rfl), by decide +kernel, (q_t1 12 (by decide +kernel) rfl), ⟨by decide, by decide⟩, by decide +kernel, by decide⟩
abbrev mPapers_give : qM := (⟨"SaltOffice$Papers", "give", "(IIIIII)V"⟩, prog_5_method_3_code, 8, (Option.none : Option Jvm.ClassFile.FieldType))
set_option maxRecDepth 30000 in
theorem mmPapers_give : q_mM (qGG D cA b E) mPapers_give 6 := ⟨(q_t5 218 rfl rfl), by decide +kernel, (q_t1 14 (by decide +kernel) rfl), ⟨by decide, by decide⟩, by decide +kernel, by decide⟩
abbrev mRun_sellSalt : qM := (⟨"SaltOffice$Run", "sellSalt", "(I)V"⟩, prog_9_method_16_code, 6, (Option.none : Option Jvm.ClassFile.FieldType))
set_option maxRecDepth 30000 in
theorem mmRun_sellSalt : q_mM (qGG D cA b E) mRun_sellSalt 1 := ⟨(q_t5 222 rfl rfl), by decide +kernel, (q_t1 12 (by decide +kernel) rfl), ⟨by decide, by decide⟩, by decide +kernel, by decide⟩
abbrev mRealm_priceIn : qM := (⟨"SaltOffice$Realm", "priceIn", "(LSaltOffice$Land;I)I"⟩, prog_6_method_5_code, 7, (Option.some Jvm.ClassFile.FieldType.int))
set_option maxRecDepth 30000 in
theorem mmRealm_priceIn : q_mM (qGG D cA b E) mRealm_priceIn 2 := ⟨(q_t5 226 rfl rfl), by decide +kernel, (q_t1 13 (by decide +kernel) rfl), ⟨by decide, by decide⟩, by decide +kernel, by decide⟩
abbrev mMath_max_f86c9 : qM := (⟨"java/lang/Math", "max", "(JJ)J"⟩, prog_17_method_66_code, 4, (Option.some Jvm.ClassFile.FieldType.long))
abbrev mLoads_forgetCome : qM := (⟨"SaltOffice$Loads", "forgetCome", "(I)V"⟩, prog_4_method_7_code, 2, (Option.none : Option Jvm.ClassFile.FieldType))
set_option maxRecDepth 30000 in
theorem mmLoads_forgetCome : q_mM (qGG D cA b E) mLoads_forgetCome 1 := ⟨(q_t5 234 rfl rfl), by decide +kernel, (q_t1 15 (by decide +kernel) rfl), ⟨by decide, by decide⟩, by decide +kernel, by decide⟩
abbrev mRun_drawPapers : qM := (⟨"SaltOffice$Run", "drawPapers", "()V"⟩, prog_9_method_17_code, 2, (Option.none : Option Jvm.ClassFile.FieldType))
set_option maxRecDepth 30000 in
theorem mmRun_drawPapers : q_mM (qGG D cA b E) mRun_drawPapers 0 := ⟨(q_t5 238 rfl rfl), by decide +kernel, (q_t1 12 (by decide +kernel) rfl), ⟨by decide, by decide⟩, by decide +kernel, by decide⟩
abbrev mPapers_closeQueue : qM := (⟨"SaltOffice$Papers", "closeQueue", "()V"⟩, prog_5_method_10_code, 3, (Option.none : Option Jvm.ClassFile.FieldType))
set_option maxRecDepth 30000 in
theorem mmPapers_closeQueue : q_mM (qGG D cA b E) mPapers_closeQueue 0 := ⟨(q_t6 2 rfl rfl), by decide +kernel, (q_t1 14 (by decide +kernel) rfl), ⟨by decide, by decide⟩, by decide +kernel, by decide⟩
abbrev mRun_classAll : qM := (⟨"SaltOffice$Run", "classAll", "()V"⟩, prog_9_method_18_code, 4, (Option.none : Option Jvm.ClassFile.FieldType))
set_option maxRecDepth 30000 in
theorem mmRun_classAll : q_mM (qGG D cA b E) mRun_classAll 0 := ⟨(q_t6 6 rfl rfl), by decide +kernel, (q_t1 12 (by decide +kernel) rfl), ⟨by decide, by decide⟩, by decide +kernel, by decide⟩
abbrev mRun_drawAt : qM := (⟨"SaltOffice$Run", "drawAt", "(I)V"⟩, prog_9_method_19_code, 6, (Option.none : Option Jvm.ClassFile.FieldType))
set_option maxRecDepth 30000 in
theorem mmRun_drawAt : q_mM (qGG D cA b E) mRun_drawAt 1 := ⟨(q_t6 10 rfl rfl), by decide +kernel, (q_t1 12 (by decide +kernel) rfl), ⟨by decide, by decide⟩, by decide +kernel, by decide⟩
abbrev mRun_townFor : qM := (⟨"SaltOffice$Run", "townFor", "(I)I"⟩, prog_9_method_21_code, 7, (Option.some Jvm.ClassFile.FieldType.int))
set_option maxRecDepth 30000 in
theorem mmRun_townFor : q_mM (qGG D cA b E) mRun_townFor 1 := ⟨(q_t6 14 rfl rfl), by decide +kernel, (q_t1 12 (by decide +kernel) rfl), ⟨by decide, by decide⟩, by decide +kernel, by decide⟩
abbrev mRun_worthIn : qM := (⟨"SaltOffice$Run", "worthIn", "(III)J"⟩, prog_9_method_22_code, 7, (Option.some Jvm.ClassFile.FieldType.long))
set_option maxRecDepth 30000 in
theorem mmRun_worthIn : q_mM (qGG D cA b E) mRun_worthIn 3 := ⟨(q_t6 20 rfl rfl), by decide +kernel, (q_t1 12 (by decide +kernel) rfl), ⟨by decide, by decide⟩, by decide +kernel, by decide⟩
abbrev mOffice_monthsOfWay : qM := (⟨"SaltOffice", "monthsOfWay", "(I)I"⟩, prog_1_method_29_code, 1, (Option.some Jvm.ClassFile.FieldType.int))
set_option maxRecDepth 30000 in
theorem mmOffice_monthsOfWay : q_mM (qGG D cA b E) mOffice_monthsOfWay 1 := ⟨(q_t6 23 rfl rfl), by decide +kernel, (q_t1 1 (by decide +kernel) rfl), ⟨by decide, by decide⟩, by decide +kernel, by decide⟩
abbrev mRun_drawPaper : qM := (⟨"SaltOffice$Run", "drawPaper", "(III)V"⟩, prog_9_method_20_code, 9, (Option.none : Option Jvm.ClassFile.FieldType))
set_option maxRecDepth 30000 in
theorem mmRun_drawPaper : q_mM (qGG D cA b E) mRun_drawPaper 3 := ⟨(q_t6 27 rfl rfl), by decide +kernel, (q_t1 12 (by decide +kernel) rfl), ⟨by decide, by decide⟩, by decide +kernel, by decide⟩
abbrev mPapers_draw : qM := (⟨"SaltOffice$Papers", "draw", "(II)V"⟩, prog_5_method_7_code, 3, (Option.none : Option Jvm.ClassFile.FieldType))
set_option maxRecDepth 30000 in
theorem mmPapers_draw : q_mM (qGG D cA b E) mPapers_draw 2 := ⟨(q_t6 31 rfl rfl), by decide +kernel, (q_t1 14 (by decide +kernel) rfl), ⟨by decide, by decide⟩, by decide +kernel, by decide⟩
abbrev mLoads_sendSalt : qM := (⟨"SaltOffice$Loads", "sendSalt", "(IIIII)V"⟩, prog_4_method_3_code, 6, (Option.none : Option Jvm.ClassFile.FieldType))
set_option maxRecDepth 30000 in
theorem mmLoads_sendSalt : q_mM (qGG D cA b E) mLoads_sendSalt 5 := ⟨(q_t6 36 rfl rfl), by decide +kernel, (q_t1 15 (by decide +kernel) rfl), ⟨by decide, by decide⟩, by decide +kernel, by decide⟩
end Links
