/-! Methods and links: by program. -/
section Links
variable {D : va_G} {cA : FieldType → ClassId} {b : Nat} {E : State → Prop}
abbrev mLoads_send : qM := (⟨"SaltOffice$Loads", "send", "(IIIIII)V"⟩, prog_4_method_5_code, 7, (Option.none : Option Jvm.ClassFile.FieldType))
set_option maxRecDepth 30000 in
theorem mmLoads_send : q_mM (qGG D cA b E) mLoads_send 6 := ⟨(q_t6 40 rfl rfl), by decide +kernel, (q_t1 15 (by decide +kernel) rfl), ⟨by decide, by decide⟩, by decide +kernel, by decide⟩
abbrev mRealm_eat : qM := (⟨"SaltOffice$Realm", "eat", "(LSaltOffice$Land;)I"⟩, prog_6_method_6_code, 5, (Option.some Jvm.ClassFile.FieldType.int))
set_option maxRecDepth 30000 in
theorem mmRealm_eat : q_mM (qGG D cA b E) mRealm_eat 1 := ⟨(q_t6 46 rfl rfl), by decide +kernel, (q_t1 13 (by decide +kernel) rfl), ⟨by decide, by decide⟩, by decide +kernel, by decide⟩
abbrev mRealm_use : qM := (⟨"SaltOffice$Realm", "use", "(LSaltOffice$Land;)V"⟩, prog_6_method_7_code, 3, (Option.none : Option Jvm.ClassFile.FieldType))
set_option maxRecDepth 30000 in
theorem mmRealm_use : q_mM (qGG D cA b E) mRealm_use 1 := ⟨(q_t6 51 rfl rfl), by decide +kernel, (q_t1 13 (by decide +kernel) rfl), ⟨by decide, by decide⟩, by decide +kernel, by decide⟩
abbrev mRun_takeWays : qM := (⟨"SaltOffice$Run", "takeWays", "()V"⟩, prog_9_method_26_code, 2, (Option.none : Option Jvm.ClassFile.FieldType))
set_option maxRecDepth 30000 in
theorem mmRun_takeWays : q_mM (qGG D cA b E) mRun_takeWays 0 := ⟨(q_t6 55 rfl rfl), by decide +kernel, (q_t1 12 (by decide +kernel) rfl), ⟨by decide, by decide⟩, by decide +kernel, by decide⟩
abbrev mRecords_keepBook : qM := (⟨"SaltOffice$Records", "keepBook", "(IIJIJ)V"⟩, prog_7_method_3_code, 9, (Option.none : Option Jvm.ClassFile.FieldType))
set_option maxRecDepth 30000 in
theorem mmRecords_keepBook : q_mM (qGG D cA b E) mRecords_keepBook 5 := ⟨(q_t6 59 rfl rfl), by decide +kernel, (q_t1 16 (by decide +kernel) rfl), ⟨by decide, by decide⟩, by decide +kernel, by decide⟩
abbrev mWay_choose : qM := (⟨"SaltOffice$Way", "choose", "(LSaltOffice$Run;I)V"⟩, prog_12_method_2_code, 4, (Option.none : Option Jvm.ClassFile.FieldType))
set_option maxRecDepth 30000 in
theorem mmWay_choose : q_mM (qGG D cA b E) mWay_choose 2 := ⟨(q_t6 63 rfl rfl), by decide +kernel, (q_t1 17 (by decide +kernel) rfl), ⟨by decide, by decide⟩, by decide +kernel, by decide⟩
abbrev mWay_weighCarrying : qM := (⟨"SaltOffice$Way", "weighCarrying", "(LSaltOffice$Run;I)V"⟩, prog_12_method_5_code, 9, (Option.none : Option Jvm.ClassFile.FieldType))
set_option maxRecDepth 30000 in
theorem mmWay_weighCarrying : q_mM (qGG D cA b E) mWay_weighCarrying 2 := ⟨(q_t6 69 rfl rfl), by decide +kernel, (q_t1 17 (by decide +kernel) rfl), ⟨by decide, by decide⟩, by decide +kernel, by decide⟩
abbrev mRun_carryingCost : qM := (⟨"SaltOffice$Run", "carryingCost", "(II)I"⟩, prog_9_method_23_code, 3, (Option.some Jvm.ClassFile.FieldType.int))
set_option maxRecDepth 30000 in
theorem mmRun_carryingCost : q_mM (qGG D cA b E) mRun_carryingCost 2 := ⟨(q_t6 74 rfl rfl), by decide +kernel, (q_t1 12 (by decide +kernel) rfl), ⟨by decide, by decide⟩, by decide +kernel, by decide⟩
abbrev mWay_affordable : qM := (⟨"SaltOffice$Way", "affordable", "(LSaltOffice$Run;II)I"⟩, prog_12_method_4_code, 4, (Option.some Jvm.ClassFile.FieldType.int))
set_option maxRecDepth 30000 in
theorem mmWay_affordable : q_mM (qGG D cA b E) mWay_affordable 3 := ⟨(q_t6 77 rfl rfl), by decide +kernel, (q_t1 17 (by decide +kernel) rfl), ⟨by decide, by decide⟩, by decide +kernel, by decide⟩
abbrev mRun_rateAt : qM := (⟨"SaltOffice$Run", "rateAt", "(II)I"⟩, prog_9_method_13_code, 4, (Option.some Jvm.ClassFile.FieldType.int))
set_option maxRecDepth 30000 in
theorem mmRun_rateAt : q_mM (qGG D cA b E) mRun_rateAt 2 := ⟨(q_t6 83 rfl rfl), by decide +kernel, (q_t1 12 (by decide +kernel) rfl), ⟨by decide, by decide⟩, by decide +kernel, by decide⟩
abbrev mWay_weigh : qM := (⟨"SaltOffice$Way", "weigh", "(IIIIIJ)V"⟩, prog_12_method_3_code, 8, (Option.none : Option Jvm.ClassFile.FieldType))
set_option maxRecDepth 30000 in
theorem mmWay_weigh : q_mM (qGG D cA b E) mWay_weigh 6 := ⟨(q_t6 87 rfl rfl), by decide +kernel, (q_t1 17 (by decide +kernel) rfl), ⟨by decide, by decide⟩, by decide +kernel, by decide⟩
abbrev mWay_weighFarming : qM := (⟨"SaltOffice$Way", "weighFarming", "(LSaltOffice$Run;I)V"⟩, prog_12_method_6_code, 7, (Option.none : Option Jvm.ClassFile.FieldType))
set_option maxRecDepth 30000 in
theorem mmWay_weighFarming : q_mM (qGG D cA b E) mWay_weighFarming 2 := ⟨(q_t6 91 rfl rfl), by decide +kernel, (q_t1 17 (by decide +kernel) rfl), ⟨by decide, by decide⟩, by decide +kernel, by decide⟩
abbrev mRun_hasRipeFarm : qM := (⟨"SaltOffice$Run", "hasRipeFarm", "(II)Z"⟩, prog_9_method_25_code, 3, (Option.some Jvm.ClassFile.FieldType.boolean))
set_option maxRecDepth 30000 in
theorem mmRun_hasRipeFarm : q_mM (qGG D cA b E) mRun_hasRipeFarm 2 := ⟨(q_t6 95 rfl rfl), by decide +kernel, (q_t1 12 (by decide +kernel) rfl), ⟨by decide, by decide⟩, by decide +kernel, by decide⟩
abbrev mRun_hasFarm : qM := (⟨"SaltOffice$Run", "hasFarm", "(II)Z"⟩, prog_9_method_24_code, 3, (Option.some Jvm.ClassFile.FieldType.boolean))
set_option maxRecDepth 30000 in
theorem mmRun_hasFarm : q_mM (qGG D cA b E) mRun_hasFarm 2 := ⟨(q_t6 99 rfl rfl), by decide +kernel, (q_t1 12 (by decide +kernel) rfl), ⟨by decide, by decide⟩, by decide +kernel, by decide⟩
abbrev mWay_weighFounding : qM := (⟨"SaltOffice$Way", "weighFounding", "(LSaltOffice$Run;I)V"⟩, prog_12_method_7_code, 6, (Option.none : Option Jvm.ClassFile.FieldType))
set_option maxRecDepth 30000 in
theorem mmWay_weighFounding : q_mM (qGG D cA b E) mWay_weighFounding 2 := ⟨(q_t6 103 rfl rfl), by decide +kernel, (q_t1 17 (by decide +kernel) rfl), ⟨by decide, by decide⟩, by decide +kernel, by decide⟩
abbrev mWay_weighBuying : qM := (⟨"SaltOffice$Way", "weighBuying", "(LSaltOffice$Run;I)V"⟩, prog_12_method_8_code, 5, (Option.none : Option Jvm.ClassFile.FieldType))
set_option maxRecDepth 30000 in
theorem mmWay_weighBuying : q_mM (qGG D cA b E) mWay_weighBuying 2 := ⟨(q_t6 109 rfl rfl), by decide +kernel, (q_t1 17 (by decide +kernel) rfl), ⟨by decide, by decide⟩, by decide +kernel, by decide⟩
abbrev mRun_takeWay : qM := (⟨"SaltOffice$Run", "takeWay", "(I)V"⟩, prog_9_method_27_code, 4, (Option.none : Option Jvm.ClassFile.FieldType))
set_option maxRecDepth 30000 in
theorem mmRun_takeWay : q_mM (qGG D cA b E) mRun_takeWay 1 := ⟨(q_t6 113 rfl rfl), by decide +kernel, (q_t1 12 (by decide +kernel) rfl), ⟨by decide, by decide⟩, by decide +kernel, by decide⟩
abbrev mRun_carryGrain : qM := (⟨"SaltOffice$Run", "carryGrain", "(I)V"⟩, prog_9_method_28_code, 3, (Option.none : Option Jvm.ClassFile.FieldType))
set_option maxRecDepth 30000 in
theorem mmRun_carryGrain : q_mM (qGG D cA b E) mRun_carryGrain 1 := ⟨(q_t6 117 rfl rfl), by decide +kernel, (q_t1 12 (by decide +kernel) rfl), ⟨by decide, by decide⟩, by decide +kernel, by decide⟩
abbrev mLoads_sendGrain : qM := (⟨"SaltOffice$Loads", "sendGrain", "(ILSaltOffice$Way;II)V"⟩, prog_4_method_4_code, 5, (Option.none : Option Jvm.ClassFile.FieldType))
set_option maxRecDepth 30000 in
theorem mmLoads_sendGrain : q_mM (qGG D cA b E) mLoads_sendGrain 4 := ⟨(q_t6 122 rfl rfl), by decide +kernel, (q_t1 15 (by decide +kernel) rfl), ⟨by decide, by decide⟩, by decide +kernel, by decide⟩
abbrev mRun_smuggleAll : qM := (⟨"SaltOffice$Run", "smuggleAll", "()V"⟩, prog_9_method_29_code, 3, (Option.none : Option Jvm.ClassFile.FieldType))
set_option maxRecDepth 30000 in
theorem mmRun_smuggleAll : q_mM (qGG D cA b E) mRun_smuggleAll 0 := ⟨(q_t6 126 rfl rfl), by decide +kernel, (q_t1 12 (by decide +kernel) rfl), ⟨by decide, by decide⟩, by decide +kernel, by decide⟩
abbrev mRun_smuggleBetween : qM := (⟨"SaltOffice$Run", "smuggleBetween", "(II)V"⟩, prog_9_method_30_code, 10, (Option.none : Option Jvm.ClassFile.FieldType))
set_option maxRecDepth 30000 in
theorem mmRun_smuggleBetween : q_mM (qGG D cA b E) mRun_smuggleBetween 2 := ⟨(q_t6 130 rfl rfl), by decide +kernel, (q_t1 12 (by decide +kernel) rfl), ⟨by decide, by decide⟩, by decide +kernel, by decide⟩
abbrev mMath_abs_0f7a4 : qM := (⟨"java/lang/Math", "abs", "(I)I"⟩, prog_17_method_59_code, 1, (Option.some Jvm.ClassFile.FieldType.int))
abbrev mRecords_keepRealm : qM := (⟨"SaltOffice$Records", "keepRealm", "(LSaltOffice$Realm;LSaltOffice$Land;LSaltOffice$Papers;I)V"⟩, prog_7_method_2_code, 6, (Option.none : Option Jvm.ClassFile.FieldType))
set_option maxRecDepth 30000 in
theorem mmRecords_keepRealm : q_mM (qGG D cA b E) mRecords_keepRealm 4 := ⟨(q_t6 137 rfl rfl), by decide +kernel, (q_t1 16 (by decide +kernel) rfl), ⟨by decide, by decide⟩, by decide +kernel, by decide⟩
abbrev mRun_finish : qM := (⟨"SaltOffice$Run", "finish", "()V"⟩, prog_9_method_5_code, 1, (Option.none : Option Jvm.ClassFile.FieldType))
set_option maxRecDepth 30000 in
theorem mmRun_finish : q_mM (qGG D cA b E) mRun_finish 0 := ⟨(q_t6 142 rfl rfl), by decide +kernel, (q_t1 12 (by decide +kernel) rfl), ⟨by decide, by decide⟩, by decide +kernel, by decide⟩
abbrev mOffice_ran : qM := (⟨"SaltOffice", "ran", "(I)J"⟩, prog_1_method_17_code, 2, (Option.some Jvm.ClassFile.FieldType.long))
set_option maxRecDepth 30000 in
theorem mmOffice_ran : q_mM (qGG D cA b E) mOffice_ran 1 := ⟨(q_t6 146 rfl rfl), by decide +kernel, (q_t1 1 (by decide +kernel) rfl), ⟨by decide, by decide⟩, by decide +kernel, by decide⟩
abbrev mOffice_fort : qM := (⟨"SaltOffice", "fort", "(III)I"⟩, prog_1_method_18_code, 4, (Option.some Jvm.ClassFile.FieldType.int))
set_option maxRecDepth 30000 in
theorem mmOffice_fort : q_mM (qGG D cA b E) mOffice_fort 3 := ⟨(q_t6 151 rfl rfl), by decide +kernel, (q_t1 1 (by decide +kernel) rfl), ⟨by decide, by decide⟩, by decide +kernel, by decide⟩
abbrev mOffice_ranMonth : qM := (⟨"SaltOffice", "ranMonth", "(I)Z"⟩, prog_1_method_28_code, 2, (Option.some Jvm.ClassFile.FieldType.boolean))
set_option maxRecDepth 30000 in
theorem mmOffice_ranMonth : q_mM (qGG D cA b E) mOffice_ranMonth 1 := ⟨(q_t6 155 rfl rfl), by decide +kernel, (q_t1 1 (by decide +kernel) rfl), ⟨by decide, by decide⟩, by decide +kernel, by decide⟩
abbrev mOffice_pan : qM := (⟨"SaltOffice", "pan", "(III)I"⟩, prog_1_method_19_code, 4, (Option.some Jvm.ClassFile.FieldType.int))
set_option maxRecDepth 30000 in
theorem mmOffice_pan : q_mM (qGG D cA b E) mOffice_pan 3 := ⟨(q_t6 159 rfl rfl), by decide +kernel, (q_t1 1 (by decide +kernel) rfl), ⟨by decide, by decide⟩, by decide +kernel, by decide⟩
abbrev mOffice_town : qM := (⟨"SaltOffice", "town", "(III)I"⟩, prog_1_method_20_code, 4, (Option.some Jvm.ClassFile.FieldType.int))
set_option maxRecDepth 30000 in
theorem mmOffice_town : q_mM (qGG D cA b E) mOffice_town 3 := ⟨(q_t6 163 rfl rfl), by decide +kernel, (q_t1 1 (by decide +kernel) rfl), ⟨by decide, by decide⟩, by decide +kernel, by decide⟩
abbrev mOffice_book : qM := (⟨"SaltOffice", "book", "(III)J"⟩, prog_1_method_21_code, 4, (Option.some Jvm.ClassFile.FieldType.long))
set_option maxRecDepth 30000 in
theorem mmOffice_book : q_mM (qGG D cA b E) mOffice_book 3 := ⟨(q_t6 167 rfl rfl), by decide +kernel, (q_t1 1 (by decide +kernel) rfl), ⟨by decide, by decide⟩, by decide +kernel, by decide⟩
abbrev mOffice_paper : qM := (⟨"SaltOffice", "paper", "(II)I"⟩, prog_1_method_22_code, 3, (Option.some Jvm.ClassFile.FieldType.int))
set_option maxRecDepth 30000 in
theorem mmOffice_paper : q_mM (qGG D cA b E) mOffice_paper 2 := ⟨(q_t6 171 rfl rfl), by decide +kernel, (q_t1 1 (by decide +kernel) rfl), ⟨by decide, by decide⟩, by decide +kernel, by decide⟩
abbrev mPapers_detail : qM := (⟨"SaltOffice$Papers", "detail", "(II)I"⟩, prog_5_method_11_code, 3, (Option.some Jvm.ClassFile.FieldType.int))
set_option maxRecDepth 30000 in
theorem mmPapers_detail : q_mM (qGG D cA b E) mPapers_detail 2 := ⟨(q_t6 175 rfl rfl), by decide +kernel, (q_t1 14 (by decide +kernel) rfl), ⟨by decide, by decide⟩, by decide +kernel, by decide⟩
abbrev mOffice_way : qM := (⟨"SaltOffice", "way", "(II)J"⟩, prog_1_method_23_code, 4, (Option.some Jvm.ClassFile.FieldType.long))
set_option maxRecDepth 30000 in
theorem mmOffice_way : q_mM (qGG D cA b E) mOffice_way 2 := ⟨(q_t6 179 rfl rfl), by decide +kernel, (q_t1 1 (by decide +kernel) rfl), ⟨by decide, by decide⟩, by decide +kernel, by decide⟩
abbrev mOffice_worth : qM := (⟨"SaltOffice", "worth", "(I)J"⟩, prog_1_method_24_code, 2, (Option.some Jvm.ClassFile.FieldType.long))
set_option maxRecDepth 30000 in
theorem mmOffice_worth : q_mM (qGG D cA b E) mOffice_worth 1 := ⟨(q_t6 185 rfl rfl), by decide +kernel, (q_t1 1 (by decide +kernel) rfl), ⟨by decide, by decide⟩, by decide +kernel, by decide⟩
abbrev mOffice_judge : qM := (⟨"SaltOffice", "judge", "(IIII)I"⟩, prog_1_method_25_code, 16, (Option.some Jvm.ClassFile.FieldType.int))
set_option maxRecDepth 30000 in
theorem mmOffice_judge : q_mM (qGG D cA b E) mOffice_judge 4 := ⟨(q_t6 191 rfl rfl), by decide +kernel, (q_t1 1 (by decide +kernel) rfl), ⟨by decide, by decide⟩, by decide +kernel, by decide⟩
abbrev mLong_compare_74951 : qM := (⟨"java/lang/Long", "compare", "(JJ)I"⟩, prog_16_method_42_code, 4, (Option.some Jvm.ClassFile.FieldType.int))
set_option maxRecDepth 30000 in
theorem mmLong_compare_74951 : q_mM (qGG D cA b E) mLong_compare_74951 2 := ⟨(q_t6 194 rfl rfl), by decide +kernel, (q_t1 22 (by decide +kernel) rfl), ⟨by decide, by decide⟩, by decide +kernel, by decide⟩
abbrev mOffice_compareWaits : qM := (⟨"SaltOffice", "compareWaits", "(JJJJ)I"⟩, prog_1_method_31_code, 8, (Option.some Jvm.ClassFile.FieldType.int))
set_option maxRecDepth 30000 in
theorem mmOffice_compareWaits : q_mM (qGG D cA b E) mOffice_compareWaits 4 := ⟨(q_t6 197 rfl rfl), by decide +kernel, (q_t1 1 (by decide +kernel) rfl), ⟨by decide, by decide⟩, by decide +kernel, by decide⟩
abbrev mOffice_about : qM := (⟨"SaltOffice", "about", "(I)I"⟩, prog_1_method_26_code, 3, (Option.some Jvm.ClassFile.FieldType.int))
set_option maxRecDepth 30000 in
theorem mmOffice_about : q_mM (qGG D cA b E) mOffice_about 1 := ⟨(q_t6 201 rfl rfl), by decide +kernel, (q_t1 1 (by decide +kernel) rfl), ⟨by decide, by decide⟩, by decide +kernel, by decide⟩
abbrev mModel_land : qM := (⟨"SaltOfficeModel", "land", "()I"⟩, prog_14_method_16_code, 1, (Option.some Jvm.ClassFile.FieldType.int))
set_option maxRecDepth 30000 in
theorem mmModel_land : q_mM (qGG D cA b E) mModel_land 0 := ⟨(q_t6 205 rfl rfl), by decide +kernel, (q_t1 18 (by decide +kernel) rfl), ⟨by decide, by decide⟩, by decide +kernel, by decide⟩
abbrev mModel_takeTape : qM := (⟨"SaltOfficeModel", "takeTape", "(Z)V"⟩, prog_14_method_15_code, 3, (Option.none : Option Jvm.ClassFile.FieldType))
set_option maxRecDepth 30000 in
theorem mmModel_takeTape : q_mM (qGG D cA b E) mModel_takeTape 1 := ⟨(q_t6 210 rfl rfl), by decide +kernel, (q_t1 18 (by decide +kernel) rfl), ⟨by decide, by decide⟩, by decide +kernel, by decide⟩
abbrev mModel_next : qM := (⟨"SaltOfficeModel", "next", "()V"⟩, prog_14_method_9_code, 3, (Option.none : Option Jvm.ClassFile.FieldType))
set_option maxRecDepth 30000 in
theorem mmModel_next : q_mM (qGG D cA b E) mModel_next 0 := ⟨(q_t6 214 rfl rfl), by decide +kernel, (q_t1 18 (by decide +kernel) rfl), ⟨by decide, by decide⟩, by decide +kernel, by decide⟩
abbrev mModel_sign : qM := (⟨"SaltOfficeModel", "sign", "(I)I"⟩, prog_14_method_1_code, 2, (Option.some Jvm.ClassFile.FieldType.int))
set_option maxRecDepth 30000 in
theorem mmModel_sign : q_mM (qGG D cA b E) mModel_sign 1 := ⟨(q_t6 218 rfl rfl), by decide +kernel, (q_t1 18 (by decide +kernel) rfl), ⟨by decide, by decide⟩, by decide +kernel, by decide⟩
abbrev mModel_pointAt : qM := (⟨"SaltOfficeModel", "pointAt", "(I)I"⟩, prog_14_method_7_code, 4, (Option.some Jvm.ClassFile.FieldType.int))
set_option maxRecDepth 30000 in
theorem mmModel_pointAt : q_mM (qGG D cA b E) mModel_pointAt 1 := ⟨(q_t6 222 rfl rfl), by decide +kernel, (q_t1 18 (by decide +kernel) rfl), ⟨by decide, by decide⟩, by decide +kernel, by decide⟩
abbrev mModel_isDigit : qM := (⟨"SaltOfficeModel", "isDigit", "(I)Z"⟩, prog_14_method_3_code, 1, (Option.some Jvm.ClassFile.FieldType.boolean))
set_option maxRecDepth 30000 in
theorem mmModel_isDigit : q_mM (qGG D cA b E) mModel_isDigit 1 := ⟨(q_t6 225 rfl rfl), by decide +kernel, (q_t1 18 (by decide +kernel) rfl), ⟨by decide, by decide⟩, by decide +kernel, by decide⟩
abbrev mModel_isLetter : qM := (⟨"SaltOfficeModel", "isLetter", "(I)Z"⟩, prog_14_method_2_code, 1, (Option.some Jvm.ClassFile.FieldType.boolean))
set_option maxRecDepth 30000 in
theorem mmModel_isLetter : q_mM (qGG D cA b E) mModel_isLetter 1 := ⟨(q_t6 228 rfl rfl), by decide +kernel, (q_t1 18 (by decide +kernel) rfl), ⟨by decide, by decide⟩, by decide +kernel, by decide⟩
abbrev mModel_isKept : qM := (⟨"SaltOfficeModel", "isKept", "(J)Z"⟩, prog_14_method_6_code, 3, (Option.some Jvm.ClassFile.FieldType.boolean))
set_option maxRecDepth 30000 in
theorem mmModel_isKept : q_mM (qGG D cA b E) mModel_isKept 1 := ⟨(q_t6 231 rfl rfl), by decide +kernel, (q_t1 18 (by decide +kernel) rfl), ⟨by decide, by decide⟩, by decide +kernel, by decide⟩
abbrev mModel_isSign : qM := (⟨"SaltOfficeModel", "isSign", "(I)Z"⟩, prog_14_method_8_code, 1, (Option.some Jvm.ClassFile.FieldType.boolean))
set_option maxRecDepth 30000 in
theorem mmModel_isSign : q_mM (qGG D cA b E) mModel_isSign 1 := ⟨(q_t7 26 rfl rfl), by decide +kernel, (q_t1 18 (by decide +kernel) rfl), ⟨by decide, by decide⟩, by decide +kernel, by decide⟩
abbrev mModel_isGood : qM := (⟨"SaltOfficeModel", "isGood", "()Z"⟩, prog_14_method_5_code, 1, (Option.some Jvm.ClassFile.FieldType.boolean))
set_option maxRecDepth 30000 in
theorem mmModel_isGood : q_mM (qGG D cA b E) mModel_isGood 0 := ⟨(q_t7 30 rfl rfl), by decide +kernel, (q_t1 18 (by decide +kernel) rfl), ⟨by decide, by decide⟩, by decide +kernel, by decide⟩
abbrev mModel_readLine : qM := (⟨"SaltOfficeModel", "readLine", "()V"⟩, prog_14_method_17_code, 5, (Option.none : Option Jvm.ClassFile.FieldType))
set_option maxRecDepth 30000 in
theorem mmModel_readLine : q_mM (qGG D cA b E) mModel_readLine 0 := ⟨(q_t7 34 rfl rfl), by decide +kernel, (q_t1 18 (by decide +kernel) rfl), ⟨by decide, by decide⟩, by decide +kernel, by decide⟩
abbrev mModel_isWord : qM := (⟨"SaltOfficeModel", "isWord", "(J)Z"⟩, prog_14_method_11_code, 3, (Option.some Jvm.ClassFile.FieldType.boolean))
set_option maxRecDepth 30000 in
theorem mmModel_isWord : q_mM (qGG D cA b E) mModel_isWord 1 := ⟨(q_t7 38 rfl rfl), by decide +kernel, (q_t1 18 (by decide +kernel) rfl), ⟨by decide, by decide⟩, by decide +kernel, by decide⟩
abbrev mModel_wrong : qM := (⟨"SaltOfficeModel", "wrong", "()V"⟩, prog_14_method_12_code, 1, (Option.none : Option Jvm.ClassFile.FieldType))
set_option maxRecDepth 30000 in
theorem mmModel_wrong : q_mM (qGG D cA b E) mModel_wrong 0 := ⟨(q_t7 42 rfl rfl), by decide +kernel, (q_t1 18 (by decide +kernel) rfl), ⟨by decide, by decide⟩, by decide +kernel, by decide⟩
abbrev mModel_fails : qM := (⟨"SaltOfficeModel", "fails", "(II)V"⟩, prog_14_method_4_code, 3, (Option.none : Option Jvm.ClassFile.FieldType))
set_option maxRecDepth 30000 in
theorem mmModel_fails : q_mM (qGG D cA b E) mModel_fails 2 := ⟨(q_t7 46 rfl rfl), by decide +kernel, (q_t1 18 (by decide +kernel) rfl), ⟨by decide, by decide⟩, by decide +kernel, by decide⟩
abbrev mModel_readRoad : qM := (⟨"SaltOfficeModel", "readRoad", "()V"⟩, prog_14_method_19_code, 2, (Option.none : Option Jvm.ClassFile.FieldType))
set_option maxRecDepth 30000 in
theorem mmModel_readRoad : q_mM (qGG D cA b E) mModel_readRoad 0 := ⟨(q_t7 50 rfl rfl), by decide +kernel, (q_t1 18 (by decide +kernel) rfl), ⟨by decide, by decide⟩, by decide +kernel, by decide⟩
abbrev mModel_point : qM := (⟨"SaltOfficeModel", "point", "()I"⟩, prog_14_method_18_code, 2, (Option.some Jvm.ClassFile.FieldType.int))
set_option maxRecDepth 30000 in
theorem mmModel_point : q_mM (qGG D cA b E) mModel_point 0 := ⟨(q_t7 54 rfl rfl), by decide +kernel, (q_t1 18 (by decide +kernel) rfl), ⟨by decide, by decide⟩, by decide +kernel, by decide⟩
abbrev mModel_must : qM := (⟨"SaltOfficeModel", "must", "(Z)V"⟩, prog_14_method_13_code, 2, (Option.none : Option Jvm.ClassFile.FieldType))
set_option maxRecDepth 30000 in
theorem mmModel_must : q_mM (qGG D cA b E) mModel_must 1 := ⟨(q_t7 58 rfl rfl), by decide +kernel, (q_t1 18 (by decide +kernel) rfl), ⟨by decide, by decide⟩, by decide +kernel, by decide⟩
abbrev mModel_numeral : qM := (⟨"SaltOfficeModel", "numeral", "(II)I"⟩, prog_14_method_14_code, 4, (Option.some Jvm.ClassFile.FieldType.int))
set_option maxRecDepth 30000 in
theorem mmModel_numeral : q_mM (qGG D cA b E) mModel_numeral 2 := ⟨(q_t7 62 rfl rfl), by decide +kernel, (q_t1 18 (by decide +kernel) rfl), ⟨by decide, by decide⟩, by decide +kernel, by decide⟩
abbrev mModel_readFort : qM := (⟨"SaltOfficeModel", "readFort", "()V"⟩, prog_14_method_22_code, 2, (Option.none : Option Jvm.ClassFile.FieldType))
set_option maxRecDepth 30000 in
theorem mmModel_readFort : q_mM (qGG D cA b E) mModel_readFort 0 := ⟨(q_t7 66 rfl rfl), by decide +kernel, (q_t1 18 (by decide +kernel) rfl), ⟨by decide, by decide⟩, by decide +kernel, by decide⟩
abbrev mModel_newName : qM := (⟨"SaltOfficeModel", "newName", "()J"⟩, prog_14_method_21_code, 3, (Option.some Jvm.ClassFile.FieldType.long))
set_option maxRecDepth 30000 in
theorem mmModel_newName : q_mM (qGG D cA b E) mModel_newName 0 := ⟨(q_t7 70 rfl rfl), by decide +kernel, (q_t1 18 (by decide +kernel) rfl), ⟨by decide, by decide⟩, by decide +kernel, by decide⟩
abbrev mModel_isTold : qM := (⟨"SaltOfficeModel", "isTold", "(J)Z"⟩, prog_14_method_20_code, 4, (Option.some Jvm.ClassFile.FieldType.boolean))
set_option maxRecDepth 30000 in
theorem mmModel_isTold : q_mM (qGG D cA b E) mModel_isTold 1 := ⟨(q_t7 74 rfl rfl), by decide +kernel, (q_t1 18 (by decide +kernel) rfl), ⟨by decide, by decide⟩, by decide +kernel, by decide⟩
abbrev mModel_readPan : qM := (⟨"SaltOfficeModel", "readPan", "()V"⟩, prog_14_method_23_code, 5, (Option.none : Option Jvm.ClassFile.FieldType))
set_option maxRecDepth 30000 in
theorem mmModel_readPan : q_mM (qGG D cA b E) mModel_readPan 0 := ⟨(q_t7 78 rfl rfl), by decide +kernel, (q_t1 18 (by decide +kernel) rfl), ⟨by decide, by decide⟩, by decide +kernel, by decide⟩
abbrev mModel_readTown : qM := (⟨"SaltOfficeModel", "readTown", "()V"⟩, prog_14_method_24_code, 2, (Option.none : Option Jvm.ClassFile.FieldType))
set_option maxRecDepth 30000 in
theorem mmModel_readTown : q_mM (qGG D cA b E) mModel_readTown 0 := ⟨(q_t7 82 rfl rfl), by decide +kernel, (q_t1 18 (by decide +kernel) rfl), ⟨by decide, by decide⟩, by decide +kernel, by decide⟩
abbrev mModel_is : qM := (⟨"SaltOfficeModel", "is", "(I)Z"⟩, prog_14_method_10_code, 2, (Option.some Jvm.ClassFile.FieldType.boolean))
set_option maxRecDepth 30000 in
theorem mmModel_is : q_mM (qGG D cA b E) mModel_is 1 := ⟨(q_t7 86 rfl rfl), by decide +kernel, (q_t1 18 (by decide +kernel) rfl), ⟨by decide, by decide⟩, by decide +kernel, by decide⟩
abbrev mModel_measure : qM := (⟨"SaltOfficeModel", "measure", "()V"⟩, prog_14_method_26_code, 5, (Option.none : Option Jvm.ClassFile.FieldType))
set_option maxRecDepth 30000 in
theorem mmModel_measure : q_mM (qGG D cA b E) mModel_measure 0 := ⟨(q_t7 90 rfl rfl), by decide +kernel, (q_t1 18 (by decide +kernel) rfl), ⟨by decide, by decide⟩, by decide +kernel, by decide⟩
abbrev mModel_fault : qM := (⟨"SaltOfficeModel", "fault", "(I)I"⟩, prog_14_method_25_code, 2, (Option.some Jvm.ClassFile.FieldType.int))
set_option maxRecDepth 30000 in
theorem mmModel_fault : q_mM (qGG D cA b E) mModel_fault 1 := ⟨(q_t7 95 rfl rfl), by decide +kernel, (q_t1 18 (by decide +kernel) rfl), ⟨by decide, by decide⟩, by decide +kernel, by decide⟩
abbrev mModel_days : qM := (⟨"SaltOfficeModel", "days", "(II)I"⟩, prog_14_method_28_code, 3, (Option.some Jvm.ClassFile.FieldType.int))
set_option maxRecDepth 30000 in
theorem mmModel_days : q_mM (qGG D cA b E) mModel_days 2 := ⟨(q_t7 99 rfl rfl), by decide +kernel, (q_t1 18 (by decide +kernel) rfl), ⟨by decide, by decide⟩, by decide +kernel, by decide⟩
abbrev mModel_isPoint : qM := (⟨"SaltOfficeModel", "isPoint", "(I)Z"⟩, prog_14_method_27_code, 1, (Option.some Jvm.ClassFile.FieldType.boolean))
set_option maxRecDepth 30000 in
theorem mmModel_isPoint : q_mM (qGG D cA b E) mModel_isPoint 1 := ⟨(q_t7 102 rfl rfl), by decide +kernel, (q_t1 18 (by decide +kernel) rfl), ⟨by decide, by decide⟩, by decide +kernel, by decide⟩
abbrev mModel_reform : qM := (⟨"SaltOfficeModel", "reform", "(I)I"⟩, prog_14_method_35_code, 3, (Option.some Jvm.ClassFile.FieldType.int))
set_option maxRecDepth 30000 in
theorem mmModel_reform : q_mM (qGG D cA b E) mModel_reform 1 := ⟨(q_t7 106 rfl rfl), by decide +kernel, (q_t1 18 (by decide +kernel) rfl), ⟨by decide, by decide⟩, by decide +kernel, by decide⟩
abbrev mModel_readReform : qM := (⟨"SaltOfficeModel", "readReform", "()V"⟩, prog_14_method_37_code, 3, (Option.none : Option Jvm.ClassFile.FieldType))
set_option maxRecDepth 30000 in
theorem mmModel_readReform : q_mM (qGG D cA b E) mModel_readReform 0 := ⟨(q_t7 110 rfl rfl), by decide +kernel, (q_t1 18 (by decide +kernel) rfl), ⟨by decide, by decide⟩, by decide +kernel, by decide⟩
abbrev mModel_e : qM := (⟨"SaltOfficeModel", "e", "()V"⟩, prog_14_method_40_code, 2, (Option.none : Option Jvm.ClassFile.FieldType))
set_option maxRecDepth 30000 in
theorem mmModel_e : q_mM (qGG D cA b E) mModel_e 0 := ⟨(q_t7 114 rfl rfl), by decide +kernel, (q_t1 18 (by decide +kernel) rfl), ⟨by decide, by decide⟩, by decide +kernel, by decide⟩
abbrev mModel_pile : qM := (⟨"SaltOfficeModel", "pile", "(II)V"⟩, prog_14_method_39_code, 3, (Option.none : Option Jvm.ClassFile.FieldType))
set_option maxRecDepth 30000 in
theorem mmModel_pile : q_mM (qGG D cA b E) mModel_pile 2 := ⟨(q_t7 118 rfl rfl), by decide +kernel, (q_t1 18 (by decide +kernel) rfl), ⟨by decide, by decide⟩, by decide +kernel, by decide⟩
abbrev mModel_unit : qM := (⟨"SaltOfficeModel", "unit", "()Z"⟩, prog_14_method_42_code, 3, (Option.some Jvm.ClassFile.FieldType.boolean))
set_option maxRecDepth 30000 in
theorem mmModel_unit : q_mM (qGG D cA b E) mModel_unit 0 := ⟨(q_t7 122 rfl rfl), by decide +kernel, (q_t1 18 (by decide +kernel) rfl), ⟨by decide, by decide⟩, by decide +kernel, by decide⟩
abbrev mModel_wordHere : qM := (⟨"SaltOfficeModel", "wordHere", "()I"⟩, prog_14_method_41_code, 5, (Option.some Jvm.ClassFile.FieldType.int))
set_option maxRecDepth 30000 in
theorem mmModel_wordHere : q_mM (qGG D cA b E) mModel_wordHere 0 := ⟨(q_t7 126 rfl rfl), by decide +kernel, (q_t1 18 (by decide +kernel) rfl), ⟨by decide, by decide⟩, by decide +kernel, by decide⟩
abbrev mModel_step : qM := (⟨"SaltOfficeModel", "step", "(II)V"⟩, prog_14_method_38_code, 3, (Option.none : Option Jvm.ClassFile.FieldType))
set_option maxRecDepth 30000 in
theorem mmModel_step : q_mM (qGG D cA b E) mModel_step 2 := ⟨(q_t7 130 rfl rfl), by decide +kernel, (q_t1 18 (by decide +kernel) rfl), ⟨by decide, by decide⟩, by decide +kernel, by decide⟩
abbrev mModel_behind : qM := (⟨"SaltOfficeModel", "behind", "()Z"⟩, prog_14_method_44_code, 3, (Option.some Jvm.ClassFile.FieldType.boolean))
set_option maxRecDepth 30000 in
theorem mmModel_behind : q_mM (qGG D cA b E) mModel_behind 0 := ⟨(q_t7 134 rfl rfl), by decide +kernel, (q_t1 18 (by decide +kernel) rfl), ⟨by decide, by decide⟩, by decide +kernel, by decide⟩
abbrev mModel_rankHere : qM := (⟨"SaltOfficeModel", "rankHere", "()I"⟩, prog_14_method_43_code, 1, (Option.some Jvm.ClassFile.FieldType.int))
set_option maxRecDepth 30000 in
theorem mmModel_rankHere : q_mM (qGG D cA b E) mModel_rankHere 0 := ⟨(q_t7 138 rfl rfl), by decide +kernel, (q_t1 18 (by decide +kernel) rfl), ⟨by decide, by decide⟩, by decide +kernel, by decide⟩
abbrev mModel_isCompared : qM := (⟨"SaltOfficeModel", "isCompared", "()Z"⟩, prog_14_method_45_code, 2, (Option.some Jvm.ClassFile.FieldType.boolean))
set_option maxRecDepth 30000 in
theorem mmModel_isCompared : q_mM (qGG D cA b E) mModel_isCompared 0 := ⟨(q_t7 142 rfl rfl), by decide +kernel, (q_t1 18 (by decide +kernel) rfl), ⟨by decide, by decide⟩, by decide +kernel, by decide⟩
abbrev mModel_lay : qM := (⟨"SaltOfficeModel", "lay", "(II)V"⟩, prog_14_method_36_code, 4, (Option.none : Option Jvm.ClassFile.FieldType))
set_option maxRecDepth 30000 in
theorem mmModel_lay : q_mM (qGG D cA b E) mModel_lay 2 := ⟨(q_t7 146 rfl rfl), by decide +kernel, (q_t1 18 (by decide +kernel) rfl), ⟨by decide, by decide⟩, by decide +kernel, by decide⟩
abbrev mModel_merchant : qM := (⟨"SaltOfficeModel", "merchant", "(I)I"⟩, prog_14_method_50_code, 2, (Option.some Jvm.ClassFile.FieldType.int))
set_option maxRecDepth 30000 in
theorem mmModel_merchant : q_mM (qGG D cA b E) mModel_merchant 1 := ⟨(q_t7 150 rfl rfl), by decide +kernel, (q_t1 18 (by decide +kernel) rfl), ⟨by decide, by decide⟩, by decide +kernel, by decide⟩
abbrev mModel_costs : qM := (⟨"SaltOfficeModel", "costs", "(IIIII)Z"⟩, prog_14_method_52_code, 6, (Option.some Jvm.ClassFile.FieldType.boolean))
set_option maxRecDepth 30000 in
theorem mmModel_costs : q_mM (qGG D cA b E) mModel_costs 5 := ⟨(q_t7 154 rfl rfl), by decide +kernel, (q_t1 18 (by decide +kernel) rfl), ⟨by decide, by decide⟩, by decide +kernel, by decide⟩
abbrev mModel_isIn : qM := (⟨"SaltOfficeModel", "isIn", "(III)Z"⟩, prog_14_method_51_code, 3, (Option.some Jvm.ClassFile.FieldType.boolean))
set_option maxRecDepth 30000 in
theorem mmModel_isIn : q_mM (qGG D cA b E) mModel_isIn 3 := ⟨(q_t7 157 rfl rfl), by decide +kernel, (q_t1 18 (by decide +kernel) rfl), ⟨by decide, by decide⟩, by decide +kernel, by decide⟩
abbrev mModel_weather : qM := (⟨"SaltOfficeModel", "weather", "(III)I"⟩, prog_14_method_55_code, 4, (Option.some Jvm.ClassFile.FieldType.int))
set_option maxRecDepth 30000 in
theorem mmModel_weather : q_mM (qGG D cA b E) mModel_weather 3 := ⟨(q_t7 161 rfl rfl), by decide +kernel, (q_t1 18 (by decide +kernel) rfl), ⟨by decide, by decide⟩, by decide +kernel, by decide⟩
abbrev mModel_pans : qM := (⟨"SaltOfficeModel", "pans", "()I"⟩, prog_14_method_30_code, 1, (Option.some Jvm.ClassFile.FieldType.int))
set_option maxRecDepth 30000 in
theorem mmModel_pans : q_mM (qGG D cA b E) mModel_pans 0 := ⟨(q_t7 165 rfl rfl), by decide +kernel, (q_t1 18 (by decide +kernel) rfl), ⟨by decide, by decide⟩, by decide +kernel, by decide⟩
abbrev mModel_isMonth : qM := (⟨"SaltOfficeModel", "isMonth", "(I)Z"⟩, prog_14_method_54_code, 1, (Option.some Jvm.ClassFile.FieldType.boolean))
set_option maxRecDepth 30000 in
theorem mmModel_isMonth : q_mM (qGG D cA b E) mModel_isMonth 1 := ⟨(q_t7 168 rfl rfl), by decide +kernel, (q_t1 18 (by decide +kernel) rfl), ⟨by decide, by decide⟩, by decide +kernel, by decide⟩
abbrev mModel_fact : qM := (⟨"SaltOfficeModel", "fact", "(IIII)I"⟩, prog_14_method_53_code, 5, (Option.some Jvm.ClassFile.FieldType.int))
set_option maxRecDepth 30000 in
theorem mmModel_fact : q_mM (qGG D cA b E) mModel_fact 4 := ⟨(q_t7 172 rfl rfl), by decide +kernel, (q_t1 18 (by decide +kernel) rfl), ⟨by decide, by decide⟩, by decide +kernel, by decide⟩
abbrev mModel_forged : qM := (⟨"SaltOfficeModel", "forged", "(II)I"⟩, prog_14_method_56_code, 3, (Option.some Jvm.ClassFile.FieldType.int))
set_option maxRecDepth 30000 in
theorem mmModel_forged : q_mM (qGG D cA b E) mModel_forged 2 := ⟨(q_t7 176 rfl rfl), by decide +kernel, (q_t1 18 (by decide +kernel) rfl), ⟨by decide, by decide⟩, by decide +kernel, by decide⟩
abbrev mModel_dead : qM := (⟨"SaltOfficeModel", "dead", "(III)I"⟩, prog_14_method_57_code, 4, (Option.some Jvm.ClassFile.FieldType.int))
set_option maxRecDepth 30000 in
theorem mmModel_dead : q_mM (qGG D cA b E) mModel_dead 3 := ⟨(q_t7 180 rfl rfl), by decide +kernel, (q_t1 18 (by decide +kernel) rfl), ⟨by decide, by decide⟩, by decide +kernel, by decide⟩
abbrev mModel_untell : qM := (⟨"SaltOfficeModel", "untell", "(I)Z"⟩, prog_14_method_58_code, 2, (Option.some Jvm.ClassFile.FieldType.boolean))
set_option maxRecDepth 30000 in
theorem mmModel_untell : q_mM (qGG D cA b E) mModel_untell 1 := ⟨(q_t7 184 rfl rfl), by decide +kernel, (q_t1 18 (by decide +kernel) rfl), ⟨by decide, by decide⟩, by decide +kernel, by decide⟩
abbrev mModel_later : qM := (⟨"SaltOfficeModel", "later", "(I)I"⟩, prog_14_method_59_code, 2, (Option.some Jvm.ClassFile.FieldType.int))
set_option maxRecDepth 30000 in
theorem mmModel_later : q_mM (qGG D cA b E) mModel_later 1 := ⟨(q_t7 188 rfl rfl), by decide +kernel, (q_t1 18 (by decide +kernel) rfl), ⟨by decide, by decide⟩, by decide +kernel, by decide⟩
abbrev mModel_run : qM := (⟨"SaltOfficeModel", "run", "(III)I"⟩, prog_14_method_96_code, 4, (Option.some Jvm.ClassFile.FieldType.int))
set_option maxRecDepth 30000 in
theorem mmModel_run : q_mM (qGG D cA b E) mModel_run 3 := ⟨(q_t7 193 rfl rfl), by decide +kernel, (q_t1 18 (by decide +kernel) rfl), ⟨by decide, by decide⟩, by decide +kernel, by decide⟩
abbrev mModel_live : qM := (⟨"SaltOfficeModel", "live", "(III)V"⟩, prog_14_method_94_code, 5, (Option.none : Option Jvm.ClassFile.FieldType))
set_option maxRecDepth 30000 in
theorem mmModel_live : q_mM (qGG D cA b E) mModel_live 3 := ⟨(q_t7 197 rfl rfl), by decide +kernel, (q_t1 18 (by decide +kernel) rfl), ⟨by decide, by decide⟩, by decide +kernel, by decide⟩
abbrev mModel_clear : qM := (⟨"SaltOfficeModel", "clear", "()V"⟩, prog_14_method_93_code, 3, (Option.none : Option Jvm.ClassFile.FieldType))
set_option maxRecDepth 30000 in
theorem mmModel_clear : q_mM (qGG D cA b E) mModel_clear 0 := ⟨(q_t7 201 rfl rfl), by decide +kernel, (q_t1 18 (by decide +kernel) rfl), ⟨by decide, by decide⟩, by decide +kernel, by decide⟩
abbrev mModel_forts : qM := (⟨"SaltOfficeModel", "forts", "()I"⟩, prog_14_method_29_code, 1, (Option.some Jvm.ClassFile.FieldType.int))
set_option maxRecDepth 30000 in
theorem mmModel_forts : q_mM (qGG D cA b E) mModel_forts 0 := ⟨(q_t7 205 rfl rfl), by decide +kernel, (q_t1 18 (by decide +kernel) rfl), ⟨by decide, by decide⟩, by decide +kernel, by decide⟩
abbrev mModel_counts : qM := (⟨"SaltOfficeModel", "counts", "(II)Z"⟩, prog_14_method_60_code, 3, (Option.some Jvm.ClassFile.FieldType.boolean))
set_option maxRecDepth 30000 in
theorem mmModel_counts : q_mM (qGG D cA b E) mModel_counts 2 := ⟨(q_t7 209 rfl rfl), by decide +kernel, (q_t1 18 (by decide +kernel) rfl), ⟨by decide, by decide⟩, by decide +kernel, by decide⟩
abbrev mModel_beginMonth : qM := (⟨"SaltOfficeModel", "beginMonth", "()V"⟩, prog_14_method_76_code, 2, (Option.none : Option Jvm.ClassFile.FieldType))
set_option maxRecDepth 30000 in
theorem mmModel_beginMonth : q_mM (qGG D cA b E) mModel_beginMonth 0 := ⟨(q_t7 213 rfl rfl), by decide +kernel, (q_t1 18 (by decide +kernel) rfl), ⟨by decide, by decide⟩, by decide +kernel, by decide⟩
abbrev mModel_bury : qM := (⟨"SaltOfficeModel", "bury", "(I)V"⟩, prog_14_method_77_code, 4, (Option.none : Option Jvm.ClassFile.FieldType))
set_option maxRecDepth 30000 in
theorem mmModel_bury : q_mM (qGG D cA b E) mModel_bury 1 := ⟨(q_t7 217 rfl rfl), by decide +kernel, (q_t1 18 (by decide +kernel) rfl), ⟨by decide, by decide⟩, by decide +kernel, by decide⟩
abbrev mModel_waits : qM := (⟨"SaltOfficeModel", "waits", "(I)Z"⟩, prog_14_method_61_code, 2, (Option.some Jvm.ClassFile.FieldType.boolean))
set_option maxRecDepth 30000 in
theorem mmModel_waits : q_mM (qGG D cA b E) mModel_waits 1 := ⟨(q_t7 221 rfl rfl), by decide +kernel, (q_t1 18 (by decide +kernel) rfl), ⟨by decide, by decide⟩, by decide +kernel, by decide⟩
abbrev mModel_forge : qM := (⟨"SaltOfficeModel", "forge", "(I)V"⟩, prog_14_method_74_code, 3, (Option.none : Option Jvm.ClassFile.FieldType))
set_option maxRecDepth 30000 in
theorem mmModel_forge : q_mM (qGG D cA b E) mModel_forge 1 := ⟨(q_t7 225 rfl rfl), by decide +kernel, (q_t1 18 (by decide +kernel) rfl), ⟨by decide, by decide⟩, by decide +kernel, by decide⟩
abbrev mModel_make : qM := (⟨"SaltOfficeModel", "make", "()V"⟩, prog_14_method_78_code, 4, (Option.none : Option Jvm.ClassFile.FieldType))
set_option maxRecDepth 30000 in
theorem mmModel_make : q_mM (qGG D cA b E) mModel_make 0 := ⟨(q_t7 229 rfl rfl), by decide +kernel, (q_t1 18 (by decide +kernel) rfl), ⟨by decide, by decide⟩, by decide +kernel, by decide⟩
abbrev mModel_tellMonth : qM := (⟨"SaltOfficeModel", "tellMonth", "()V"⟩, prog_14_method_79_code, 1, (Option.none : Option Jvm.ClassFile.FieldType))
set_option maxRecDepth 30000 in
theorem mmModel_tellMonth : q_mM (qGG D cA b E) mModel_tellMonth 0 := ⟨(q_t7 234 rfl rfl), by decide +kernel, (q_t1 18 (by decide +kernel) rfl), ⟨by decide, by decide⟩, by decide +kernel, by decide⟩
abbrev mModel_bounded : qM := (⟨"SaltOfficeModel", "bounded", "(II)I"⟩, prog_14_method_49_code, 5, (Option.some Jvm.ClassFile.FieldType.int))
set_option maxRecDepth 30000 in
theorem mmModel_bounded : q_mM (qGG D cA b E) mModel_bounded 2 := ⟨(q_t7 238 rfl rfl), by decide +kernel, (q_t1 18 (by decide +kernel) rfl), ⟨by decide, by decide⟩, by decide +kernel, by decide⟩
abbrev mModel_told : qM := (⟨"SaltOfficeModel", "told", "(II)I"⟩, prog_14_method_48_code, 7, (Option.some Jvm.ClassFile.FieldType.int))
set_option maxRecDepth 30000 in
theorem mmModel_told : q_mM (qGG D cA b E) mModel_told 2 := ⟨(q_t8 2 rfl rfl), by decide +kernel, (q_t1 18 (by decide +kernel) rfl), ⟨by decide, by decide⟩, by decide +kernel, by decide⟩
abbrev mModel_term : qM := (⟨"SaltOfficeModel", "term", "(II)I"⟩, prog_14_method_46_code, 3, (Option.some Jvm.ClassFile.FieldType.int))
set_option maxRecDepth 30000 in
theorem mmModel_term : q_mM (qGG D cA b E) mModel_term 2 := ⟨(q_t8 6 rfl rfl), by decide +kernel, (q_t1 18 (by decide +kernel) rfl), ⟨by decide, by decide⟩, by decide +kernel, by decide⟩
abbrev mModel_waitingAll : qM := (⟨"SaltOfficeModel", "waitingAll", "()I"⟩, prog_14_method_63_code, 3, (Option.some Jvm.ClassFile.FieldType.int))
set_option maxRecDepth 30000 in
theorem mmModel_waitingAll : q_mM (qGG D cA b E) mModel_waitingAll 0 := ⟨(q_t8 10 rfl rfl), by decide +kernel, (q_t1 18 (by decide +kernel) rfl), ⟨by decide, by decide⟩, by decide +kernel, by decide⟩
abbrev mModel_waitingAt : qM := (⟨"SaltOfficeModel", "waitingAt", "(I)I"⟩, prog_14_method_62_code, 4, (Option.some Jvm.ClassFile.FieldType.int))
set_option maxRecDepth 30000 in
theorem mmModel_waitingAt : q_mM (qGG D cA b E) mModel_waitingAt 1 := ⟨(q_t8 14 rfl rfl), by decide +kernel, (q_t1 18 (by decide +kernel) rfl), ⟨by decide, by decide⟩, by decide +kernel, by decide⟩
abbrev mModel_madeAll : qM := (⟨"SaltOfficeModel", "madeAll", "()I"⟩, prog_14_method_64_code, 3, (Option.some Jvm.ClassFile.FieldType.int))
set_option maxRecDepth 30000 in
theorem mmModel_madeAll : q_mM (qGG D cA b E) mModel_madeAll 0 := ⟨(q_t8 18 rfl rfl), by decide +kernel, (q_t1 18 (by decide +kernel) rfl), ⟨by decide, by decide⟩, by decide +kernel, by decide⟩
abbrev mModel_two : qM := (⟨"SaltOfficeModel", "two", "(III)I"⟩, prog_14_method_47_code, 3, (Option.some Jvm.ClassFile.FieldType.int))
set_option maxRecDepth 30000 in
theorem mmModel_two : q_mM (qGG D cA b E) mModel_two 3 := ⟨(q_t8 21 rfl rfl), by decide +kernel, (q_t1 18 (by decide +kernel) rfl), ⟨by decide, by decide⟩, by decide +kernel, by decide⟩
abbrev mModel_comes : qM := (⟨"SaltOfficeModel", "comes", "()V"⟩, prog_14_method_80_code, 5, (Option.none : Option Jvm.ClassFile.FieldType))
set_option maxRecDepth 30000 in
theorem mmModel_comes : q_mM (qGG D cA b E) mModel_comes 0 := ⟨(q_t8 25 rfl rfl), by decide +kernel, (q_t1 18 (by decide +kernel) rfl), ⟨by decide, by decide⟩, by decide +kernel, by decide⟩
abbrev mModel_priceOf : qM := (⟨"SaltOfficeModel", "priceOf", "(I)I"⟩, prog_14_method_65_code, 6, (Option.some Jvm.ClassFile.FieldType.int))
set_option maxRecDepth 30000 in
theorem mmModel_priceOf : q_mM (qGG D cA b E) mModel_priceOf 1 := ⟨(q_t8 29 rfl rfl), by decide +kernel, (q_t1 18 (by decide +kernel) rfl), ⟨by decide, by decide⟩, by decide +kernel, by decide⟩
abbrev mModel_give : qM := (⟨"SaltOfficeModel", "give", "(IIIIZ)V"⟩, prog_14_method_73_code, 7, (Option.none : Option Jvm.ClassFile.FieldType))
set_option maxRecDepth 30000 in
theorem mmModel_give : q_mM (qGG D cA b E) mModel_give 5 := ⟨(q_t8 34 rfl rfl), by decide +kernel, (q_t1 18 (by decide +kernel) rfl), ⟨by decide, by decide⟩, by decide +kernel, by decide⟩
abbrev mModel_classes : qM := (⟨"SaltOfficeModel", "classes", "()V"⟩, prog_14_method_81_code, 3, (Option.none : Option Jvm.ClassFile.FieldType))
set_option maxRecDepth 30000 in
theorem mmModel_classes : q_mM (qGG D cA b E) mModel_classes 0 := ⟨(q_t8 38 rfl rfl), by decide +kernel, (q_t1 18 (by decide +kernel) rfl), ⟨by decide, by decide⟩, by decide +kernel, by decide⟩
abbrev mModel_draw : qM := (⟨"SaltOfficeModel", "draw", "(I)V"⟩, prog_14_method_82_code, 6, (Option.none : Option Jvm.ClassFile.FieldType))
set_option maxRecDepth 30000 in
theorem mmModel_draw : q_mM (qGG D cA b E) mModel_draw 1 := ⟨(q_t8 42 rfl rfl), by decide +kernel, (q_t1 18 (by decide +kernel) rfl), ⟨by decide, by decide⟩, by decide +kernel, by decide⟩
abbrev mModel_worthOf : qM := (⟨"SaltOfficeModel", "worthOf", "(I)J"⟩, prog_14_method_69_code, 10, (Option.some Jvm.ClassFile.FieldType.long))
set_option maxRecDepth 30000 in
theorem mmModel_worthOf : q_mM (qGG D cA b E) mModel_worthOf 1 := ⟨(q_t8 46 rfl rfl), by decide +kernel, (q_t1 18 (by decide +kernel) rfl), ⟨by decide, by decide⟩, by decide +kernel, by decide⟩
abbrev mModel_aTwelfth : qM := (⟨"SaltOfficeModel", "aTwelfth", "(I)I"⟩, prog_14_method_68_code, 4, (Option.some Jvm.ClassFile.FieldType.int))
set_option maxRecDepth 30000 in
theorem mmModel_aTwelfth : q_mM (qGG D cA b E) mModel_aTwelfth 1 := ⟨(q_t8 51 rfl rfl), by decide +kernel, (q_t1 18 (by decide +kernel) rfl), ⟨by decide, by decide⟩, by decide +kernel, by decide⟩
abbrev mModel_atLeastOne : qM := (⟨"SaltOfficeModel", "atLeastOne", "(I)I"⟩, prog_14_method_67_code, 1, (Option.some Jvm.ClassFile.FieldType.int))
set_option maxRecDepth 30000 in
theorem mmModel_atLeastOne : q_mM (qGG D cA b E) mModel_atLeastOne 1 := ⟨(q_t8 54 rfl rfl), by decide +kernel, (q_t1 18 (by decide +kernel) rfl), ⟨by decide, by decide⟩, by decide +kernel, by decide⟩
abbrev mModel_towns : qM := (⟨"SaltOfficeModel", "towns", "()I"⟩, prog_14_method_31_code, 1, (Option.some Jvm.ClassFile.FieldType.int))
set_option maxRecDepth 30000 in
theorem mmModel_towns : q_mM (qGG D cA b E) mModel_towns 0 := ⟨(q_t8 58 rfl rfl), by decide +kernel, (q_t1 18 (by decide +kernel) rfl), ⟨by decide, by decide⟩, by decide +kernel, by decide⟩
abbrev mModel_panAt : qM := (⟨"SaltOfficeModel", "panAt", "(I)I"⟩, prog_14_method_33_code, 2, (Option.some Jvm.ClassFile.FieldType.int))
set_option maxRecDepth 30000 in
theorem mmModel_panAt : q_mM (qGG D cA b E) mModel_panAt 1 := ⟨(q_t8 62 rfl rfl), by decide +kernel, (q_t1 18 (by decide +kernel) rfl), ⟨by decide, by decide⟩, by decide +kernel, by decide⟩
abbrev mModel_townAt : qM := (⟨"SaltOfficeModel", "townAt", "(I)I"⟩, prog_14_method_34_code, 2, (Option.some Jvm.ClassFile.FieldType.int))
set_option maxRecDepth 30000 in
theorem mmModel_townAt : q_mM (qGG D cA b E) mModel_townAt 1 := ⟨(q_t8 66 rfl rfl), by decide +kernel, (q_t1 18 (by decide +kernel) rfl), ⟨by decide, by decide⟩, by decide +kernel, by decide⟩
abbrev mModel_monthsOf : qM := (⟨"SaltOfficeModel", "monthsOf", "(I)I"⟩, prog_14_method_66_code, 1, (Option.some Jvm.ClassFile.FieldType.int))
set_option maxRecDepth 30000 in
theorem mmModel_monthsOf : q_mM (qGG D cA b E) mModel_monthsOf 1 := ⟨(q_t8 69 rfl rfl), by decide +kernel, (q_t1 18 (by decide +kernel) rfl), ⟨by decide, by decide⟩, by decide +kernel, by decide⟩
abbrev mModel_drawOne : qM := (⟨"SaltOfficeModel", "drawOne", "(III)V"⟩, prog_14_method_83_code, 7, (Option.none : Option Jvm.ClassFile.FieldType))
set_option maxRecDepth 30000 in
theorem mmModel_drawOne : q_mM (qGG D cA b E) mModel_drawOne 3 := ⟨(q_t8 73 rfl rfl), by decide +kernel, (q_t1 18 (by decide +kernel) rfl), ⟨by decide, by decide⟩, by decide +kernel, by decide⟩
abbrev mModel_send : qM := (⟨"SaltOfficeModel", "send", "(IIZIIII)V"⟩, prog_14_method_75_code, 8, (Option.none : Option Jvm.ClassFile.FieldType))
set_option maxRecDepth 30000 in
theorem mmModel_send : q_mM (qGG D cA b E) mModel_send 7 := ⟨(q_t8 77 rfl rfl), by decide +kernel, (q_t1 18 (by decide +kernel) rfl), ⟨by decide, by decide⟩, by decide +kernel, by decide⟩
abbrev mModel_eat : qM := (⟨"SaltOfficeModel", "eat", "()V"⟩, prog_14_method_84_code, 3, (Option.none : Option Jvm.ClassFile.FieldType))
set_option maxRecDepth 30000 in
theorem mmModel_eat : q_mM (qGG D cA b E) mModel_eat 0 := ⟨(q_t8 81 rfl rfl), by decide +kernel, (q_t1 18 (by decide +kernel) rfl), ⟨by decide, by decide⟩, by decide +kernel, by decide⟩
abbrev mModel_fillTowns : qM := (⟨"SaltOfficeModel", "fillTowns", "()V"⟩, prog_14_method_90_code, 2, (Option.none : Option Jvm.ClassFile.FieldType))
set_option maxRecDepth 30000 in
theorem mmModel_fillTowns : q_mM (qGG D cA b E) mModel_fillTowns 0 := ⟨(q_t8 85 rfl rfl), by decide +kernel, (q_t1 18 (by decide +kernel) rfl), ⟨by decide, by decide⟩, by decide +kernel, by decide⟩
abbrev mModel_isDead : qM := (⟨"SaltOfficeModel", "isDead", "(I)Z"⟩, prog_14_method_72_code, 2, (Option.some Jvm.ClassFile.FieldType.boolean))
set_option maxRecDepth 30000 in
theorem mmModel_isDead : q_mM (qGG D cA b E) mModel_isDead 1 := ⟨(q_t8 89 rfl rfl), by decide +kernel, (q_t1 18 (by decide +kernel) rfl), ⟨by decide, by decide⟩, by decide +kernel, by decide⟩
abbrev mModel_act : qM := (⟨"SaltOfficeModel", "act", "(I)V"⟩, prog_14_method_89_code, 3, (Option.none : Option Jvm.ClassFile.FieldType))
set_option maxRecDepth 30000 in
theorem mmModel_act : q_mM (qGG D cA b E) mModel_act 1 := ⟨(q_t8 93 rfl rfl), by decide +kernel, (q_t1 18 (by decide +kernel) rfl), ⟨by decide, by decide⟩, by decide +kernel, by decide⟩
abbrev mModel_choose : qM := (⟨"SaltOfficeModel", "choose", "(I)V"⟩, prog_14_method_88_code, 8, (Option.none : Option Jvm.ClassFile.FieldType))
set_option maxRecDepth 30000 in
theorem mmModel_choose : q_mM (qGG D cA b E) mModel_choose 1 := ⟨(q_t8 97 rfl rfl), by decide +kernel, (q_t1 18 (by decide +kernel) rfl), ⟨by decide, by decide⟩, by decide +kernel, by decide⟩
abbrev mModel_bestPan : qM := (⟨"SaltOfficeModel", "bestPan", "()I"⟩, prog_14_method_70_code, 5, (Option.some Jvm.ClassFile.FieldType.int))
set_option maxRecDepth 30000 in
theorem mmModel_bestPan : q_mM (qGG D cA b E) mModel_bestPan 0 := ⟨(q_t8 101 rfl rfl), by decide +kernel, (q_t1 18 (by decide +kernel) rfl), ⟨by decide, by decide⟩, by decide +kernel, by decide⟩
abbrev mModel_fortAt : qM := (⟨"SaltOfficeModel", "fortAt", "(I)I"⟩, prog_14_method_32_code, 2, (Option.some Jvm.ClassFile.FieldType.int))
set_option maxRecDepth 30000 in
theorem mmModel_fortAt : q_mM (qGG D cA b E) mModel_fortAt 1 := ⟨(q_t8 105 rfl rfl), by decide +kernel, (q_t1 18 (by decide +kernel) rfl), ⟨by decide, by decide⟩, by decide +kernel, by decide⟩
abbrev mModel_least : qM := (⟨"SaltOfficeModel", "least", "(IJ)I"⟩, prog_14_method_86_code, 3, (Option.some Jvm.ClassFile.FieldType.int))
set_option maxRecDepth 30000 in
theorem mmModel_least : q_mM (qGG D cA b E) mModel_least 2 := ⟨(q_t8 108 rfl rfl), by decide +kernel, (q_t1 18 (by decide +kernel) rfl), ⟨by decide, by decide⟩, by decide +kernel, by decide⟩
abbrev mModel_affordable : qM := (⟨"SaltOfficeModel", "affordable", "(IJI)I"⟩, prog_14_method_87_code, 5, (Option.some Jvm.ClassFile.FieldType.int))
set_option maxRecDepth 30000 in
theorem mmModel_affordable : q_mM (qGG D cA b E) mModel_affordable 3 := ⟨(q_t8 112 rfl rfl), by decide +kernel, (q_t1 18 (by decide +kernel) rfl), ⟨by decide, by decide⟩, by decide +kernel, by decide⟩
abbrev mModel_rateFor : qM := (⟨"SaltOfficeModel", "rateFor", "(II)I"⟩, prog_14_method_71_code, 4, (Option.some Jvm.ClassFile.FieldType.int))
set_option maxRecDepth 30000 in
theorem mmModel_rateFor : q_mM (qGG D cA b E) mModel_rateFor 2 := ⟨(q_t8 116 rfl rfl), by decide +kernel, (q_t1 18 (by decide +kernel) rfl), ⟨by decide, by decide⟩, by decide +kernel, by decide⟩
abbrev mModel_weigh : qM := (⟨"SaltOfficeModel", "weigh", "(IIIIIJ)V"⟩, prog_14_method_85_code, 8, (Option.none : Option Jvm.ClassFile.FieldType))
set_option maxRecDepth 30000 in
theorem mmModel_weigh : q_mM (qGG D cA b E) mModel_weigh 6 := ⟨(q_t8 120 rfl rfl), by decide +kernel, (q_t1 18 (by decide +kernel) rfl), ⟨by decide, by decide⟩, by decide +kernel, by decide⟩
abbrev mModel_smuggle : qM := (⟨"SaltOfficeModel", "smuggle", "()V"⟩, prog_14_method_91_code, 5, (Option.none : Option Jvm.ClassFile.FieldType))
set_option maxRecDepth 30000 in
theorem mmModel_smuggle : q_mM (qGG D cA b E) mModel_smuggle 0 := ⟨(q_t8 126 rfl rfl), by decide +kernel, (q_t1 18 (by decide +kernel) rfl), ⟨by decide, by decide⟩, by decide +kernel, by decide⟩
abbrev mModel_cross : qM := (⟨"SaltOfficeModel", "cross", "(II)V"⟩, prog_14_method_92_code, 5, (Option.none : Option Jvm.ClassFile.FieldType))
set_option maxRecDepth 30000 in
theorem mmModel_cross : q_mM (qGG D cA b E) mModel_cross 2 := ⟨(q_t8 130 rfl rfl), by decide +kernel, (q_t1 18 (by decide +kernel) rfl), ⟨by decide, by decide⟩, by decide +kernel, by decide⟩
abbrev mModel_note : qM := (⟨"SaltOfficeModel", "note", "()V"⟩, prog_14_method_95_code, 2, (Option.none : Option Jvm.ClassFile.FieldType))
set_option maxRecDepth 30000 in
theorem mmModel_note : q_mM (qGG D cA b E) mModel_note 0 := ⟨(q_t8 134 rfl rfl), by decide +kernel, (q_t1 18 (by decide +kernel) rfl), ⟨by decide, by decide⟩, by decide +kernel, by decide⟩
abbrev mModel_keep : qM := (⟨"SaltOfficeModel", "keep", "()V"⟩, prog_14_method_113_code, 1, (Option.none : Option Jvm.ClassFile.FieldType))
set_option maxRecDepth 30000 in
theorem mmModel_keep : q_mM (qGG D cA b E) mModel_keep 0 := ⟨(q_t8 138 rfl rfl), by decide +kernel, (q_t1 18 (by decide +kernel) rfl), ⟨by decide, by decide⟩, by decide +kernel, by decide⟩
abbrev mModel_copy : qM := (⟨"SaltOfficeModel", "copy", "([I[II)V"⟩, prog_14_method_110_code, 4, (Option.none : Option Jvm.ClassFile.FieldType))
set_option maxRecDepth 30000 in
theorem mmModel_copy : q_mM (qGG D cA b E) mModel_copy 3 := ⟨(q_t8 141 rfl rfl), by decide +kernel, (q_t1 18 (by decide +kernel) rfl), ⟨by decide, by decide⟩, by decide +kernel, by decide⟩
abbrev mModel_copyTruths : qM := (⟨"SaltOfficeModel", "copyTruths", "([Z[ZI)V"⟩, prog_14_method_112_code, 4, (Option.none : Option Jvm.ClassFile.FieldType))
set_option maxRecDepth 30000 in
theorem mmModel_copyTruths : q_mM (qGG D cA b E) mModel_copyTruths 3 := ⟨(q_t8 144 rfl rfl), by decide +kernel, (q_t1 18 (by decide +kernel) rfl), ⟨by decide, by decide⟩, by decide +kernel, by decide⟩
abbrev mModel_copyLongs : qM := (⟨"SaltOfficeModel", "copyLongs", "([J[JI)V"⟩, prog_14_method_111_code, 4, (Option.none : Option Jvm.ClassFile.FieldType))
set_option maxRecDepth 30000 in
theorem mmModel_copyLongs : q_mM (qGG D cA b E) mModel_copyLongs 3 := ⟨(q_t8 147 rfl rfl), by decide +kernel, (q_t1 18 (by decide +kernel) rfl), ⟨by decide, by decide⟩, by decide +kernel, by decide⟩
abbrev mModel_ran : qM := (⟨"SaltOfficeModel", "ran", "(I)J"⟩, prog_14_method_98_code, 2, (Option.some Jvm.ClassFile.FieldType.long))
set_option maxRecDepth 30000 in
theorem mmModel_ran : q_mM (qGG D cA b E) mModel_ran 1 := ⟨(q_t8 151 rfl rfl), by decide +kernel, (q_t1 18 (by decide +kernel) rfl), ⟨by decide, by decide⟩, by decide +kernel, by decide⟩
abbrev mModel_waitMany : qM := (⟨"SaltOfficeModel", "waitMany", "()I"⟩, prog_14_method_97_code, 3, (Option.some Jvm.ClassFile.FieldType.int))
set_option maxRecDepth 30000 in
theorem mmModel_waitMany : q_mM (qGG D cA b E) mModel_waitMany 0 := ⟨(q_t8 156 rfl rfl), by decide +kernel, (q_t1 18 (by decide +kernel) rfl), ⟨by decide, by decide⟩, by decide +kernel, by decide⟩
abbrev mModel_fort : qM := (⟨"SaltOfficeModel", "fort", "(III)I"⟩, prog_14_method_100_code, 4, (Option.some Jvm.ClassFile.FieldType.int))
set_option maxRecDepth 30000 in
theorem mmModel_fort : q_mM (qGG D cA b E) mModel_fort 3 := ⟨(q_t8 160 rfl rfl), by decide +kernel, (q_t1 18 (by decide +kernel) rfl), ⟨by decide, by decide⟩, by decide +kernel, by decide⟩
abbrev mModel_isRanMonth : qM := (⟨"SaltOfficeModel", "isRanMonth", "(I)Z"⟩, prog_14_method_99_code, 2, (Option.some Jvm.ClassFile.FieldType.boolean))
set_option maxRecDepth 30000 in
theorem mmModel_isRanMonth : q_mM (qGG D cA b E) mModel_isRanMonth 1 := ⟨(q_t8 164 rfl rfl), by decide +kernel, (q_t1 18 (by decide +kernel) rfl), ⟨by decide, by decide⟩, by decide +kernel, by decide⟩
abbrev mModel_pan : qM := (⟨"SaltOfficeModel", "pan", "(III)I"⟩, prog_14_method_101_code, 4, (Option.some Jvm.ClassFile.FieldType.int))
set_option maxRecDepth 30000 in
theorem mmModel_pan : q_mM (qGG D cA b E) mModel_pan 3 := ⟨(q_t8 168 rfl rfl), by decide +kernel, (q_t1 18 (by decide +kernel) rfl), ⟨by decide, by decide⟩, by decide +kernel, by decide⟩
abbrev mModel_town : qM := (⟨"SaltOfficeModel", "town", "(III)I"⟩, prog_14_method_102_code, 4, (Option.some Jvm.ClassFile.FieldType.int))
set_option maxRecDepth 30000 in
theorem mmModel_town : q_mM (qGG D cA b E) mModel_town 3 := ⟨(q_t8 172 rfl rfl), by decide +kernel, (q_t1 18 (by decide +kernel) rfl), ⟨by decide, by decide⟩, by decide +kernel, by decide⟩
abbrev mModel_book : qM := (⟨"SaltOfficeModel", "book", "(III)J"⟩, prog_14_method_103_code, 4, (Option.some Jvm.ClassFile.FieldType.long))
set_option maxRecDepth 30000 in
theorem mmModel_book : q_mM (qGG D cA b E) mModel_book 3 := ⟨(q_t8 176 rfl rfl), by decide +kernel, (q_t1 18 (by decide +kernel) rfl), ⟨by decide, by decide⟩, by decide +kernel, by decide⟩
abbrev mModel_paper : qM := (⟨"SaltOfficeModel", "paper", "(II)I"⟩, prog_14_method_104_code, 3, (Option.some Jvm.ClassFile.FieldType.int))
set_option maxRecDepth 30000 in
theorem mmModel_paper : q_mM (qGG D cA b E) mModel_paper 2 := ⟨(q_t8 180 rfl rfl), by decide +kernel, (q_t1 18 (by decide +kernel) rfl), ⟨by decide, by decide⟩, by decide +kernel, by decide⟩
abbrev mModel_way : qM := (⟨"SaltOfficeModel", "way", "(II)J"⟩, prog_14_method_106_code, 3, (Option.some Jvm.ClassFile.FieldType.long))
set_option maxRecDepth 30000 in
theorem mmModel_way : q_mM (qGG D cA b E) mModel_way 2 := ⟨(q_t8 184 rfl rfl), by decide +kernel, (q_t1 18 (by decide +kernel) rfl), ⟨by decide, by decide⟩, by decide +kernel, by decide⟩
abbrev mModel_goOn : qM := (⟨"SaltOfficeModel", "goOn", "()V"⟩, prog_14_method_105_code, 1, (Option.none : Option Jvm.ClassFile.FieldType))
set_option maxRecDepth 30000 in
theorem mmModel_goOn : q_mM (qGG D cA b E) mModel_goOn 0 := ⟨(q_t8 188 rfl rfl), by decide +kernel, (q_t1 18 (by decide +kernel) rfl), ⟨by decide, by decide⟩, by decide +kernel, by decide⟩
abbrev mModel_worth : qM := (⟨"SaltOfficeModel", "worth", "(I)J"⟩, prog_14_method_107_code, 2, (Option.some Jvm.ClassFile.FieldType.long))
set_option maxRecDepth 30000 in
theorem mmModel_worth : q_mM (qGG D cA b E) mModel_worth 1 := ⟨(q_t8 192 rfl rfl), by decide +kernel, (q_t1 18 (by decide +kernel) rfl), ⟨by decide, by decide⟩, by decide +kernel, by decide⟩
abbrev mModel_judge : qM := (⟨"SaltOfficeModel", "judge", "(IIII)I"⟩, prog_14_method_109_code, 9, (Option.some Jvm.ClassFile.FieldType.int))
set_option maxRecDepth 30000 in
theorem mmModel_judge : q_mM (qGG D cA b E) mModel_judge 4 := ⟨(q_t8 196 rfl rfl), by decide +kernel, (q_t1 18 (by decide +kernel) rfl), ⟨by decide, by decide⟩, by decide +kernel, by decide⟩
abbrev mModel_tryOut : qM := (⟨"SaltOfficeModel", "tryOut", "(IIII)V"⟩, prog_14_method_108_code, 5, (Option.none : Option Jvm.ClassFile.FieldType))
set_option maxRecDepth 30000 in
theorem mmModel_tryOut : q_mM (qGG D cA b E) mModel_tryOut 4 := ⟨(q_t8 200 rfl rfl), by decide +kernel, (q_t1 18 (by decide +kernel) rfl), ⟨by decide, by decide⟩, by decide +kernel, by decide⟩
abbrev mModel_restore : qM := (⟨"SaltOfficeModel", "restore", "()V"⟩, prog_14_method_114_code, 1, (Option.none : Option Jvm.ClassFile.FieldType))
set_option maxRecDepth 30000 in
theorem mmModel_restore : q_mM (qGG D cA b E) mModel_restore 0 := ⟨(q_t8 204 rfl rfl), by decide +kernel, (q_t1 18 (by decide +kernel) rfl), ⟨by decide, by decide⟩, by decide +kernel, by decide⟩
abbrev mModel_about : qM := (⟨"SaltOfficeModel", "about", "(I)I"⟩, prog_14_method_115_code, 2, (Option.some Jvm.ClassFile.FieldType.int))
set_option maxRecDepth 30000 in
theorem mmModel_about : q_mM (qGG D cA b E) mModel_about 1 := ⟨(q_t8 208 rfl rfl), by decide +kernel, (q_t1 18 (by decide +kernel) rfl), ⟨by decide, by decide⟩, by decide +kernel, by decide⟩
abbrev mModel_feed : qM := (⟨"SaltOfficeModel", "feed", "(IIIII)I"⟩, prog_14_method_116_code, 8, (Option.some Jvm.ClassFile.FieldType.int))
set_option maxRecDepth 30000 in
theorem mmModel_feed : q_mM (qGG D cA b E) mModel_feed 5 := ⟨(q_t8 212 rfl rfl), by decide +kernel, (q_t1 18 (by decide +kernel) rfl), ⟨by decide, by decide⟩, by decide +kernel, by decide⟩
abbrev mModel_end : qM := (⟨"SaltOfficeModel", "end", "(I)I"⟩, prog_14_method_117_code, 2, (Option.some Jvm.ClassFile.FieldType.int))
set_option maxRecDepth 30000 in
theorem mmModel_end : q_mM (qGG D cA b E) mModel_end 1 := ⟨(q_t8 216 rfl rfl), by decide +kernel, (q_t1 18 (by decide +kernel) rfl), ⟨by decide, by decide⟩, by decide +kernel, by decide⟩
abbrev mModel_init : qM := (⟨"SaltOfficeModel", "<init>", "()V"⟩, prog_14_method_118_code, 2, (Option.none : Option Jvm.ClassFile.FieldType))
set_option maxRecDepth 30000 in
theorem mmModel_init : q_mM (qGG D cA b E) mModel_init 0 := ⟨(q_t8 220 rfl rfl), by decide +kernel, (q_t1 18 (by decide +kernel) rfl), ⟨by decide, by decide⟩, by decide +kernel, by decide⟩
end Links
