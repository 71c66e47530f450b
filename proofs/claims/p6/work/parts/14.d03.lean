/-! Decode rows: by program. -/
theorem dOffice_judge_202 : decode prog_1_method_25_code 202 = .ok (.iload 15, 2) := by decide +kernel
theorem dOffice_judge_204 : decode prog_1_method_25_code 204 = .ok (.ifCond .ne 5, 3) := by decide +kernel
theorem dOffice_judge_207 : decode prog_1_method_25_code 207 = .ok (.iconst 2, 1) := by decide +kernel
theorem dOffice_judge_208 : decode prog_1_method_25_code 208 = .ok (.ireturn, 1) := by decide +kernel
theorem dOffice_judge_209 : decode prog_1_method_25_code 209 = .ok (.iload 15, 2) := by decide +kernel
theorem dOffice_judge_211 : decode prog_1_method_25_code 211 = .ok (.ifCond .ge 7, 3) := by decide +kernel
theorem dOffice_judge_214 : decode prog_1_method_25_code 214 = .ok (.iconst 0, 1) := by decide +kernel
theorem dOffice_judge_215 : decode prog_1_method_25_code 215 = .ok (.goto 4, 3) := by decide +kernel
theorem dOffice_judge_218 : decode prog_1_method_25_code 218 = .ok (.iconst 1, 1) := by decide +kernel
theorem dOffice_judge_219 : decode prog_1_method_25_code 219 = .ok (.ireturn, 1) := by decide +kernel
theorem dOffice_about_0 : decode prog_1_method_26_code 0 = .ok (.iload_n 1, 1) := by decide +kernel
theorem dOffice_about_1 : decode prog_1_method_26_code 1 = .ok (.tableswitch 108 0 7 #[47, 55, 63, 71, 79, 87, 95, 100], 47) := by decide +kernel
theorem dOffice_about_48 : decode prog_1_method_26_code 48 = .ok (.aload_n 0, 1) := by decide +kernel
theorem dOffice_about_49 : decode prog_1_method_26_code 49 = .ok (.getfield 19, 3) := by decide +kernel
theorem dOffice_about_52 : decode prog_1_method_26_code 52 = .ok (.getfield 86, 3) := by decide +kernel
theorem dOffice_about_55 : decode prog_1_method_26_code 55 = .ok (.ireturn, 1) := by decide +kernel
theorem dOffice_about_56 : decode prog_1_method_26_code 56 = .ok (.aload_n 0, 1) := by decide +kernel
theorem dOffice_about_57 : decode prog_1_method_26_code 57 = .ok (.getfield 19, 3) := by decide +kernel
theorem dOffice_about_60 : decode prog_1_method_26_code 60 = .ok (.getfield 89, 3) := by decide +kernel
theorem dOffice_about_63 : decode prog_1_method_26_code 63 = .ok (.ireturn, 1) := by decide +kernel
theorem dOffice_about_64 : decode prog_1_method_26_code 64 = .ok (.aload_n 0, 1) := by decide +kernel
theorem dOffice_about_65 : decode prog_1_method_26_code 65 = .ok (.getfield 19, 3) := by decide +kernel
theorem dOffice_about_68 : decode prog_1_method_26_code 68 = .ok (.getfield 92, 3) := by decide +kernel
theorem dOffice_about_71 : decode prog_1_method_26_code 71 = .ok (.ireturn, 1) := by decide +kernel
theorem dOffice_about_72 : decode prog_1_method_26_code 72 = .ok (.aload_n 0, 1) := by decide +kernel
theorem dOffice_about_73 : decode prog_1_method_26_code 73 = .ok (.getfield 19, 3) := by decide +kernel
theorem dOffice_about_76 : decode prog_1_method_26_code 76 = .ok (.getfield 83, 3) := by decide +kernel
theorem dOffice_about_79 : decode prog_1_method_26_code 79 = .ok (.ireturn, 1) := by decide +kernel
theorem dOffice_about_80 : decode prog_1_method_26_code 80 = .ok (.aload_n 0, 1) := by decide +kernel
theorem dOffice_about_81 : decode prog_1_method_26_code 81 = .ok (.getfield 40, 3) := by decide +kernel
theorem dOffice_about_84 : decode prog_1_method_26_code 84 = .ok (.getfield 109, 3) := by decide +kernel
theorem dOffice_about_87 : decode prog_1_method_26_code 87 = .ok (.ireturn, 1) := by decide +kernel
theorem dOffice_about_88 : decode prog_1_method_26_code 88 = .ok (.aload_n 0, 1) := by decide +kernel
theorem dOffice_about_89 : decode prog_1_method_26_code 89 = .ok (.getfield 47, 3) := by decide +kernel
theorem dOffice_about_92 : decode prog_1_method_26_code 92 = .ok (.getfield 76, 3) := by decide +kernel
theorem dOffice_about_95 : decode prog_1_method_26_code 95 = .ok (.ireturn, 1) := by decide +kernel
theorem dOffice_about_96 : decode prog_1_method_26_code 96 = .ok (.aload_n 0, 1) := by decide +kernel
theorem dOffice_about_97 : decode prog_1_method_26_code 97 = .ok (.getfield 51, 3) := by decide +kernel
theorem dOffice_about_100 : decode prog_1_method_26_code 100 = .ok (.ireturn, 1) := by decide +kernel
theorem dOffice_about_101 : decode prog_1_method_26_code 101 = .ok (.aload_n 0, 1) := by decide +kernel
theorem dOffice_about_102 : decode prog_1_method_26_code 102 = .ok (.getfield 12, 3) := by decide +kernel
theorem dOffice_about_105 : decode prog_1_method_26_code 105 = .ok (.getfield 65, 3) := by decide +kernel
theorem dOffice_about_108 : decode prog_1_method_26_code 108 = .ok (.ireturn, 1) := by decide +kernel
theorem dOffice_about_109 : decode prog_1_method_26_code 109 = .ok (.iload_n 1, 1) := by decide +kernel
theorem dOffice_about_110 : decode prog_1_method_26_code 110 = .ok (.bipush 10, 2) := by decide +kernel
theorem dOffice_about_112 : decode prog_1_method_26_code 112 = .ok (.if_icmp .ge 7, 3) := by decide +kernel
theorem dOffice_about_115 : decode prog_1_method_26_code 115 = .ok (.aconst_null, 1) := by decide +kernel
theorem dOffice_about_116 : decode prog_1_method_26_code 116 = .ok (.goto 11, 3) := by decide +kernel
theorem dOffice_about_119 : decode prog_1_method_26_code 119 = .ok (.aload_n 0, 1) := by decide +kernel
theorem dOffice_about_120 : decode prog_1_method_26_code 120 = .ok (.iload_n 1, 1) := by decide +kernel
theorem dOffice_about_121 : decode prog_1_method_26_code 121 = .ok (.bipush 10, 2) := by decide +kernel
theorem dOffice_about_123 : decode prog_1_method_26_code 123 = .ok (.isub, 1) := by decide +kernel
theorem dOffice_about_124 : decode prog_1_method_26_code 124 = .ok (.invokevirtual 147, 3) := by decide +kernel
theorem dOffice_about_127 : decode prog_1_method_26_code 127 = .ok (.astore_n 2, 1) := by decide +kernel
theorem dOffice_about_128 : decode prog_1_method_26_code 128 = .ok (.aload_n 2, 1) := by decide +kernel
theorem dOffice_about_129 : decode prog_1_method_26_code 129 = .ok (.ifnonnull 7, 3) := by decide +kernel
theorem dOffice_about_132 : decode prog_1_method_26_code 132 = .ok (.iconst (-1), 1) := by decide +kernel
theorem dOffice_about_133 : decode prog_1_method_26_code 133 = .ok (.goto 7, 3) := by decide +kernel
theorem dOffice_about_136 : decode prog_1_method_26_code 136 = .ok (.aload_n 2, 1) := by decide +kernel
theorem dOffice_about_137 : decode prog_1_method_26_code 137 = .ok (.getfield 96, 3) := by decide +kernel
theorem dOffice_about_140 : decode prog_1_method_26_code 140 = .ok (.ireturn, 1) := by decide +kernel
theorem dOffice_shelfAt_0 : decode prog_1_method_27_code 0 = .ok (.iload_n 1, 1) := by decide +kernel
theorem dOffice_shelfAt_1 : decode prog_1_method_27_code 1 = .ok (.ifCond .lt 8, 3) := by decide +kernel
theorem dOffice_shelfAt_4 : decode prog_1_method_27_code 4 = .ok (.iload_n 1, 1) := by decide +kernel
theorem dOffice_shelfAt_5 : decode prog_1_method_27_code 5 = .ok (.iconst 4, 1) := by decide +kernel
theorem dOffice_shelfAt_6 : decode prog_1_method_27_code 6 = .ok (.if_icmp .lt 7, 3) := by decide +kernel
theorem dOffice_shelfAt_9 : decode prog_1_method_27_code 9 = .ok (.aconst_null, 1) := by decide +kernel
theorem dOffice_shelfAt_10 : decode prog_1_method_27_code 10 = .ok (.goto 9, 3) := by decide +kernel
theorem dOffice_shelfAt_13 : decode prog_1_method_27_code 13 = .ok (.aload_n 0, 1) := by decide +kernel
theorem dOffice_shelfAt_14 : decode prog_1_method_27_code 14 = .ok (.getfield 28, 3) := by decide +kernel
theorem dOffice_shelfAt_17 : decode prog_1_method_27_code 17 = .ok (.iload_n 1, 1) := by decide +kernel
theorem dOffice_shelfAt_18 : decode prog_1_method_27_code 18 = .ok (.aaload, 1) := by decide +kernel
theorem dOffice_shelfAt_19 : decode prog_1_method_27_code 19 = .ok (.areturn, 1) := by decide +kernel
theorem dOffice_ranMonth_0 : decode prog_1_method_28_code 0 = .ok (.aload_n 0, 1) := by decide +kernel
theorem dOffice_ranMonth_1 : decode prog_1_method_28_code 1 = .ok (.getfield 58, 3) := by decide +kernel
theorem dOffice_ranMonth_4 : decode prog_1_method_28_code 4 = .ok (.getfield 79, 3) := by decide +kernel
theorem dOffice_ranMonth_7 : decode prog_1_method_28_code 7 = .ok (.ifCond .eq 22, 3) := by decide +kernel
theorem dOffice_ranMonth_10 : decode prog_1_method_28_code 10 = .ok (.iload_n 1, 1) := by decide +kernel
theorem dOffice_ranMonth_11 : decode prog_1_method_28_code 11 = .ok (.ifCond .lt 18, 3) := by decide +kernel
theorem dOffice_ranMonth_14 : decode prog_1_method_28_code 14 = .ok (.iload_n 1, 1) := by decide +kernel
theorem dOffice_ranMonth_15 : decode prog_1_method_28_code 15 = .ok (.aload_n 0, 1) := by decide +kernel
theorem dOffice_ranMonth_16 : decode prog_1_method_28_code 16 = .ok (.getfield 58, 3) := by decide +kernel
theorem dOffice_ranMonth_19 : decode prog_1_method_28_code 19 = .ok (.getfield 238, 3) := by decide +kernel
theorem dOffice_ranMonth_22 : decode prog_1_method_28_code 22 = .ok (.if_icmp .ge 7, 3) := by decide +kernel
theorem dOffice_ranMonth_25 : decode prog_1_method_28_code 25 = .ok (.iconst 1, 1) := by decide +kernel
theorem dOffice_ranMonth_26 : decode prog_1_method_28_code 26 = .ok (.goto 4, 3) := by decide +kernel
theorem dOffice_ranMonth_29 : decode prog_1_method_28_code 29 = .ok (.iconst 0, 1) := by decide +kernel
theorem dOffice_ranMonth_30 : decode prog_1_method_28_code 30 = .ok (.ireturn, 1) := by decide +kernel
theorem dOffice_monthsOfWay_0 : decode prog_1_method_29_code 0 = .ok (.iload_n 0, 1) := by decide +kernel
theorem dOffice_monthsOfWay_1 : decode prog_1_method_29_code 1 = .ok (.bipush 29, 2) := by decide +kernel
theorem dOffice_monthsOfWay_3 : decode prog_1_method_29_code 3 = .ok (.iadd, 1) := by decide +kernel
theorem dOffice_monthsOfWay_4 : decode prog_1_method_29_code 4 = .ok (.bipush 30, 2) := by decide +kernel
theorem dOffice_monthsOfWay_6 : decode prog_1_method_29_code 6 = .ok (.idiv, 1) := by decide +kernel
theorem dOffice_monthsOfWay_7 : decode prog_1_method_29_code 7 = .ok (.ireturn, 1) := by decide +kernel
theorem dOffice_within_0 : decode prog_1_method_30_code 0 = .ok (.iload_n 0, 1) := by decide +kernel
theorem dOffice_within_1 : decode prog_1_method_30_code 1 = .ok (.iload_n 1, 1) := by decide +kernel
theorem dOffice_within_2 : decode prog_1_method_30_code 2 = .ok (.if_icmp .lt 12, 3) := by decide +kernel
theorem dOffice_within_5 : decode prog_1_method_30_code 5 = .ok (.iload_n 0, 1) := by decide +kernel
theorem dOffice_within_6 : decode prog_1_method_30_code 6 = .ok (.iload_n 2, 1) := by decide +kernel
theorem dOffice_within_7 : decode prog_1_method_30_code 7 = .ok (.if_icmp .gt 7, 3) := by decide +kernel
theorem dOffice_within_10 : decode prog_1_method_30_code 10 = .ok (.iconst 1, 1) := by decide +kernel
theorem dOffice_within_11 : decode prog_1_method_30_code 11 = .ok (.goto 4, 3) := by decide +kernel
theorem dOffice_within_14 : decode prog_1_method_30_code 14 = .ok (.iconst 0, 1) := by decide +kernel
theorem dOffice_within_15 : decode prog_1_method_30_code 15 = .ok (.ireturn, 1) := by decide +kernel
theorem dOffice_compareWaits_0 : decode prog_1_method_31_code 0 = .ok (.lload_n 2, 1) := by decide +kernel
theorem dOffice_compareWaits_1 : decode prog_1_method_31_code 1 = .ok (.lconst 0, 1) := by decide +kernel
theorem dOffice_compareWaits_2 : decode prog_1_method_31_code 2 = .ok (.lcmp, 1) := by decide +kernel
theorem dOffice_compareWaits_3 : decode prog_1_method_31_code 3 = .ok (.ifCond .eq 10, 3) := by decide +kernel
theorem dOffice_compareWaits_6 : decode prog_1_method_31_code 6 = .ok (.lload 6, 2) := by decide +kernel
theorem dOffice_compareWaits_8 : decode prog_1_method_31_code 8 = .ok (.lconst 0, 1) := by decide +kernel
theorem dOffice_compareWaits_9 : decode prog_1_method_31_code 9 = .ok (.lcmp, 1) := by decide +kernel
theorem dOffice_compareWaits_10 : decode prog_1_method_31_code 10 = .ok (.ifCond .ne 30, 3) := by decide +kernel
theorem dOffice_compareWaits_13 : decode prog_1_method_31_code 13 = .ok (.lload 6, 2) := by decide +kernel
theorem dOffice_compareWaits_15 : decode prog_1_method_31_code 15 = .ok (.lconst 0, 1) := by decide +kernel
theorem dOffice_compareWaits_16 : decode prog_1_method_31_code 16 = .ok (.lcmp, 1) := by decide +kernel
theorem dOffice_compareWaits_17 : decode prog_1_method_31_code 17 = .ok (.ifCond .ne 7, 3) := by decide +kernel
theorem dOffice_compareWaits_20 : decode prog_1_method_31_code 20 = .ok (.lconst 0, 1) := by decide +kernel
theorem dOffice_compareWaits_21 : decode prog_1_method_31_code 21 = .ok (.goto 4, 3) := by decide +kernel
theorem dOffice_compareWaits_24 : decode prog_1_method_31_code 24 = .ok (.lconst 1, 1) := by decide +kernel
theorem dOffice_compareWaits_25 : decode prog_1_method_31_code 25 = .ok (.lload_n 2, 1) := by decide +kernel
theorem dOffice_compareWaits_26 : decode prog_1_method_31_code 26 = .ok (.lconst 0, 1) := by decide +kernel
theorem dOffice_compareWaits_27 : decode prog_1_method_31_code 27 = .ok (.lcmp, 1) := by decide +kernel
theorem dOffice_compareWaits_28 : decode prog_1_method_31_code 28 = .ok (.ifCond .ne 7, 3) := by decide +kernel
theorem dOffice_compareWaits_31 : decode prog_1_method_31_code 31 = .ok (.lconst 0, 1) := by decide +kernel
theorem dOffice_compareWaits_32 : decode prog_1_method_31_code 32 = .ok (.goto 4, 3) := by decide +kernel
theorem dOffice_compareWaits_35 : decode prog_1_method_31_code 35 = .ok (.lconst 1, 1) := by decide +kernel
theorem dOffice_compareWaits_36 : decode prog_1_method_31_code 36 = .ok (.invokestatic 228, 3) := by decide +kernel
theorem dOffice_compareWaits_39 : decode prog_1_method_31_code 39 = .ok (.ireturn, 1) := by decide +kernel
theorem dOffice_compareWaits_40 : decode prog_1_method_31_code 40 = .ok (.lload_n 0, 1) := by decide +kernel
theorem dOffice_compareWaits_41 : decode prog_1_method_31_code 41 = .ok (.lload 6, 2) := by decide +kernel
theorem dOffice_compareWaits_43 : decode prog_1_method_31_code 43 = .ok (.lmul, 1) := by decide +kernel
theorem dOffice_compareWaits_44 : decode prog_1_method_31_code 44 = .ok (.lload 4, 2) := by decide +kernel
theorem dOffice_compareWaits_46 : decode prog_1_method_31_code 46 = .ok (.lload_n 2, 1) := by decide +kernel
theorem dOffice_compareWaits_47 : decode prog_1_method_31_code 47 = .ok (.lmul, 1) := by decide +kernel
theorem dOffice_compareWaits_48 : decode prog_1_method_31_code 48 = .ok (.invokestatic 228, 3) := by decide +kernel
theorem dOffice_compareWaits_51 : decode prog_1_method_31_code 51 = .ok (.ireturn, 1) := by decide +kernel
theorem dModel_sign_0 : decode prog_14_method_1_code 0 = .ok (.iload_n 1, 1) := by decide +kernel
theorem dModel_sign_1 : decode prog_14_method_1_code 1 = .ok (.aload_n 0, 1) := by decide +kernel
theorem dModel_sign_2 : decode prog_14_method_1_code 2 = .ok (.getfield 1, 3) := by decide +kernel
theorem dModel_sign_5 : decode prog_14_method_1_code 5 = .ok (.if_icmp .ge 16, 3) := by decide +kernel
theorem dModel_sign_8 : decode prog_14_method_1_code 8 = .ok (.aload_n 0, 1) := by decide +kernel
theorem dModel_sign_9 : decode prog_14_method_1_code 9 = .ok (.getfield 7, 3) := by decide +kernel
theorem dModel_sign_12 : decode prog_14_method_1_code 12 = .ok (.iload_n 1, 1) := by decide +kernel
theorem dModel_sign_13 : decode prog_14_method_1_code 13 = .ok (.baload, 1) := by decide +kernel
theorem dModel_sign_14 : decode prog_14_method_1_code 14 = .ok (.sipush 255, 3) := by decide +kernel
theorem dModel_sign_17 : decode prog_14_method_1_code 17 = .ok (.iand, 1) := by decide +kernel
theorem dModel_sign_18 : decode prog_14_method_1_code 18 = .ok (.goto 4, 3) := by decide +kernel
theorem dModel_sign_21 : decode prog_14_method_1_code 21 = .ok (.iconst 0, 1) := by decide +kernel
theorem dModel_sign_22 : decode prog_14_method_1_code 22 = .ok (.ireturn, 1) := by decide +kernel
theorem dModel_isLetter_0 : decode prog_14_method_2_code 0 = .ok (.iload_n 0, 1) := by decide +kernel
theorem dModel_isLetter_1 : decode prog_14_method_2_code 1 = .ok (.bipush 97, 2) := by decide +kernel
theorem dModel_isLetter_3 : decode prog_14_method_2_code 3 = .ok (.if_icmp .lt 13, 3) := by decide +kernel
theorem dModel_isLetter_6 : decode prog_14_method_2_code 6 = .ok (.iload_n 0, 1) := by decide +kernel
theorem dModel_isLetter_7 : decode prog_14_method_2_code 7 = .ok (.bipush 122, 2) := by decide +kernel
theorem dModel_isLetter_9 : decode prog_14_method_2_code 9 = .ok (.if_icmp .gt 7, 3) := by decide +kernel
theorem dModel_isLetter_12 : decode prog_14_method_2_code 12 = .ok (.iconst 1, 1) := by decide +kernel
theorem dModel_isLetter_13 : decode prog_14_method_2_code 13 = .ok (.goto 4, 3) := by decide +kernel
theorem dModel_isLetter_16 : decode prog_14_method_2_code 16 = .ok (.iconst 0, 1) := by decide +kernel
theorem dModel_isLetter_17 : decode prog_14_method_2_code 17 = .ok (.ireturn, 1) := by decide +kernel
theorem dModel_isDigit_0 : decode prog_14_method_3_code 0 = .ok (.iload_n 0, 1) := by decide +kernel
theorem dModel_isDigit_1 : decode prog_14_method_3_code 1 = .ok (.bipush 48, 2) := by decide +kernel
theorem dModel_isDigit_3 : decode prog_14_method_3_code 3 = .ok (.if_icmp .lt 13, 3) := by decide +kernel
theorem dModel_isDigit_6 : decode prog_14_method_3_code 6 = .ok (.iload_n 0, 1) := by decide +kernel
theorem dModel_isDigit_7 : decode prog_14_method_3_code 7 = .ok (.bipush 57, 2) := by decide +kernel
theorem dModel_isDigit_9 : decode prog_14_method_3_code 9 = .ok (.if_icmp .gt 7, 3) := by decide +kernel
theorem dModel_isDigit_12 : decode prog_14_method_3_code 12 = .ok (.iconst 1, 1) := by decide +kernel
theorem dModel_isDigit_13 : decode prog_14_method_3_code 13 = .ok (.goto 4, 3) := by decide +kernel
theorem dModel_isDigit_16 : decode prog_14_method_3_code 16 = .ok (.iconst 0, 1) := by decide +kernel
theorem dModel_isDigit_17 : decode prog_14_method_3_code 17 = .ok (.ireturn, 1) := by decide +kernel
theorem dModel_fails_0 : decode prog_14_method_4_code 0 = .ok (.aload_n 0, 1) := by decide +kernel
theorem dModel_fails_1 : decode prog_14_method_4_code 1 = .ok (.getfield 11, 3) := by decide +kernel
theorem dModel_fails_4 : decode prog_14_method_4_code 4 = .ok (.ifCond .le 4, 3) := by decide +kernel
theorem dModel_fails_7 : decode prog_14_method_4_code 7 = .ok (.return_, 1) := by decide +kernel
theorem dModel_fails_8 : decode prog_14_method_4_code 8 = .ok (.aload_n 0, 1) := by decide +kernel
theorem dModel_fails_9 : decode prog_14_method_4_code 9 = .ok (.iload_n 1, 1) := by decide +kernel
theorem dModel_fails_10 : decode prog_14_method_4_code 10 = .ok (.putfield 11, 3) := by decide +kernel
theorem dModel_fails_13 : decode prog_14_method_4_code 13 = .ok (.aload_n 0, 1) := by decide +kernel
theorem dModel_fails_14 : decode prog_14_method_4_code 14 = .ok (.iload_n 2, 1) := by decide +kernel
theorem dModel_fails_15 : decode prog_14_method_4_code 15 = .ok (.putfield 14, 3) := by decide +kernel
theorem dModel_fails_18 : decode prog_14_method_4_code 18 = .ok (.return_, 1) := by decide +kernel
theorem dModel_isGood_0 : decode prog_14_method_5_code 0 = .ok (.aload_n 0, 1) := by decide +kernel
theorem dModel_isGood_1 : decode prog_14_method_5_code 1 = .ok (.getfield 11, 3) := by decide +kernel
theorem dModel_isGood_4 : decode prog_14_method_5_code 4 = .ok (.ifCond .ne 7, 3) := by decide +kernel
theorem dModel_isGood_7 : decode prog_14_method_5_code 7 = .ok (.iconst 1, 1) := by decide +kernel
theorem dModel_isGood_8 : decode prog_14_method_5_code 8 = .ok (.goto 4, 3) := by decide +kernel
theorem dModel_isGood_11 : decode prog_14_method_5_code 11 = .ok (.iconst 0, 1) := by decide +kernel
theorem dModel_isGood_12 : decode prog_14_method_5_code 12 = .ok (.ireturn, 1) := by decide +kernel
theorem dModel_isKept_0 : decode prog_14_method_6_code 0 = .ok (.lload_n 0, 1) := by decide +kernel
theorem dModel_isKept_1 : decode prog_14_method_6_code 1 = .ok (.ldc2_w 17, 3) := by decide +kernel
theorem dModel_isKept_4 : decode prog_14_method_6_code 4 = .ok (.lcmp, 1) := by decide +kernel
theorem dModel_isKept_5 : decode prog_14_method_6_code 5 = .ok (.ifCond .eq 123, 3) := by decide +kernel
theorem dModel_isKept_8 : decode prog_14_method_6_code 8 = .ok (.lload_n 0, 1) := by decide +kernel
theorem dModel_isKept_9 : decode prog_14_method_6_code 9 = .ok (.ldc2_w 19, 3) := by decide +kernel
theorem dModel_isKept_12 : decode prog_14_method_6_code 12 = .ok (.lcmp, 1) := by decide +kernel
theorem dModel_isKept_13 : decode prog_14_method_6_code 13 = .ok (.ifCond .eq 115, 3) := by decide +kernel
theorem dModel_isKept_16 : decode prog_14_method_6_code 16 = .ok (.lload_n 0, 1) := by decide +kernel
theorem dModel_isKept_17 : decode prog_14_method_6_code 17 = .ok (.ldc2_w 21, 3) := by decide +kernel
theorem dModel_isKept_20 : decode prog_14_method_6_code 20 = .ok (.lcmp, 1) := by decide +kernel
theorem dModel_isKept_21 : decode prog_14_method_6_code 21 = .ok (.ifCond .eq 107, 3) := by decide +kernel
theorem dModel_isKept_24 : decode prog_14_method_6_code 24 = .ok (.lload_n 0, 1) := by decide +kernel
theorem dModel_isKept_25 : decode prog_14_method_6_code 25 = .ok (.ldc2_w 23, 3) := by decide +kernel
theorem dModel_isKept_28 : decode prog_14_method_6_code 28 = .ok (.lcmp, 1) := by decide +kernel
theorem dModel_isKept_29 : decode prog_14_method_6_code 29 = .ok (.ifCond .eq 99, 3) := by decide +kernel
theorem dModel_isKept_32 : decode prog_14_method_6_code 32 = .ok (.lload_n 0, 1) := by decide +kernel
theorem dModel_isKept_33 : decode prog_14_method_6_code 33 = .ok (.ldc2_w 25, 3) := by decide +kernel
theorem dModel_isKept_36 : decode prog_14_method_6_code 36 = .ok (.lcmp, 1) := by decide +kernel
theorem dModel_isKept_37 : decode prog_14_method_6_code 37 = .ok (.ifCond .eq 91, 3) := by decide +kernel
theorem dModel_isKept_40 : decode prog_14_method_6_code 40 = .ok (.lload_n 0, 1) := by decide +kernel
theorem dModel_isKept_41 : decode prog_14_method_6_code 41 = .ok (.ldc2_w 27, 3) := by decide +kernel
theorem dModel_isKept_44 : decode prog_14_method_6_code 44 = .ok (.lcmp, 1) := by decide +kernel
theorem dModel_isKept_45 : decode prog_14_method_6_code 45 = .ok (.ifCond .eq 83, 3) := by decide +kernel
theorem dModel_isKept_48 : decode prog_14_method_6_code 48 = .ok (.lload_n 0, 1) := by decide +kernel
theorem dModel_isKept_49 : decode prog_14_method_6_code 49 = .ok (.ldc2_w 29, 3) := by decide +kernel
theorem dModel_isKept_52 : decode prog_14_method_6_code 52 = .ok (.lcmp, 1) := by decide +kernel
theorem dModel_isKept_53 : decode prog_14_method_6_code 53 = .ok (.ifCond .eq 75, 3) := by decide +kernel
theorem dModel_isKept_56 : decode prog_14_method_6_code 56 = .ok (.lload_n 0, 1) := by decide +kernel
theorem dModel_isKept_57 : decode prog_14_method_6_code 57 = .ok (.ldc2_w 31, 3) := by decide +kernel
theorem dModel_isKept_60 : decode prog_14_method_6_code 60 = .ok (.lcmp, 1) := by decide +kernel
theorem dModel_isKept_61 : decode prog_14_method_6_code 61 = .ok (.ifCond .eq 67, 3) := by decide +kernel
theorem dModel_isKept_64 : decode prog_14_method_6_code 64 = .ok (.lload_n 0, 1) := by decide +kernel
theorem dModel_isKept_65 : decode prog_14_method_6_code 65 = .ok (.ldc2_w 33, 3) := by decide +kernel
theorem dModel_isKept_68 : decode prog_14_method_6_code 68 = .ok (.lcmp, 1) := by decide +kernel
theorem dModel_isKept_69 : decode prog_14_method_6_code 69 = .ok (.ifCond .eq 59, 3) := by decide +kernel
theorem dModel_isKept_72 : decode prog_14_method_6_code 72 = .ok (.lload_n 0, 1) := by decide +kernel
theorem dModel_isKept_73 : decode prog_14_method_6_code 73 = .ok (.ldc2_w 35, 3) := by decide +kernel
theorem dModel_isKept_76 : decode prog_14_method_6_code 76 = .ok (.lcmp, 1) := by decide +kernel
theorem dModel_isKept_77 : decode prog_14_method_6_code 77 = .ok (.ifCond .eq 51, 3) := by decide +kernel
theorem dModel_isKept_80 : decode prog_14_method_6_code 80 = .ok (.lload_n 0, 1) := by decide +kernel
theorem dModel_isKept_81 : decode prog_14_method_6_code 81 = .ok (.ldc2_w 37, 3) := by decide +kernel
theorem dModel_isKept_84 : decode prog_14_method_6_code 84 = .ok (.lcmp, 1) := by decide +kernel
theorem dModel_isKept_85 : decode prog_14_method_6_code 85 = .ok (.ifCond .eq 43, 3) := by decide +kernel
theorem dModel_isKept_88 : decode prog_14_method_6_code 88 = .ok (.lload_n 0, 1) := by decide +kernel
theorem dModel_isKept_89 : decode prog_14_method_6_code 89 = .ok (.ldc2_w 39, 3) := by decide +kernel
theorem dModel_isKept_92 : decode prog_14_method_6_code 92 = .ok (.lcmp, 1) := by decide +kernel
theorem dModel_isKept_93 : decode prog_14_method_6_code 93 = .ok (.ifCond .eq 35, 3) := by decide +kernel
theorem dModel_isKept_96 : decode prog_14_method_6_code 96 = .ok (.lload_n 0, 1) := by decide +kernel
theorem dModel_isKept_97 : decode prog_14_method_6_code 97 = .ok (.ldc2_w 41, 3) := by decide +kernel
theorem dModel_isKept_100 : decode prog_14_method_6_code 100 = .ok (.lcmp, 1) := by decide +kernel
theorem dModel_isKept_101 : decode prog_14_method_6_code 101 = .ok (.ifCond .eq 27, 3) := by decide +kernel
theorem dModel_isKept_104 : decode prog_14_method_6_code 104 = .ok (.lload_n 0, 1) := by decide +kernel
theorem dModel_isKept_105 : decode prog_14_method_6_code 105 = .ok (.ldc2_w 43, 3) := by decide +kernel
theorem dModel_isKept_108 : decode prog_14_method_6_code 108 = .ok (.lcmp, 1) := by decide +kernel
theorem dModel_isKept_109 : decode prog_14_method_6_code 109 = .ok (.ifCond .eq 19, 3) := by decide +kernel
theorem dModel_isKept_112 : decode prog_14_method_6_code 112 = .ok (.lload_n 0, 1) := by decide +kernel
theorem dModel_isKept_113 : decode prog_14_method_6_code 113 = .ok (.ldc2_w 45, 3) := by decide +kernel
theorem dModel_isKept_116 : decode prog_14_method_6_code 116 = .ok (.lcmp, 1) := by decide +kernel
theorem dModel_isKept_117 : decode prog_14_method_6_code 117 = .ok (.ifCond .eq 11, 3) := by decide +kernel
theorem dModel_isKept_120 : decode prog_14_method_6_code 120 = .ok (.lload_n 0, 1) := by decide +kernel
theorem dModel_isKept_121 : decode prog_14_method_6_code 121 = .ok (.ldc2_w 47, 3) := by decide +kernel
theorem dModel_isKept_124 : decode prog_14_method_6_code 124 = .ok (.lcmp, 1) := by decide +kernel
theorem dModel_isKept_125 : decode prog_14_method_6_code 125 = .ok (.ifCond .ne 7, 3) := by decide +kernel
theorem dModel_isKept_128 : decode prog_14_method_6_code 128 = .ok (.iconst 1, 1) := by decide +kernel
theorem dModel_isKept_129 : decode prog_14_method_6_code 129 = .ok (.goto 4, 3) := by decide +kernel
theorem dModel_isKept_132 : decode prog_14_method_6_code 132 = .ok (.iconst 0, 1) := by decide +kernel
theorem dModel_isKept_133 : decode prog_14_method_6_code 133 = .ok (.istore_n 2, 1) := by decide +kernel
theorem dModel_isKept_134 : decode prog_14_method_6_code 134 = .ok (.iload_n 2, 1) := by decide +kernel
theorem dModel_isKept_135 : decode prog_14_method_6_code 135 = .ok (.ifCond .ne 131, 3) := by decide +kernel
theorem dModel_isKept_138 : decode prog_14_method_6_code 138 = .ok (.lload_n 0, 1) := by decide +kernel
theorem dModel_isKept_139 : decode prog_14_method_6_code 139 = .ok (.ldc2_w 49, 3) := by decide +kernel
theorem dModel_isKept_142 : decode prog_14_method_6_code 142 = .ok (.lcmp, 1) := by decide +kernel
theorem dModel_isKept_143 : decode prog_14_method_6_code 143 = .ok (.ifCond .eq 123, 3) := by decide +kernel
theorem dModel_isKept_146 : decode prog_14_method_6_code 146 = .ok (.lload_n 0, 1) := by decide +kernel
theorem dModel_isKept_147 : decode prog_14_method_6_code 147 = .ok (.ldc2_w 51, 3) := by decide +kernel
theorem dModel_isKept_150 : decode prog_14_method_6_code 150 = .ok (.lcmp, 1) := by decide +kernel
theorem dModel_isKept_151 : decode prog_14_method_6_code 151 = .ok (.ifCond .eq 115, 3) := by decide +kernel
theorem dModel_isKept_154 : decode prog_14_method_6_code 154 = .ok (.lload_n 0, 1) := by decide +kernel
theorem dModel_isKept_155 : decode prog_14_method_6_code 155 = .ok (.ldc2_w 53, 3) := by decide +kernel
theorem dModel_isKept_158 : decode prog_14_method_6_code 158 = .ok (.lcmp, 1) := by decide +kernel
theorem dModel_isKept_159 : decode prog_14_method_6_code 159 = .ok (.ifCond .eq 107, 3) := by decide +kernel
theorem dModel_isKept_162 : decode prog_14_method_6_code 162 = .ok (.lload_n 0, 1) := by decide +kernel
theorem dModel_isKept_163 : decode prog_14_method_6_code 163 = .ok (.ldc2_w 55, 3) := by decide +kernel
theorem dModel_isKept_166 : decode prog_14_method_6_code 166 = .ok (.lcmp, 1) := by decide +kernel
theorem dModel_isKept_167 : decode prog_14_method_6_code 167 = .ok (.ifCond .eq 99, 3) := by decide +kernel
theorem dModel_isKept_170 : decode prog_14_method_6_code 170 = .ok (.lload_n 0, 1) := by decide +kernel
theorem dModel_isKept_171 : decode prog_14_method_6_code 171 = .ok (.ldc2_w 57, 3) := by decide +kernel
theorem dModel_isKept_174 : decode prog_14_method_6_code 174 = .ok (.lcmp, 1) := by decide +kernel
theorem dModel_isKept_175 : decode prog_14_method_6_code 175 = .ok (.ifCond .eq 91, 3) := by decide +kernel
theorem dModel_isKept_178 : decode prog_14_method_6_code 178 = .ok (.lload_n 0, 1) := by decide +kernel
theorem dModel_isKept_179 : decode prog_14_method_6_code 179 = .ok (.ldc2_w 59, 3) := by decide +kernel
theorem dModel_isKept_182 : decode prog_14_method_6_code 182 = .ok (.lcmp, 1) := by decide +kernel
theorem dModel_isKept_183 : decode prog_14_method_6_code 183 = .ok (.ifCond .eq 83, 3) := by decide +kernel
theorem dModel_isKept_186 : decode prog_14_method_6_code 186 = .ok (.lload_n 0, 1) := by decide +kernel
theorem dModel_isKept_187 : decode prog_14_method_6_code 187 = .ok (.ldc2_w 61, 3) := by decide +kernel
theorem dModel_isKept_190 : decode prog_14_method_6_code 190 = .ok (.lcmp, 1) := by decide +kernel
theorem dModel_isKept_191 : decode prog_14_method_6_code 191 = .ok (.ifCond .eq 75, 3) := by decide +kernel
theorem dModel_isKept_194 : decode prog_14_method_6_code 194 = .ok (.lload_n 0, 1) := by decide +kernel
theorem dModel_isKept_195 : decode prog_14_method_6_code 195 = .ok (.ldc2_w 63, 3) := by decide +kernel
theorem dModel_isKept_198 : decode prog_14_method_6_code 198 = .ok (.lcmp, 1) := by decide +kernel
theorem dModel_isKept_199 : decode prog_14_method_6_code 199 = .ok (.ifCond .eq 67, 3) := by decide +kernel
theorem dModel_isKept_202 : decode prog_14_method_6_code 202 = .ok (.lload_n 0, 1) := by decide +kernel
theorem dModel_isKept_203 : decode prog_14_method_6_code 203 = .ok (.ldc2_w 65, 3) := by decide +kernel
theorem dModel_isKept_206 : decode prog_14_method_6_code 206 = .ok (.lcmp, 1) := by decide +kernel
theorem dModel_isKept_207 : decode prog_14_method_6_code 207 = .ok (.ifCond .eq 59, 3) := by decide +kernel
theorem dModel_isKept_210 : decode prog_14_method_6_code 210 = .ok (.lload_n 0, 1) := by decide +kernel
theorem dModel_isKept_211 : decode prog_14_method_6_code 211 = .ok (.ldc2_w 67, 3) := by decide +kernel
theorem dModel_isKept_214 : decode prog_14_method_6_code 214 = .ok (.lcmp, 1) := by decide +kernel
theorem dModel_isKept_215 : decode prog_14_method_6_code 215 = .ok (.ifCond .eq 51, 3) := by decide +kernel
theorem dModel_isKept_218 : decode prog_14_method_6_code 218 = .ok (.lload_n 0, 1) := by decide +kernel
theorem dModel_isKept_219 : decode prog_14_method_6_code 219 = .ok (.ldc2_w 69, 3) := by decide +kernel
theorem dModel_isKept_222 : decode prog_14_method_6_code 222 = .ok (.lcmp, 1) := by decide +kernel
theorem dModel_isKept_223 : decode prog_14_method_6_code 223 = .ok (.ifCond .eq 43, 3) := by decide +kernel
theorem dModel_isKept_226 : decode prog_14_method_6_code 226 = .ok (.lload_n 0, 1) := by decide +kernel
theorem dModel_isKept_227 : decode prog_14_method_6_code 227 = .ok (.ldc2_w 71, 3) := by decide +kernel
theorem dModel_isKept_230 : decode prog_14_method_6_code 230 = .ok (.lcmp, 1) := by decide +kernel
theorem dModel_isKept_231 : decode prog_14_method_6_code 231 = .ok (.ifCond .eq 35, 3) := by decide +kernel
theorem dModel_isKept_234 : decode prog_14_method_6_code 234 = .ok (.lload_n 0, 1) := by decide +kernel
theorem dModel_isKept_235 : decode prog_14_method_6_code 235 = .ok (.ldc2_w 73, 3) := by decide +kernel
theorem dModel_isKept_238 : decode prog_14_method_6_code 238 = .ok (.lcmp, 1) := by decide +kernel
theorem dModel_isKept_239 : decode prog_14_method_6_code 239 = .ok (.ifCond .eq 27, 3) := by decide +kernel
theorem dModel_isKept_242 : decode prog_14_method_6_code 242 = .ok (.lload_n 0, 1) := by decide +kernel
theorem dModel_isKept_243 : decode prog_14_method_6_code 243 = .ok (.ldc2_w 75, 3) := by decide +kernel
theorem dModel_isKept_246 : decode prog_14_method_6_code 246 = .ok (.lcmp, 1) := by decide +kernel
theorem dModel_isKept_247 : decode prog_14_method_6_code 247 = .ok (.ifCond .eq 19, 3) := by decide +kernel
theorem dModel_isKept_250 : decode prog_14_method_6_code 250 = .ok (.lload_n 0, 1) := by decide +kernel
theorem dModel_isKept_251 : decode prog_14_method_6_code 251 = .ok (.ldc2_w 77, 3) := by decide +kernel
theorem dModel_isKept_254 : decode prog_14_method_6_code 254 = .ok (.lcmp, 1) := by decide +kernel
theorem dModel_isKept_255 : decode prog_14_method_6_code 255 = .ok (.ifCond .eq 11, 3) := by decide +kernel
theorem dModel_isKept_258 : decode prog_14_method_6_code 258 = .ok (.lload_n 0, 1) := by decide +kernel
theorem dModel_isKept_259 : decode prog_14_method_6_code 259 = .ok (.ldc2_w 79, 3) := by decide +kernel
theorem dModel_isKept_262 : decode prog_14_method_6_code 262 = .ok (.lcmp, 1) := by decide +kernel
theorem dModel_isKept_263 : decode prog_14_method_6_code 263 = .ok (.ifCond .ne 7, 3) := by decide +kernel
theorem dModel_isKept_266 : decode prog_14_method_6_code 266 = .ok (.iconst 1, 1) := by decide +kernel
theorem dModel_isKept_267 : decode prog_14_method_6_code 267 = .ok (.goto 4, 3) := by decide +kernel
theorem dModel_isKept_270 : decode prog_14_method_6_code 270 = .ok (.iconst 0, 1) := by decide +kernel
theorem dModel_isKept_271 : decode prog_14_method_6_code 271 = .ok (.ireturn, 1) := by decide +kernel
theorem dModel_pointAt_0 : decode prog_14_method_7_code 0 = .ok (.iconst 0, 1) := by decide +kernel
theorem dModel_pointAt_1 : decode prog_14_method_7_code 1 = .ok (.istore_n 2, 1) := by decide +kernel
theorem dModel_pointAt_2 : decode prog_14_method_7_code 2 = .ok (.iconst 0, 1) := by decide +kernel
theorem dModel_pointAt_3 : decode prog_14_method_7_code 3 = .ok (.istore_n 3, 1) := by decide +kernel
theorem dModel_pointAt_4 : decode prog_14_method_7_code 4 = .ok (.iload_n 2, 1) := by decide +kernel
theorem dModel_pointAt_5 : decode prog_14_method_7_code 5 = .ok (.iconst 3, 1) := by decide +kernel
theorem dModel_pointAt_6 : decode prog_14_method_7_code 6 = .ok (.if_icmp .ge 38, 3) := by decide +kernel
theorem dModel_pointAt_9 : decode prog_14_method_7_code 9 = .ok (.aload_n 0, 1) := by decide +kernel
theorem dModel_pointAt_10 : decode prog_14_method_7_code 10 = .ok (.iload_n 1, 1) := by decide +kernel
theorem dModel_pointAt_11 : decode prog_14_method_7_code 11 = .ok (.iload_n 2, 1) := by decide +kernel
theorem dModel_pointAt_12 : decode prog_14_method_7_code 12 = .ok (.iadd, 1) := by decide +kernel
theorem dModel_pointAt_13 : decode prog_14_method_7_code 13 = .ok (.invokevirtual 81, 3) := by decide +kernel
theorem dModel_pointAt_16 : decode prog_14_method_7_code 16 = .ok (.invokestatic 85, 3) := by decide +kernel
theorem dModel_pointAt_19 : decode prog_14_method_7_code 19 = .ok (.ifCond .eq 25, 3) := by decide +kernel
theorem dModel_pointAt_22 : decode prog_14_method_7_code 22 = .ok (.bipush 10, 2) := by decide +kernel
theorem dModel_pointAt_24 : decode prog_14_method_7_code 24 = .ok (.iload_n 3, 1) := by decide +kernel
theorem dModel_pointAt_25 : decode prog_14_method_7_code 25 = .ok (.imul, 1) := by decide +kernel
theorem dModel_pointAt_26 : decode prog_14_method_7_code 26 = .ok (.aload_n 0, 1) := by decide +kernel
theorem dModel_pointAt_27 : decode prog_14_method_7_code 27 = .ok (.iload_n 1, 1) := by decide +kernel
theorem dModel_pointAt_28 : decode prog_14_method_7_code 28 = .ok (.iload_n 2, 1) := by decide +kernel
theorem dModel_pointAt_29 : decode prog_14_method_7_code 29 = .ok (.iadd, 1) := by decide +kernel
theorem dModel_pointAt_30 : decode prog_14_method_7_code 30 = .ok (.invokevirtual 81, 3) := by decide +kernel
theorem dModel_pointAt_33 : decode prog_14_method_7_code 33 = .ok (.iadd, 1) := by decide +kernel
theorem dModel_pointAt_34 : decode prog_14_method_7_code 34 = .ok (.bipush 48, 2) := by decide +kernel
theorem dModel_pointAt_36 : decode prog_14_method_7_code 36 = .ok (.isub, 1) := by decide +kernel
theorem dModel_pointAt_37 : decode prog_14_method_7_code 37 = .ok (.istore_n 3, 1) := by decide +kernel
theorem dModel_pointAt_38 : decode prog_14_method_7_code 38 = .ok (.iinc 2 1, 3) := by decide +kernel
theorem dModel_pointAt_41 : decode prog_14_method_7_code 41 = .ok (.goto (-37), 3) := by decide +kernel
theorem dModel_pointAt_44 : decode prog_14_method_7_code 44 = .ok (.iload_n 2, 1) := by decide +kernel
theorem dModel_pointAt_45 : decode prog_14_method_7_code 45 = .ok (.iconst 1, 1) := by decide +kernel
theorem dModel_pointAt_46 : decode prog_14_method_7_code 46 = .ok (.if_icmp .lt 27, 3) := by decide +kernel
theorem dModel_pointAt_49 : decode prog_14_method_7_code 49 = .ok (.iload_n 2, 1) := by decide +kernel
theorem dModel_pointAt_50 : decode prog_14_method_7_code 50 = .ok (.iconst 2, 1) := by decide +kernel
theorem dModel_pointAt_51 : decode prog_14_method_7_code 51 = .ok (.if_icmp .gt 22, 3) := by decide +kernel
theorem dModel_pointAt_54 : decode prog_14_method_7_code 54 = .ok (.iload_n 3, 1) := by decide +kernel
theorem dModel_pointAt_55 : decode prog_14_method_7_code 55 = .ok (.bipush 16, 2) := by decide +kernel
theorem dModel_pointAt_57 : decode prog_14_method_7_code 57 = .ok (.if_icmp .ge 16, 3) := by decide +kernel
theorem dModel_pointAt_60 : decode prog_14_method_7_code 60 = .ok (.aload_n 0, 1) := by decide +kernel
theorem dModel_pointAt_61 : decode prog_14_method_7_code 61 = .ok (.iload_n 1, 1) := by decide +kernel
theorem dModel_pointAt_62 : decode prog_14_method_7_code 62 = .ok (.iload_n 2, 1) := by decide +kernel
theorem dModel_pointAt_63 : decode prog_14_method_7_code 63 = .ok (.iadd, 1) := by decide +kernel
theorem dModel_pointAt_64 : decode prog_14_method_7_code 64 = .ok (.invokevirtual 81, 3) := by decide +kernel
theorem dModel_pointAt_67 : decode prog_14_method_7_code 67 = .ok (.invokestatic 89, 3) := by decide +kernel
theorem dModel_pointAt_70 : decode prog_14_method_7_code 70 = .ok (.ifCond .eq 7, 3) := by decide +kernel
theorem dModel_pointAt_73 : decode prog_14_method_7_code 73 = .ok (.iconst 0, 1) := by decide +kernel
theorem dModel_pointAt_74 : decode prog_14_method_7_code 74 = .ok (.goto 4, 3) := by decide +kernel
theorem dModel_pointAt_77 : decode prog_14_method_7_code 77 = .ok (.iload_n 2, 1) := by decide +kernel
theorem dModel_pointAt_78 : decode prog_14_method_7_code 78 = .ok (.ireturn, 1) := by decide +kernel
theorem dModel_isSign_0 : decode prog_14_method_8_code 0 = .ok (.iload_n 0, 1) := by decide +kernel
theorem dModel_isSign_1 : decode prog_14_method_8_code 1 = .ok (.bipush 59, 2) := by decide +kernel
theorem dModel_isSign_3 : decode prog_14_method_8_code 3 = .ok (.if_icmp .eq 57, 3) := by decide +kernel
theorem dModel_isSign_6 : decode prog_14_method_8_code 6 = .ok (.iload_n 0, 1) := by decide +kernel
theorem dModel_isSign_7 : decode prog_14_method_8_code 7 = .ok (.bipush 40, 2) := by decide +kernel
theorem dModel_isSign_9 : decode prog_14_method_8_code 9 = .ok (.if_icmp .eq 51, 3) := by decide +kernel
theorem dModel_isSign_12 : decode prog_14_method_8_code 12 = .ok (.iload_n 0, 1) := by decide +kernel
theorem dModel_isSign_13 : decode prog_14_method_8_code 13 = .ok (.bipush 41, 2) := by decide +kernel
theorem dModel_isSign_15 : decode prog_14_method_8_code 15 = .ok (.if_icmp .eq 45, 3) := by decide +kernel
theorem dModel_isSign_18 : decode prog_14_method_8_code 18 = .ok (.iload_n 0, 1) := by decide +kernel
theorem dModel_isSign_19 : decode prog_14_method_8_code 19 = .ok (.bipush 60, 2) := by decide +kernel
theorem dModel_isSign_21 : decode prog_14_method_8_code 21 = .ok (.if_icmp .eq 39, 3) := by decide +kernel
theorem dModel_isSign_24 : decode prog_14_method_8_code 24 = .ok (.iload_n 0, 1) := by decide +kernel
theorem dModel_isSign_25 : decode prog_14_method_8_code 25 = .ok (.bipush 62, 2) := by decide +kernel
theorem dModel_isSign_27 : decode prog_14_method_8_code 27 = .ok (.if_icmp .eq 33, 3) := by decide +kernel
theorem dModel_isSign_30 : decode prog_14_method_8_code 30 = .ok (.iload_n 0, 1) := by decide +kernel
theorem dModel_isSign_31 : decode prog_14_method_8_code 31 = .ok (.bipush 61, 2) := by decide +kernel
theorem dModel_isSign_33 : decode prog_14_method_8_code 33 = .ok (.if_icmp .eq 27, 3) := by decide +kernel
theorem dModel_isSign_36 : decode prog_14_method_8_code 36 = .ok (.iload_n 0, 1) := by decide +kernel
theorem dModel_isSign_37 : decode prog_14_method_8_code 37 = .ok (.bipush 43, 2) := by decide +kernel
theorem dModel_isSign_39 : decode prog_14_method_8_code 39 = .ok (.if_icmp .eq 21, 3) := by decide +kernel
theorem dModel_isSign_42 : decode prog_14_method_8_code 42 = .ok (.iload_n 0, 1) := by decide +kernel
theorem dModel_isSign_43 : decode prog_14_method_8_code 43 = .ok (.bipush 45, 2) := by decide +kernel
theorem dModel_isSign_45 : decode prog_14_method_8_code 45 = .ok (.if_icmp .eq 15, 3) := by decide +kernel
theorem dModel_isSign_48 : decode prog_14_method_8_code 48 = .ok (.iload_n 0, 1) := by decide +kernel
theorem dModel_isSign_49 : decode prog_14_method_8_code 49 = .ok (.bipush 42, 2) := by decide +kernel
theorem dModel_isSign_51 : decode prog_14_method_8_code 51 = .ok (.if_icmp .eq 9, 3) := by decide +kernel
theorem dModel_isSign_54 : decode prog_14_method_8_code 54 = .ok (.iload_n 0, 1) := by decide +kernel
theorem dModel_isSign_55 : decode prog_14_method_8_code 55 = .ok (.bipush 47, 2) := by decide +kernel
theorem dModel_isSign_57 : decode prog_14_method_8_code 57 = .ok (.if_icmp .ne 7, 3) := by decide +kernel
theorem dModel_isSign_60 : decode prog_14_method_8_code 60 = .ok (.iconst 1, 1) := by decide +kernel
theorem dModel_isSign_61 : decode prog_14_method_8_code 61 = .ok (.goto 4, 3) := by decide +kernel
theorem dModel_isSign_64 : decode prog_14_method_8_code 64 = .ok (.iconst 0, 1) := by decide +kernel
theorem dModel_isSign_65 : decode prog_14_method_8_code 65 = .ok (.ireturn, 1) := by decide +kernel
theorem dModel_next_0 : decode prog_14_method_9_code 0 = .ok (.aload_n 0, 1) := by decide +kernel
theorem dModel_next_1 : decode prog_14_method_9_code 1 = .ok (.aload_n 0, 1) := by decide +kernel
theorem dModel_next_2 : decode prog_14_method_9_code 2 = .ok (.getfield 92, 3) := by decide +kernel
theorem dModel_next_5 : decode prog_14_method_9_code 5 = .ok (.putfield 95, 3) := by decide +kernel
theorem dModel_next_8 : decode prog_14_method_9_code 8 = .ok (.aload_n 0, 1) := by decide +kernel
theorem dModel_next_9 : decode prog_14_method_9_code 9 = .ok (.getfield 95, 3) := by decide +kernel
theorem dModel_next_12 : decode prog_14_method_9_code 12 = .ok (.aload_n 0, 1) := by decide +kernel
theorem dModel_next_13 : decode prog_14_method_9_code 13 = .ok (.getfield 1, 3) := by decide +kernel
theorem dModel_next_16 : decode prog_14_method_9_code 16 = .ok (.if_icmp .ge 42, 3) := by decide +kernel
theorem dModel_next_19 : decode prog_14_method_9_code 19 = .ok (.aload_n 0, 1) := by decide +kernel
theorem dModel_next_20 : decode prog_14_method_9_code 20 = .ok (.aload_n 0, 1) := by decide +kernel
theorem dModel_next_21 : decode prog_14_method_9_code 21 = .ok (.getfield 95, 3) := by decide +kernel
theorem dModel_next_24 : decode prog_14_method_9_code 24 = .ok (.invokevirtual 81, 3) := by decide +kernel
theorem dModel_next_27 : decode prog_14_method_9_code 27 = .ok (.bipush 32, 2) := by decide +kernel
theorem dModel_next_29 : decode prog_14_method_9_code 29 = .ok (.if_icmp .eq 16, 3) := by decide +kernel
theorem dModel_next_32 : decode prog_14_method_9_code 32 = .ok (.aload_n 0, 1) := by decide +kernel
theorem dModel_next_33 : decode prog_14_method_9_code 33 = .ok (.aload_n 0, 1) := by decide +kernel
theorem dModel_next_34 : decode prog_14_method_9_code 34 = .ok (.getfield 95, 3) := by decide +kernel
theorem dModel_next_37 : decode prog_14_method_9_code 37 = .ok (.invokevirtual 81, 3) := by decide +kernel
theorem dModel_next_40 : decode prog_14_method_9_code 40 = .ok (.bipush 10, 2) := by decide +kernel
theorem dModel_next_42 : decode prog_14_method_9_code 42 = .ok (.if_icmp .ne 16, 3) := by decide +kernel
theorem dModel_next_45 : decode prog_14_method_9_code 45 = .ok (.aload_n 0, 1) := by decide +kernel
theorem dModel_next_46 : decode prog_14_method_9_code 46 = .ok (.dup, 1) := by decide +kernel
theorem dModel_next_47 : decode prog_14_method_9_code 47 = .ok (.getfield 95, 3) := by decide +kernel
theorem dModel_next_50 : decode prog_14_method_9_code 50 = .ok (.iconst 1, 1) := by decide +kernel
theorem dModel_next_51 : decode prog_14_method_9_code 51 = .ok (.iadd, 1) := by decide +kernel
theorem dModel_next_52 : decode prog_14_method_9_code 52 = .ok (.putfield 95, 3) := by decide +kernel
theorem dModel_next_55 : decode prog_14_method_9_code 55 = .ok (.goto (-47), 3) := by decide +kernel
theorem dModel_next_58 : decode prog_14_method_9_code 58 = .ok (.aload_n 0, 1) := by decide +kernel
theorem dModel_next_59 : decode prog_14_method_9_code 59 = .ok (.aload_n 0, 1) := by decide +kernel
theorem dModel_next_60 : decode prog_14_method_9_code 60 = .ok (.getfield 95, 3) := by decide +kernel
theorem dModel_next_63 : decode prog_14_method_9_code 63 = .ok (.invokevirtual 81, 3) := by decide +kernel
theorem dModel_next_66 : decode prog_14_method_9_code 66 = .ok (.istore_n 1, 1) := by decide +kernel
theorem dModel_next_67 : decode prog_14_method_9_code 67 = .ok (.aload_n 0, 1) := by decide +kernel
theorem dModel_next_68 : decode prog_14_method_9_code 68 = .ok (.aload_n 0, 1) := by decide +kernel
theorem dModel_next_69 : decode prog_14_method_9_code 69 = .ok (.getfield 95, 3) := by decide +kernel
theorem dModel_next_72 : decode prog_14_method_9_code 72 = .ok (.iconst 1, 1) := by decide +kernel
theorem dModel_next_73 : decode prog_14_method_9_code 73 = .ok (.iadd, 1) := by decide +kernel
theorem dModel_next_74 : decode prog_14_method_9_code 74 = .ok (.putfield 92, 3) := by decide +kernel
theorem dModel_next_77 : decode prog_14_method_9_code 77 = .ok (.aload_n 0, 1) := by decide +kernel
theorem dModel_next_78 : decode prog_14_method_9_code 78 = .ok (.getfield 95, 3) := by decide +kernel
theorem dModel_next_81 : decode prog_14_method_9_code 81 = .ok (.aload_n 0, 1) := by decide +kernel
theorem dModel_next_82 : decode prog_14_method_9_code 82 = .ok (.getfield 1, 3) := by decide +kernel
theorem dModel_next_85 : decode prog_14_method_9_code 85 = .ok (.if_icmp .lt 27, 3) := by decide +kernel
theorem dModel_next_88 : decode prog_14_method_9_code 88 = .ok (.aload_n 0, 1) := by decide +kernel
theorem dModel_next_89 : decode prog_14_method_9_code 89 = .ok (.iconst 0, 1) := by decide +kernel
theorem dModel_next_90 : decode prog_14_method_9_code 90 = .ok (.putfield 98, 3) := by decide +kernel
theorem dModel_next_93 : decode prog_14_method_9_code 93 = .ok (.aload_n 0, 1) := by decide +kernel
theorem dModel_next_94 : decode prog_14_method_9_code 94 = .ok (.aload_n 0, 1) := by decide +kernel
theorem dModel_next_95 : decode prog_14_method_9_code 95 = .ok (.getfield 1, 3) := by decide +kernel
theorem dModel_next_98 : decode prog_14_method_9_code 98 = .ok (.putfield 95, 3) := by decide +kernel
theorem dModel_next_101 : decode prog_14_method_9_code 101 = .ok (.aload_n 0, 1) := by decide +kernel
theorem dModel_next_102 : decode prog_14_method_9_code 102 = .ok (.aload_n 0, 1) := by decide +kernel
theorem dModel_next_103 : decode prog_14_method_9_code 103 = .ok (.getfield 1, 3) := by decide +kernel
theorem dModel_next_106 : decode prog_14_method_9_code 106 = .ok (.putfield 92, 3) := by decide +kernel
theorem dModel_next_109 : decode prog_14_method_9_code 109 = .ok (.goto 373, 3) := by decide +kernel
theorem dModel_next_112 : decode prog_14_method_9_code 112 = .ok (.aload_n 0, 1) := by decide +kernel
theorem dModel_next_113 : decode prog_14_method_9_code 113 = .ok (.getfield 101, 3) := by decide +kernel
theorem dModel_next_116 : decode prog_14_method_9_code 116 = .ok (.ifCond .ne 100, 3) := by decide +kernel
theorem dModel_next_119 : decode prog_14_method_9_code 119 = .ok (.iload_n 1, 1) := by decide +kernel
theorem dModel_next_120 : decode prog_14_method_9_code 120 = .ok (.bipush 112, 2) := by decide +kernel
theorem dModel_next_122 : decode prog_14_method_9_code 122 = .ok (.if_icmp .ne 94, 3) := by decide +kernel
theorem dModel_next_125 : decode prog_14_method_9_code 125 = .ok (.aload_n 0, 1) := by decide +kernel
theorem dModel_next_126 : decode prog_14_method_9_code 126 = .ok (.aload_n 0, 1) := by decide +kernel
theorem dModel_next_127 : decode prog_14_method_9_code 127 = .ok (.getfield 95, 3) := by decide +kernel
theorem dModel_next_130 : decode prog_14_method_9_code 130 = .ok (.iconst 1, 1) := by decide +kernel
theorem dModel_next_131 : decode prog_14_method_9_code 131 = .ok (.iadd, 1) := by decide +kernel
theorem dModel_next_132 : decode prog_14_method_9_code 132 = .ok (.invokevirtual 105, 3) := by decide +kernel
theorem dModel_next_135 : decode prog_14_method_9_code 135 = .ok (.ifCond .le 81, 3) := by decide +kernel
theorem dModel_next_138 : decode prog_14_method_9_code 138 = .ok (.aload_n 0, 1) := by decide +kernel
theorem dModel_next_139 : decode prog_14_method_9_code 139 = .ok (.aload_n 0, 1) := by decide +kernel
theorem dModel_next_140 : decode prog_14_method_9_code 140 = .ok (.getfield 95, 3) := by decide +kernel
theorem dModel_next_143 : decode prog_14_method_9_code 143 = .ok (.iconst 1, 1) := by decide +kernel
theorem dModel_next_144 : decode prog_14_method_9_code 144 = .ok (.iadd, 1) := by decide +kernel
theorem dModel_next_145 : decode prog_14_method_9_code 145 = .ok (.invokevirtual 105, 3) := by decide +kernel
theorem dModel_next_148 : decode prog_14_method_9_code 148 = .ok (.istore_n 2, 1) := by decide +kernel
theorem dModel_next_149 : decode prog_14_method_9_code 149 = .ok (.aload_n 0, 1) := by decide +kernel
theorem dModel_next_150 : decode prog_14_method_9_code 150 = .ok (.aload_n 0, 1) := by decide +kernel
theorem dModel_next_151 : decode prog_14_method_9_code 151 = .ok (.aload_n 0, 1) := by decide +kernel
theorem dModel_next_152 : decode prog_14_method_9_code 152 = .ok (.getfield 95, 3) := by decide +kernel
theorem dModel_next_155 : decode prog_14_method_9_code 155 = .ok (.iconst 1, 1) := by decide +kernel
theorem dModel_next_156 : decode prog_14_method_9_code 156 = .ok (.iadd, 1) := by decide +kernel
theorem dModel_next_157 : decode prog_14_method_9_code 157 = .ok (.invokevirtual 81, 3) := by decide +kernel
theorem dModel_next_160 : decode prog_14_method_9_code 160 = .ok (.bipush 48, 2) := by decide +kernel
theorem dModel_next_162 : decode prog_14_method_9_code 162 = .ok (.isub, 1) := by decide +kernel
theorem dModel_next_163 : decode prog_14_method_9_code 163 = .ok (.putfield 108, 3) := by decide +kernel
theorem dModel_next_166 : decode prog_14_method_9_code 166 = .ok (.iload_n 2, 1) := by decide +kernel
theorem dModel_next_167 : decode prog_14_method_9_code 167 = .ok (.iconst 2, 1) := by decide +kernel
theorem dModel_next_168 : decode prog_14_method_9_code 168 = .ok (.if_icmp .ne 28, 3) := by decide +kernel
theorem dModel_next_171 : decode prog_14_method_9_code 171 = .ok (.aload_n 0, 1) := by decide +kernel
theorem dModel_next_172 : decode prog_14_method_9_code 172 = .ok (.bipush 10, 2) := by decide +kernel
theorem dModel_next_174 : decode prog_14_method_9_code 174 = .ok (.aload_n 0, 1) := by decide +kernel
theorem dModel_next_175 : decode prog_14_method_9_code 175 = .ok (.getfield 108, 3) := by decide +kernel
theorem dModel_next_178 : decode prog_14_method_9_code 178 = .ok (.imul, 1) := by decide +kernel
theorem dModel_next_179 : decode prog_14_method_9_code 179 = .ok (.aload_n 0, 1) := by decide +kernel
theorem dModel_next_180 : decode prog_14_method_9_code 180 = .ok (.aload_n 0, 1) := by decide +kernel
theorem dModel_next_181 : decode prog_14_method_9_code 181 = .ok (.getfield 95, 3) := by decide +kernel
theorem dModel_next_184 : decode prog_14_method_9_code 184 = .ok (.iconst 2, 1) := by decide +kernel
theorem dModel_next_185 : decode prog_14_method_9_code 185 = .ok (.iadd, 1) := by decide +kernel
theorem dModel_next_186 : decode prog_14_method_9_code 186 = .ok (.invokevirtual 81, 3) := by decide +kernel
theorem dModel_next_189 : decode prog_14_method_9_code 189 = .ok (.iadd, 1) := by decide +kernel
theorem dModel_next_190 : decode prog_14_method_9_code 190 = .ok (.bipush 48, 2) := by decide +kernel
theorem dModel_next_192 : decode prog_14_method_9_code 192 = .ok (.isub, 1) := by decide +kernel
theorem dModel_next_193 : decode prog_14_method_9_code 193 = .ok (.putfield 108, 3) := by decide +kernel
theorem dModel_next_196 : decode prog_14_method_9_code 196 = .ok (.aload_n 0, 1) := by decide +kernel
theorem dModel_next_197 : decode prog_14_method_9_code 197 = .ok (.aload_n 0, 1) := by decide +kernel
theorem dModel_next_198 : decode prog_14_method_9_code 198 = .ok (.getfield 95, 3) := by decide +kernel
theorem dModel_next_201 : decode prog_14_method_9_code 201 = .ok (.iconst 1, 1) := by decide +kernel
theorem dModel_next_202 : decode prog_14_method_9_code 202 = .ok (.iadd, 1) := by decide +kernel
theorem dModel_next_203 : decode prog_14_method_9_code 203 = .ok (.iload_n 2, 1) := by decide +kernel
theorem dModel_next_204 : decode prog_14_method_9_code 204 = .ok (.iadd, 1) := by decide +kernel
theorem dModel_next_205 : decode prog_14_method_9_code 205 = .ok (.putfield 92, 3) := by decide +kernel
theorem dModel_next_208 : decode prog_14_method_9_code 208 = .ok (.aload_n 0, 1) := by decide +kernel
theorem dModel_next_209 : decode prog_14_method_9_code 209 = .ok (.iconst 5, 1) := by decide +kernel
theorem dModel_next_210 : decode prog_14_method_9_code 210 = .ok (.putfield 98, 3) := by decide +kernel
theorem dModel_next_213 : decode prog_14_method_9_code 213 = .ok (.goto 269, 3) := by decide +kernel
theorem dModel_next_216 : decode prog_14_method_9_code 216 = .ok (.iload_n 1, 1) := by decide +kernel
theorem dModel_next_217 : decode prog_14_method_9_code 217 = .ok (.invokestatic 89, 3) := by decide +kernel
theorem dModel_next_220 : decode prog_14_method_9_code 220 = .ok (.ifCond .eq 123, 3) := by decide +kernel
theorem dModel_next_223 : decode prog_14_method_9_code 223 = .ok (.aload_n 0, 1) := by decide +kernel
theorem dModel_next_224 : decode prog_14_method_9_code 224 = .ok (.aload_n 0, 1) := by decide +kernel
theorem dModel_next_225 : decode prog_14_method_9_code 225 = .ok (.getfield 92, 3) := by decide +kernel
theorem dModel_next_228 : decode prog_14_method_9_code 228 = .ok (.invokevirtual 81, 3) := by decide +kernel
theorem dModel_next_231 : decode prog_14_method_9_code 231 = .ok (.invokestatic 89, 3) := by decide +kernel
theorem dModel_next_234 : decode prog_14_method_9_code 234 = .ok (.ifCond .eq 16, 3) := by decide +kernel
theorem dModel_next_237 : decode prog_14_method_9_code 237 = .ok (.aload_n 0, 1) := by decide +kernel
theorem dModel_next_238 : decode prog_14_method_9_code 238 = .ok (.dup, 1) := by decide +kernel
theorem dModel_next_239 : decode prog_14_method_9_code 239 = .ok (.getfield 92, 3) := by decide +kernel
theorem dModel_next_242 : decode prog_14_method_9_code 242 = .ok (.iconst 1, 1) := by decide +kernel
theorem dModel_next_243 : decode prog_14_method_9_code 243 = .ok (.iadd, 1) := by decide +kernel
theorem dModel_next_244 : decode prog_14_method_9_code 244 = .ok (.putfield 92, 3) := by decide +kernel
theorem dModel_next_247 : decode prog_14_method_9_code 247 = .ok (.goto (-24), 3) := by decide +kernel
theorem dModel_next_250 : decode prog_14_method_9_code 250 = .ok (.aload_n 0, 1) := by decide +kernel
theorem dModel_next_251 : decode prog_14_method_9_code 251 = .ok (.lconst 0, 1) := by decide +kernel
theorem dModel_next_252 : decode prog_14_method_9_code 252 = .ok (.putfield 111, 3) := by decide +kernel
theorem dModel_next_255 : decode prog_14_method_9_code 255 = .ok (.aload_n 0, 1) := by decide +kernel
theorem dModel_next_256 : decode prog_14_method_9_code 256 = .ok (.getfield 95, 3) := by decide +kernel
theorem dModel_next_259 : decode prog_14_method_9_code 259 = .ok (.istore_n 2, 1) := by decide +kernel
theorem dModel_next_260 : decode prog_14_method_9_code 260 = .ok (.iload_n 2, 1) := by decide +kernel
theorem dModel_next_261 : decode prog_14_method_9_code 261 = .ok (.aload_n 0, 1) := by decide +kernel
theorem dModel_next_262 : decode prog_14_method_9_code 262 = .ok (.getfield 92, 3) := by decide +kernel
theorem dModel_next_265 : decode prog_14_method_9_code 265 = .ok (.if_icmp .ge 38, 3) := by decide +kernel
theorem dModel_next_268 : decode prog_14_method_9_code 268 = .ok (.iload_n 2, 1) := by decide +kernel
theorem dModel_next_269 : decode prog_14_method_9_code 269 = .ok (.aload_n 0, 1) := by decide +kernel
theorem dModel_next_270 : decode prog_14_method_9_code 270 = .ok (.getfield 95, 3) := by decide +kernel
theorem dModel_next_273 : decode prog_14_method_9_code 273 = .ok (.bipush 8, 2) := by decide +kernel
theorem dModel_next_275 : decode prog_14_method_9_code 275 = .ok (.iadd, 1) := by decide +kernel
theorem dModel_next_276 : decode prog_14_method_9_code 276 = .ok (.if_icmp .ge 27, 3) := by decide +kernel
theorem dModel_next_279 : decode prog_14_method_9_code 279 = .ok (.aload_n 0, 1) := by decide +kernel
theorem dModel_next_280 : decode prog_14_method_9_code 280 = .ok (.aload_n 0, 1) := by decide +kernel
theorem dModel_next_281 : decode prog_14_method_9_code 281 = .ok (.getfield 111, 3) := by decide +kernel
theorem dModel_next_284 : decode prog_14_method_9_code 284 = .ok (.bipush 8, 2) := by decide +kernel
theorem dModel_next_286 : decode prog_14_method_9_code 286 = .ok (.lshl, 1) := by decide +kernel
theorem dModel_next_287 : decode prog_14_method_9_code 287 = .ok (.aload_n 0, 1) := by decide +kernel
theorem dModel_next_288 : decode prog_14_method_9_code 288 = .ok (.iload_n 2, 1) := by decide +kernel
theorem dModel_next_289 : decode prog_14_method_9_code 289 = .ok (.invokevirtual 81, 3) := by decide +kernel
theorem dModel_next_292 : decode prog_14_method_9_code 292 = .ok (.i2l, 1) := by decide +kernel
theorem dModel_next_293 : decode prog_14_method_9_code 293 = .ok (.lor, 1) := by decide +kernel
theorem dModel_next_294 : decode prog_14_method_9_code 294 = .ok (.putfield 111, 3) := by decide +kernel
theorem dModel_next_297 : decode prog_14_method_9_code 297 = .ok (.iinc 2 1, 3) := by decide +kernel
theorem dModel_next_300 : decode prog_14_method_9_code 300 = .ok (.goto (-40), 3) := by decide +kernel
theorem dModel_next_303 : decode prog_14_method_9_code 303 = .ok (.aload_n 0, 1) := by decide +kernel
theorem dModel_next_304 : decode prog_14_method_9_code 304 = .ok (.aload_n 0, 1) := by decide +kernel
theorem dModel_next_305 : decode prog_14_method_9_code 305 = .ok (.getfield 92, 3) := by decide +kernel
theorem dModel_next_308 : decode prog_14_method_9_code 308 = .ok (.aload_n 0, 1) := by decide +kernel
theorem dModel_next_309 : decode prog_14_method_9_code 309 = .ok (.getfield 95, 3) := by decide +kernel
theorem dModel_next_312 : decode prog_14_method_9_code 312 = .ok (.isub, 1) := by decide +kernel
theorem dModel_next_313 : decode prog_14_method_9_code 313 = .ok (.bipush 8, 2) := by decide +kernel
theorem dModel_next_315 : decode prog_14_method_9_code 315 = .ok (.if_icmp .le 7, 3) := by decide +kernel
theorem dModel_next_318 : decode prog_14_method_9_code 318 = .ok (.iconst 1, 1) := by decide +kernel
theorem dModel_next_319 : decode prog_14_method_9_code 319 = .ok (.goto 18, 3) := by decide +kernel
theorem dModel_next_322 : decode prog_14_method_9_code 322 = .ok (.aload_n 0, 1) := by decide +kernel
theorem dModel_next_323 : decode prog_14_method_9_code 323 = .ok (.getfield 111, 3) := by decide +kernel
theorem dModel_next_326 : decode prog_14_method_9_code 326 = .ok (.invokestatic 115, 3) := by decide +kernel
theorem dModel_next_329 : decode prog_14_method_9_code 329 = .ok (.ifCond .eq 7, 3) := by decide +kernel
theorem dModel_next_332 : decode prog_14_method_9_code 332 = .ok (.iconst 3, 1) := by decide +kernel
theorem dModel_next_333 : decode prog_14_method_9_code 333 = .ok (.goto 4, 3) := by decide +kernel
theorem dModel_next_336 : decode prog_14_method_9_code 336 = .ok (.iconst 2, 1) := by decide +kernel
theorem dModel_next_337 : decode prog_14_method_9_code 337 = .ok (.putfield 98, 3) := by decide +kernel
theorem dModel_next_340 : decode prog_14_method_9_code 340 = .ok (.goto 142, 3) := by decide +kernel
theorem dModel_next_343 : decode prog_14_method_9_code 343 = .ok (.iload_n 1, 1) := by decide +kernel
theorem dModel_next_344 : decode prog_14_method_9_code 344 = .ok (.invokestatic 85, 3) := by decide +kernel
theorem dModel_next_347 : decode prog_14_method_9_code 347 = .ok (.ifCond .eq 118, 3) := by decide +kernel
theorem dModel_next_350 : decode prog_14_method_9_code 350 = .ok (.aload_n 0, 1) := by decide +kernel
theorem dModel_next_351 : decode prog_14_method_9_code 351 = .ok (.iconst 0, 1) := by decide +kernel
theorem dModel_next_352 : decode prog_14_method_9_code 352 = .ok (.putfield 108, 3) := by decide +kernel
theorem dModel_next_355 : decode prog_14_method_9_code 355 = .ok (.aload_n 0, 1) := by decide +kernel
theorem dModel_next_356 : decode prog_14_method_9_code 356 = .ok (.aload_n 0, 1) := by decide +kernel
theorem dModel_next_357 : decode prog_14_method_9_code 357 = .ok (.getfield 95, 3) := by decide +kernel
theorem dModel_next_360 : decode prog_14_method_9_code 360 = .ok (.putfield 92, 3) := by decide +kernel
theorem dModel_next_363 : decode prog_14_method_9_code 363 = .ok (.aload_n 0, 1) := by decide +kernel
theorem dModel_next_364 : decode prog_14_method_9_code 364 = .ok (.aload_n 0, 1) := by decide +kernel
theorem dModel_next_365 : decode prog_14_method_9_code 365 = .ok (.getfield 92, 3) := by decide +kernel
theorem dModel_next_368 : decode prog_14_method_9_code 368 = .ok (.invokevirtual 81, 3) := by decide +kernel
theorem dModel_next_371 : decode prog_14_method_9_code 371 = .ok (.invokestatic 85, 3) := by decide +kernel
theorem dModel_next_374 : decode prog_14_method_9_code 374 = .ok (.ifCond .eq 52, 3) := by decide +kernel
theorem dModel_next_377 : decode prog_14_method_9_code 377 = .ok (.aload_n 0, 1) := by decide +kernel
theorem dModel_next_378 : decode prog_14_method_9_code 378 = .ok (.getfield 92, 3) := by decide +kernel
theorem dModel_next_381 : decode prog_14_method_9_code 381 = .ok (.aload_n 0, 1) := by decide +kernel
theorem dModel_next_382 : decode prog_14_method_9_code 382 = .ok (.getfield 95, 3) := by decide +kernel
theorem dModel_next_385 : decode prog_14_method_9_code 385 = .ok (.isub, 1) := by decide +kernel
theorem dModel_next_386 : decode prog_14_method_9_code 386 = .ok (.iconst 4, 1) := by decide +kernel
theorem dModel_next_387 : decode prog_14_method_9_code 387 = .ok (.if_icmp .ge 26, 3) := by decide +kernel
theorem dModel_next_390 : decode prog_14_method_9_code 390 = .ok (.aload_n 0, 1) := by decide +kernel
theorem dModel_next_391 : decode prog_14_method_9_code 391 = .ok (.bipush 10, 2) := by decide +kernel
theorem dModel_next_393 : decode prog_14_method_9_code 393 = .ok (.aload_n 0, 1) := by decide +kernel
theorem dModel_next_394 : decode prog_14_method_9_code 394 = .ok (.getfield 108, 3) := by decide +kernel
theorem dModel_next_397 : decode prog_14_method_9_code 397 = .ok (.imul, 1) := by decide +kernel
theorem dModel_next_398 : decode prog_14_method_9_code 398 = .ok (.aload_n 0, 1) := by decide +kernel
theorem dModel_next_399 : decode prog_14_method_9_code 399 = .ok (.aload_n 0, 1) := by decide +kernel
theorem dModel_next_400 : decode prog_14_method_9_code 400 = .ok (.getfield 92, 3) := by decide +kernel
theorem dModel_next_403 : decode prog_14_method_9_code 403 = .ok (.invokevirtual 81, 3) := by decide +kernel
theorem dModel_next_406 : decode prog_14_method_9_code 406 = .ok (.iadd, 1) := by decide +kernel
theorem dModel_next_407 : decode prog_14_method_9_code 407 = .ok (.bipush 48, 2) := by decide +kernel
theorem dModel_next_409 : decode prog_14_method_9_code 409 = .ok (.isub, 1) := by decide +kernel
theorem dModel_next_410 : decode prog_14_method_9_code 410 = .ok (.putfield 108, 3) := by decide +kernel
theorem dModel_next_413 : decode prog_14_method_9_code 413 = .ok (.aload_n 0, 1) := by decide +kernel
theorem dModel_next_414 : decode prog_14_method_9_code 414 = .ok (.dup, 1) := by decide +kernel
theorem dModel_next_415 : decode prog_14_method_9_code 415 = .ok (.getfield 92, 3) := by decide +kernel
theorem dModel_next_418 : decode prog_14_method_9_code 418 = .ok (.iconst 1, 1) := by decide +kernel
theorem dModel_next_419 : decode prog_14_method_9_code 419 = .ok (.iadd, 1) := by decide +kernel
theorem dModel_next_420 : decode prog_14_method_9_code 420 = .ok (.putfield 92, 3) := by decide +kernel
theorem dModel_next_423 : decode prog_14_method_9_code 423 = .ok (.goto (-60), 3) := by decide +kernel
theorem dModel_next_426 : decode prog_14_method_9_code 426 = .ok (.aload_n 0, 1) := by decide +kernel
theorem dModel_next_427 : decode prog_14_method_9_code 427 = .ok (.aload_n 0, 1) := by decide +kernel
theorem dModel_next_428 : decode prog_14_method_9_code 428 = .ok (.getfield 92, 3) := by decide +kernel
theorem dModel_next_431 : decode prog_14_method_9_code 431 = .ok (.aload_n 0, 1) := by decide +kernel
theorem dModel_next_432 : decode prog_14_method_9_code 432 = .ok (.getfield 95, 3) := by decide +kernel
theorem dModel_next_435 : decode prog_14_method_9_code 435 = .ok (.isub, 1) := by decide +kernel
theorem dModel_next_436 : decode prog_14_method_9_code 436 = .ok (.iconst 4, 1) := by decide +kernel
theorem dModel_next_437 : decode prog_14_method_9_code 437 = .ok (.if_icmp .gt 17, 3) := by decide +kernel
theorem dModel_next_440 : decode prog_14_method_9_code 440 = .ok (.aload_n 0, 1) := by decide +kernel
theorem dModel_next_441 : decode prog_14_method_9_code 441 = .ok (.aload_n 0, 1) := by decide +kernel
theorem dModel_next_442 : decode prog_14_method_9_code 442 = .ok (.getfield 92, 3) := by decide +kernel
theorem dModel_next_445 : decode prog_14_method_9_code 445 = .ok (.invokevirtual 81, 3) := by decide +kernel
theorem dModel_next_448 : decode prog_14_method_9_code 448 = .ok (.invokestatic 89, 3) := by decide +kernel
theorem dModel_next_451 : decode prog_14_method_9_code 451 = .ok (.ifCond .eq 7, 3) := by decide +kernel
theorem dModel_next_454 : decode prog_14_method_9_code 454 = .ok (.iconst 1, 1) := by decide +kernel
theorem dModel_next_455 : decode prog_14_method_9_code 455 = .ok (.goto 4, 3) := by decide +kernel
theorem dModel_next_458 : decode prog_14_method_9_code 458 = .ok (.iconst 4, 1) := by decide +kernel
theorem dModel_next_459 : decode prog_14_method_9_code 459 = .ok (.putfield 98, 3) := by decide +kernel
theorem dModel_next_462 : decode prog_14_method_9_code 462 = .ok (.goto 20, 3) := by decide +kernel
theorem dModel_next_465 : decode prog_14_method_9_code 465 = .ok (.aload_n 0, 1) := by decide +kernel
theorem dModel_next_466 : decode prog_14_method_9_code 466 = .ok (.iload_n 1, 1) := by decide +kernel
theorem dModel_next_467 : decode prog_14_method_9_code 467 = .ok (.invokestatic 119, 3) := by decide +kernel
theorem dModel_next_470 : decode prog_14_method_9_code 470 = .ok (.ifCond .eq 8, 3) := by decide +kernel
theorem dModel_next_473 : decode prog_14_method_9_code 473 = .ok (.bipush 6, 2) := by decide +kernel
theorem dModel_next_475 : decode prog_14_method_9_code 475 = .ok (.goto 4, 3) := by decide +kernel
theorem dModel_next_478 : decode prog_14_method_9_code 478 = .ok (.iconst 1, 1) := by decide +kernel
theorem dModel_next_479 : decode prog_14_method_9_code 479 = .ok (.putfield 98, 3) := by decide +kernel
theorem dModel_next_482 : decode prog_14_method_9_code 482 = .ok (.return_, 1) := by decide +kernel
theorem dModel_is_0 : decode prog_14_method_10_code 0 = .ok (.aload_n 0, 1) := by decide +kernel
theorem dModel_is_1 : decode prog_14_method_10_code 1 = .ok (.getfield 98, 3) := by decide +kernel
theorem dModel_is_4 : decode prog_14_method_10_code 4 = .ok (.bipush 6, 2) := by decide +kernel
theorem dModel_is_6 : decode prog_14_method_10_code 6 = .ok (.if_icmp .ne 19, 3) := by decide +kernel
theorem dModel_is_9 : decode prog_14_method_10_code 9 = .ok (.aload_n 0, 1) := by decide +kernel
theorem dModel_is_10 : decode prog_14_method_10_code 10 = .ok (.aload_n 0, 1) := by decide +kernel
theorem dModel_is_11 : decode prog_14_method_10_code 11 = .ok (.getfield 95, 3) := by decide +kernel
theorem dModel_is_14 : decode prog_14_method_10_code 14 = .ok (.invokevirtual 81, 3) := by decide +kernel
theorem dModel_is_17 : decode prog_14_method_10_code 17 = .ok (.iload_n 1, 1) := by decide +kernel
theorem dModel_is_18 : decode prog_14_method_10_code 18 = .ok (.if_icmp .ne 7, 3) := by decide +kernel
theorem dModel_is_21 : decode prog_14_method_10_code 21 = .ok (.iconst 1, 1) := by decide +kernel
theorem dModel_is_22 : decode prog_14_method_10_code 22 = .ok (.goto 4, 3) := by decide +kernel
theorem dModel_is_25 : decode prog_14_method_10_code 25 = .ok (.iconst 0, 1) := by decide +kernel
theorem dModel_is_26 : decode prog_14_method_10_code 26 = .ok (.ireturn, 1) := by decide +kernel
theorem dModel_isWord_0 : decode prog_14_method_11_code 0 = .ok (.aload_n 0, 1) := by decide +kernel
theorem dModel_isWord_1 : decode prog_14_method_11_code 1 = .ok (.getfield 98, 3) := by decide +kernel
theorem dModel_isWord_4 : decode prog_14_method_11_code 4 = .ok (.iconst 3, 1) := by decide +kernel
theorem dModel_isWord_5 : decode prog_14_method_11_code 5 = .ok (.if_icmp .ne 16, 3) := by decide +kernel
theorem dModel_isWord_8 : decode prog_14_method_11_code 8 = .ok (.aload_n 0, 1) := by decide +kernel
theorem dModel_isWord_9 : decode prog_14_method_11_code 9 = .ok (.getfield 111, 3) := by decide +kernel
theorem dModel_isWord_12 : decode prog_14_method_11_code 12 = .ok (.lload_n 1, 1) := by decide +kernel
theorem dModel_isWord_13 : decode prog_14_method_11_code 13 = .ok (.lcmp, 1) := by decide +kernel
theorem dModel_isWord_14 : decode prog_14_method_11_code 14 = .ok (.ifCond .ne 7, 3) := by decide +kernel
theorem dModel_isWord_17 : decode prog_14_method_11_code 17 = .ok (.iconst 1, 1) := by decide +kernel
theorem dModel_isWord_18 : decode prog_14_method_11_code 18 = .ok (.goto 4, 3) := by decide +kernel
theorem dModel_isWord_21 : decode prog_14_method_11_code 21 = .ok (.iconst 0, 1) := by decide +kernel
theorem dModel_isWord_22 : decode prog_14_method_11_code 22 = .ok (.ireturn, 1) := by decide +kernel
theorem dModel_wrong_0 : decode prog_14_method_12_code 0 = .ok (.aload_n 0, 1) := by decide +kernel
theorem dModel_wrong_1 : decode prog_14_method_12_code 1 = .ok (.aload_n 0, 1) := by decide +kernel
theorem dModel_wrong_2 : decode prog_14_method_12_code 2 = .ok (.getfield 98, 3) := by decide +kernel
theorem dModel_wrong_5 : decode prog_14_method_12_code 5 = .ok (.iconst 1, 1) := by decide +kernel
theorem dModel_wrong_6 : decode prog_14_method_12_code 6 = .ok (.if_icmp .ne 7, 3) := by decide +kernel
theorem dModel_wrong_9 : decode prog_14_method_12_code 9 = .ok (.iconst 1, 1) := by decide +kernel
theorem dModel_wrong_10 : decode prog_14_method_12_code 10 = .ok (.goto 4, 3) := by decide +kernel
theorem dModel_wrong_13 : decode prog_14_method_12_code 13 = .ok (.iconst 2, 1) := by decide +kernel
theorem dModel_wrong_14 : decode prog_14_method_12_code 14 = .ok (.aload_n 0, 1) := by decide +kernel
theorem dModel_wrong_15 : decode prog_14_method_12_code 15 = .ok (.getfield 95, 3) := by decide +kernel
theorem dModel_wrong_18 : decode prog_14_method_12_code 18 = .ok (.invokevirtual 122, 3) := by decide +kernel
theorem dModel_wrong_21 : decode prog_14_method_12_code 21 = .ok (.return_, 1) := by decide +kernel
theorem dModel_must_0 : decode prog_14_method_13_code 0 = .ok (.aload_n 0, 1) := by decide +kernel
theorem dModel_must_1 : decode prog_14_method_13_code 1 = .ok (.invokevirtual 126, 3) := by decide +kernel
theorem dModel_must_4 : decode prog_14_method_13_code 4 = .ok (.ifCond .ne 4, 3) := by decide +kernel
theorem dModel_must_7 : decode prog_14_method_13_code 7 = .ok (.return_, 1) := by decide +kernel
theorem dModel_must_8 : decode prog_14_method_13_code 8 = .ok (.iload_n 1, 1) := by decide +kernel
theorem dModel_must_9 : decode prog_14_method_13_code 9 = .ok (.ifCond .eq 10, 3) := by decide +kernel
theorem dModel_must_12 : decode prog_14_method_13_code 12 = .ok (.aload_n 0, 1) := by decide +kernel
theorem dModel_must_13 : decode prog_14_method_13_code 13 = .ok (.invokevirtual 130, 3) := by decide +kernel
theorem dModel_must_16 : decode prog_14_method_13_code 16 = .ok (.goto 7, 3) := by decide +kernel
theorem dModel_must_19 : decode prog_14_method_13_code 19 = .ok (.aload_n 0, 1) := by decide +kernel
theorem dModel_must_20 : decode prog_14_method_13_code 20 = .ok (.invokevirtual 134, 3) := by decide +kernel
theorem dModel_must_23 : decode prog_14_method_13_code 23 = .ok (.return_, 1) := by decide +kernel
theorem dModel_numeral_0 : decode prog_14_method_14_code 0 = .ok (.aload_n 0, 1) := by decide +kernel
theorem dModel_numeral_1 : decode prog_14_method_14_code 1 = .ok (.invokevirtual 126, 3) := by decide +kernel
theorem dModel_numeral_4 : decode prog_14_method_14_code 4 = .ok (.ifCond .ne 5, 3) := by decide +kernel
theorem dModel_numeral_7 : decode prog_14_method_14_code 7 = .ok (.iload_n 1, 1) := by decide +kernel
theorem dModel_numeral_8 : decode prog_14_method_14_code 8 = .ok (.ireturn, 1) := by decide +kernel
theorem dModel_numeral_9 : decode prog_14_method_14_code 9 = .ok (.aload_n 0, 1) := by decide +kernel
theorem dModel_numeral_10 : decode prog_14_method_14_code 10 = .ok (.getfield 98, 3) := by decide +kernel
theorem dModel_numeral_13 : decode prog_14_method_14_code 13 = .ok (.iconst 4, 1) := by decide +kernel
theorem dModel_numeral_14 : decode prog_14_method_14_code 14 = .ok (.if_icmp .eq 7, 3) := by decide +kernel
theorem dModel_numeral_17 : decode prog_14_method_14_code 17 = .ok (.aload_n 0, 1) := by decide +kernel
theorem dModel_numeral_18 : decode prog_14_method_14_code 18 = .ok (.invokevirtual 134, 3) := by decide +kernel
theorem dModel_numeral_21 : decode prog_14_method_14_code 21 = .ok (.aload_n 0, 1) := by decide +kernel
theorem dModel_numeral_22 : decode prog_14_method_14_code 22 = .ok (.invokevirtual 126, 3) := by decide +kernel
theorem dModel_numeral_25 : decode prog_14_method_14_code 25 = .ok (.ifCond .eq 28, 3) := by decide +kernel
theorem dModel_numeral_28 : decode prog_14_method_14_code 28 = .ok (.aload_n 0, 1) := by decide +kernel
theorem dModel_numeral_29 : decode prog_14_method_14_code 29 = .ok (.getfield 108, 3) := by decide +kernel
theorem dModel_numeral_32 : decode prog_14_method_14_code 32 = .ok (.iload_n 1, 1) := by decide +kernel
theorem dModel_numeral_33 : decode prog_14_method_14_code 33 = .ok (.if_icmp .lt 11, 3) := by decide +kernel
theorem dModel_numeral_36 : decode prog_14_method_14_code 36 = .ok (.aload_n 0, 1) := by decide +kernel
theorem dModel_numeral_37 : decode prog_14_method_14_code 37 = .ok (.getfield 108, 3) := by decide +kernel
theorem dModel_numeral_40 : decode prog_14_method_14_code 40 = .ok (.iload_n 2, 1) := by decide +kernel
theorem dModel_numeral_41 : decode prog_14_method_14_code 41 = .ok (.if_icmp .le 12, 3) := by decide +kernel
theorem dModel_numeral_44 : decode prog_14_method_14_code 44 = .ok (.aload_n 0, 1) := by decide +kernel
theorem dModel_numeral_45 : decode prog_14_method_14_code 45 = .ok (.iconst 4, 1) := by decide +kernel
theorem dModel_numeral_46 : decode prog_14_method_14_code 46 = .ok (.aload_n 0, 1) := by decide +kernel
theorem dModel_numeral_47 : decode prog_14_method_14_code 47 = .ok (.getfield 95, 3) := by decide +kernel
theorem dModel_numeral_50 : decode prog_14_method_14_code 50 = .ok (.invokevirtual 122, 3) := by decide +kernel
theorem dModel_numeral_53 : decode prog_14_method_14_code 53 = .ok (.aload_n 0, 1) := by decide +kernel
theorem dModel_numeral_54 : decode prog_14_method_14_code 54 = .ok (.getfield 108, 3) := by decide +kernel
theorem dModel_numeral_57 : decode prog_14_method_14_code 57 = .ok (.istore_n 3, 1) := by decide +kernel
theorem dModel_numeral_58 : decode prog_14_method_14_code 58 = .ok (.aload_n 0, 1) := by decide +kernel
theorem dModel_numeral_59 : decode prog_14_method_14_code 59 = .ok (.invokevirtual 126, 3) := by decide +kernel
theorem dModel_numeral_62 : decode prog_14_method_14_code 62 = .ok (.ifCond .eq 7, 3) := by decide +kernel
theorem dModel_numeral_65 : decode prog_14_method_14_code 65 = .ok (.aload_n 0, 1) := by decide +kernel
theorem dModel_numeral_66 : decode prog_14_method_14_code 66 = .ok (.invokevirtual 130, 3) := by decide +kernel
theorem dModel_numeral_69 : decode prog_14_method_14_code 69 = .ok (.aload_n 0, 1) := by decide +kernel
theorem dModel_numeral_70 : decode prog_14_method_14_code 70 = .ok (.invokevirtual 126, 3) := by decide +kernel
theorem dModel_numeral_73 : decode prog_14_method_14_code 73 = .ok (.ifCond .eq 7, 3) := by decide +kernel
theorem dModel_numeral_76 : decode prog_14_method_14_code 76 = .ok (.iload_n 3, 1) := by decide +kernel
theorem dModel_numeral_77 : decode prog_14_method_14_code 77 = .ok (.goto 4, 3) := by decide +kernel
theorem dModel_numeral_80 : decode prog_14_method_14_code 80 = .ok (.iload_n 1, 1) := by decide +kernel
theorem dModel_numeral_81 : decode prog_14_method_14_code 81 = .ok (.ireturn, 1) := by decide +kernel
theorem dModel_takeTape_0 : decode prog_14_method_15_code 0 = .ok (.aload_n 0, 1) := by decide +kernel
theorem dModel_takeTape_1 : decode prog_14_method_15_code 1 = .ok (.iload_n 1, 1) := by decide +kernel
theorem dModel_takeTape_2 : decode prog_14_method_15_code 2 = .ok (.putfield 101, 3) := by decide +kernel
theorem dModel_takeTape_5 : decode prog_14_method_15_code 5 = .ok (.aload_n 0, 1) := by decide +kernel
theorem dModel_takeTape_6 : decode prog_14_method_15_code 6 = .ok (.iconst 0, 1) := by decide +kernel
theorem dModel_takeTape_7 : decode prog_14_method_15_code 7 = .ok (.putfield 11, 3) := by decide +kernel
theorem dModel_takeTape_10 : decode prog_14_method_15_code 10 = .ok (.aload_n 0, 1) := by decide +kernel
theorem dModel_takeTape_11 : decode prog_14_method_15_code 11 = .ok (.iconst (-1), 1) := by decide +kernel
theorem dModel_takeTape_12 : decode prog_14_method_15_code 12 = .ok (.putfield 14, 3) := by decide +kernel
theorem dModel_takeTape_15 : decode prog_14_method_15_code 15 = .ok (.aload_n 0, 1) := by decide +kernel
theorem dModel_takeTape_16 : decode prog_14_method_15_code 16 = .ok (.aload_n 0, 1) := by decide +kernel
theorem dModel_takeTape_17 : decode prog_14_method_15_code 17 = .ok (.getfield 137, 3) := by decide +kernel
theorem dModel_takeTape_20 : decode prog_14_method_15_code 20 = .ok (.putfield 1, 3) := by decide +kernel
theorem dModel_takeTape_23 : decode prog_14_method_15_code 23 = .ok (.iconst 0, 1) := by decide +kernel
theorem dModel_takeTape_24 : decode prog_14_method_15_code 24 = .ok (.istore_n 2, 1) := by decide +kernel
theorem dModel_takeTape_25 : decode prog_14_method_15_code 25 = .ok (.iload_n 2, 1) := by decide +kernel
theorem dModel_takeTape_26 : decode prog_14_method_15_code 26 = .ok (.aload_n 0, 1) := by decide +kernel
theorem dModel_takeTape_27 : decode prog_14_method_15_code 27 = .ok (.getfield 1, 3) := by decide +kernel
theorem dModel_takeTape_30 : decode prog_14_method_15_code 30 = .ok (.if_icmp .ge 21, 3) := by decide +kernel
theorem dModel_takeTape_33 : decode prog_14_method_15_code 33 = .ok (.aload_n 0, 1) := by decide +kernel
theorem dModel_takeTape_34 : decode prog_14_method_15_code 34 = .ok (.getfield 7, 3) := by decide +kernel
theorem dModel_takeTape_37 : decode prog_14_method_15_code 37 = .ok (.iload_n 2, 1) := by decide +kernel
theorem dModel_takeTape_38 : decode prog_14_method_15_code 38 = .ok (.aload_n 0, 1) := by decide +kernel
theorem dModel_takeTape_39 : decode prog_14_method_15_code 39 = .ok (.getfield 140, 3) := by decide +kernel
theorem dModel_takeTape_42 : decode prog_14_method_15_code 42 = .ok (.iload_n 2, 1) := by decide +kernel
theorem dModel_takeTape_43 : decode prog_14_method_15_code 43 = .ok (.baload, 1) := by decide +kernel
theorem dModel_takeTape_44 : decode prog_14_method_15_code 44 = .ok (.bastore, 1) := by decide +kernel
theorem dModel_takeTape_45 : decode prog_14_method_15_code 45 = .ok (.iinc 2 1, 3) := by decide +kernel
theorem dModel_takeTape_48 : decode prog_14_method_15_code 48 = .ok (.goto (-23), 3) := by decide +kernel
theorem dModel_takeTape_51 : decode prog_14_method_15_code 51 = .ok (.aload_n 0, 1) := by decide +kernel
theorem dModel_takeTape_52 : decode prog_14_method_15_code 52 = .ok (.iconst 0, 1) := by decide +kernel
theorem dModel_takeTape_53 : decode prog_14_method_15_code 53 = .ok (.putfield 137, 3) := by decide +kernel
theorem dModel_takeTape_56 : decode prog_14_method_15_code 56 = .ok (.aload_n 0, 1) := by decide +kernel
theorem dModel_takeTape_57 : decode prog_14_method_15_code 57 = .ok (.iconst 0, 1) := by decide +kernel
theorem dModel_takeTape_58 : decode prog_14_method_15_code 58 = .ok (.putfield 92, 3) := by decide +kernel
theorem dModel_takeTape_61 : decode prog_14_method_15_code 61 = .ok (.return_, 1) := by decide +kernel
theorem dModel_land_0 : decode prog_14_method_16_code 0 = .ok (.aload_n 0, 1) := by decide +kernel
theorem dModel_land_1 : decode prog_14_method_16_code 1 = .ok (.iconst 0, 1) := by decide +kernel
theorem dModel_land_2 : decode prog_14_method_16_code 2 = .ok (.invokevirtual 143, 3) := by decide +kernel
theorem dModel_land_5 : decode prog_14_method_16_code 5 = .ok (.aload_n 0, 1) := by decide +kernel
theorem dModel_land_6 : decode prog_14_method_16_code 6 = .ok (.iconst 1, 1) := by decide +kernel
theorem dModel_land_7 : decode prog_14_method_16_code 7 = .ok (.aload_n 0, 1) := by decide +kernel
theorem dModel_land_8 : decode prog_14_method_16_code 8 = .ok (.getfield 147, 3) := by decide +kernel
theorem dModel_land_11 : decode prog_14_method_16_code 11 = .ok (.isub, 1) := by decide +kernel
theorem dModel_land_12 : decode prog_14_method_16_code 12 = .ok (.putfield 150, 3) := by decide +kernel
theorem dModel_land_15 : decode prog_14_method_16_code 15 = .ok (.aload_n 0, 1) := by decide +kernel
theorem dModel_land_16 : decode prog_14_method_16_code 16 = .ok (.getfield 153, 3) := by decide +kernel
theorem dModel_land_19 : decode prog_14_method_16_code 19 = .ok (.aload_n 0, 1) := by decide +kernel
theorem dModel_land_20 : decode prog_14_method_16_code 20 = .ok (.getfield 150, 3) := by decide +kernel
theorem dModel_land_23 : decode prog_14_method_16_code 23 = .ok (.iconst 0, 1) := by decide +kernel
theorem dModel_land_24 : decode prog_14_method_16_code 24 = .ok (.iastore, 1) := by decide +kernel
theorem dModel_land_25 : decode prog_14_method_16_code 25 = .ok (.aload_n 0, 1) := by decide +kernel
theorem dModel_land_26 : decode prog_14_method_16_code 26 = .ok (.getfield 157, 3) := by decide +kernel
theorem dModel_land_29 : decode prog_14_method_16_code 29 = .ok (.aload_n 0, 1) := by decide +kernel
theorem dModel_land_30 : decode prog_14_method_16_code 30 = .ok (.getfield 150, 3) := by decide +kernel
theorem dModel_land_33 : decode prog_14_method_16_code 33 = .ok (.iconst 0, 1) := by decide +kernel
theorem dModel_land_34 : decode prog_14_method_16_code 34 = .ok (.iastore, 1) := by decide +kernel
theorem dModel_land_35 : decode prog_14_method_16_code 35 = .ok (.aload_n 0, 1) := by decide +kernel
theorem dModel_land_36 : decode prog_14_method_16_code 36 = .ok (.getfield 160, 3) := by decide +kernel
theorem dModel_land_39 : decode prog_14_method_16_code 39 = .ok (.aload_n 0, 1) := by decide +kernel
theorem dModel_land_40 : decode prog_14_method_16_code 40 = .ok (.getfield 150, 3) := by decide +kernel
theorem dModel_land_43 : decode prog_14_method_16_code 43 = .ok (.iconst 0, 1) := by decide +kernel
theorem dModel_land_44 : decode prog_14_method_16_code 44 = .ok (.iastore, 1) := by decide +kernel
theorem dModel_land_45 : decode prog_14_method_16_code 45 = .ok (.aload_n 0, 1) := by decide +kernel
theorem dModel_land_46 : decode prog_14_method_16_code 46 = .ok (.getfield 163, 3) := by decide +kernel
theorem dModel_land_49 : decode prog_14_method_16_code 49 = .ok (.aload_n 0, 1) := by decide +kernel
theorem dModel_land_50 : decode prog_14_method_16_code 50 = .ok (.getfield 150, 3) := by decide +kernel
theorem dModel_land_53 : decode prog_14_method_16_code 53 = .ok (.iconst 0, 1) := by decide +kernel
theorem dModel_land_54 : decode prog_14_method_16_code 54 = .ok (.iastore, 1) := by decide +kernel
theorem dModel_land_55 : decode prog_14_method_16_code 55 = .ok (.aload_n 0, 1) := by decide +kernel
theorem dModel_land_56 : decode prog_14_method_16_code 56 = .ok (.invokevirtual 130, 3) := by decide +kernel
theorem dModel_land_59 : decode prog_14_method_16_code 59 = .ok (.aload_n 0, 1) := by decide +kernel
theorem dModel_land_60 : decode prog_14_method_16_code 60 = .ok (.invokevirtual 126, 3) := by decide +kernel
theorem dModel_land_63 : decode prog_14_method_16_code 63 = .ok (.ifCond .eq 17, 3) := by decide +kernel
theorem dModel_land_66 : decode prog_14_method_16_code 66 = .ok (.aload_n 0, 1) := by decide +kernel
theorem dModel_land_67 : decode prog_14_method_16_code 67 = .ok (.getfield 98, 3) := by decide +kernel
theorem dModel_land_70 : decode prog_14_method_16_code 70 = .ok (.ifCond .eq 10, 3) := by decide +kernel
theorem dModel_land_73 : decode prog_14_method_16_code 73 = .ok (.aload_n 0, 1) := by decide +kernel
theorem dModel_land_74 : decode prog_14_method_16_code 74 = .ok (.invokevirtual 166, 3) := by decide +kernel
theorem dModel_land_77 : decode prog_14_method_16_code 77 = .ok (.goto (-18), 3) := by decide +kernel
theorem dModel_land_80 : decode prog_14_method_16_code 80 = .ok (.aload_n 0, 1) := by decide +kernel
theorem dModel_land_81 : decode prog_14_method_16_code 81 = .ok (.invokevirtual 126, 3) := by decide +kernel
theorem dModel_land_84 : decode prog_14_method_16_code 84 = .ok (.ifCond .ne 5, 3) := by decide +kernel
theorem dModel_land_87 : decode prog_14_method_16_code 87 = .ok (.iconst (-1), 1) := by decide +kernel
theorem dModel_land_88 : decode prog_14_method_16_code 88 = .ok (.ireturn, 1) := by decide +kernel
theorem dModel_land_89 : decode prog_14_method_16_code 89 = .ok (.aload_n 0, 1) := by decide +kernel
theorem dModel_land_90 : decode prog_14_method_16_code 90 = .ok (.aload_n 0, 1) := by decide +kernel
theorem dModel_land_91 : decode prog_14_method_16_code 91 = .ok (.getfield 150, 3) := by decide +kernel
theorem dModel_land_94 : decode prog_14_method_16_code 94 = .ok (.putfield 147, 3) := by decide +kernel
theorem dModel_land_97 : decode prog_14_method_16_code 97 = .ok (.aload_n 0, 1) := by decide +kernel
theorem dModel_land_98 : decode prog_14_method_16_code 98 = .ok (.iconst 0, 1) := by decide +kernel
theorem dModel_land_99 : decode prog_14_method_16_code 99 = .ok (.putfield 169, 3) := by decide +kernel
theorem dModel_land_102 : decode prog_14_method_16_code 102 = .ok (.aload_n 0, 1) := by decide +kernel
theorem dModel_land_103 : decode prog_14_method_16_code 103 = .ok (.iconst 0, 1) := by decide +kernel
theorem dModel_land_104 : decode prog_14_method_16_code 104 = .ok (.putfield 172, 3) := by decide +kernel
theorem dModel_land_107 : decode prog_14_method_16_code 107 = .ok (.aload_n 0, 1) := by decide +kernel
theorem dModel_land_108 : decode prog_14_method_16_code 108 = .ok (.invokevirtual 175, 3) := by decide +kernel
theorem dModel_land_111 : decode prog_14_method_16_code 111 = .ok (.aload_n 0, 1) := by decide +kernel
theorem dModel_land_112 : decode prog_14_method_16_code 112 = .ok (.getfield 153, 3) := by decide +kernel
theorem dModel_land_115 : decode prog_14_method_16_code 115 = .ok (.aload_n 0, 1) := by decide +kernel
theorem dModel_land_116 : decode prog_14_method_16_code 116 = .ok (.getfield 147, 3) := by decide +kernel
theorem dModel_land_119 : decode prog_14_method_16_code 119 = .ok (.iaload, 1) := by decide +kernel
theorem dModel_land_120 : decode prog_14_method_16_code 120 = .ok (.aload_n 0, 1) := by decide +kernel
theorem dModel_land_121 : decode prog_14_method_16_code 121 = .ok (.getfield 157, 3) := by decide +kernel
theorem dModel_land_124 : decode prog_14_method_16_code 124 = .ok (.aload_n 0, 1) := by decide +kernel
theorem dModel_land_125 : decode prog_14_method_16_code 125 = .ok (.getfield 147, 3) := by decide +kernel
theorem dModel_land_128 : decode prog_14_method_16_code 128 = .ok (.iaload, 1) := by decide +kernel
theorem dModel_land_129 : decode prog_14_method_16_code 129 = .ok (.iadd, 1) := by decide +kernel
theorem dModel_land_130 : decode prog_14_method_16_code 130 = .ok (.aload_n 0, 1) := by decide +kernel
theorem dModel_land_131 : decode prog_14_method_16_code 131 = .ok (.getfield 160, 3) := by decide +kernel
theorem dModel_land_134 : decode prog_14_method_16_code 134 = .ok (.aload_n 0, 1) := by decide +kernel
theorem dModel_land_135 : decode prog_14_method_16_code 135 = .ok (.getfield 147, 3) := by decide +kernel
theorem dModel_land_138 : decode prog_14_method_16_code 138 = .ok (.iaload, 1) := by decide +kernel
theorem dModel_land_139 : decode prog_14_method_16_code 139 = .ok (.iadd, 1) := by decide +kernel
theorem dModel_land_140 : decode prog_14_method_16_code 140 = .ok (.aload_n 0, 1) := by decide +kernel
theorem dModel_land_141 : decode prog_14_method_16_code 141 = .ok (.getfield 163, 3) := by decide +kernel
theorem dModel_land_144 : decode prog_14_method_16_code 144 = .ok (.aload_n 0, 1) := by decide +kernel
theorem dModel_land_145 : decode prog_14_method_16_code 145 = .ok (.getfield 147, 3) := by decide +kernel
theorem dModel_land_148 : decode prog_14_method_16_code 148 = .ok (.iaload, 1) := by decide +kernel
theorem dModel_land_149 : decode prog_14_method_16_code 149 = .ok (.iadd, 1) := by decide +kernel
theorem dModel_land_150 : decode prog_14_method_16_code 150 = .ok (.ireturn, 1) := by decide +kernel
theorem dModel_readLine_0 : decode prog_14_method_17_code 0 = .ok (.aload_n 0, 1) := by decide +kernel
theorem dModel_readLine_1 : decode prog_14_method_17_code 1 = .ok (.ldc2_w 17, 3) := by decide +kernel
theorem dModel_readLine_4 : decode prog_14_method_17_code 4 = .ok (.invokevirtual 178, 3) := by decide +kernel
theorem dModel_readLine_7 : decode prog_14_method_17_code 7 = .ok (.istore_n 1, 1) := by decide +kernel
theorem dModel_readLine_8 : decode prog_14_method_17_code 8 = .ok (.aload_n 0, 1) := by decide +kernel
theorem dModel_readLine_9 : decode prog_14_method_17_code 9 = .ok (.ldc2_w 19, 3) := by decide +kernel
theorem dModel_readLine_12 : decode prog_14_method_17_code 12 = .ok (.invokevirtual 178, 3) := by decide +kernel
theorem dModel_readLine_15 : decode prog_14_method_17_code 15 = .ok (.istore_n 2, 1) := by decide +kernel
theorem dModel_readLine_16 : decode prog_14_method_17_code 16 = .ok (.aload_n 0, 1) := by decide +kernel
theorem dModel_readLine_17 : decode prog_14_method_17_code 17 = .ok (.ldc2_w 27, 3) := by decide +kernel
theorem dModel_readLine_20 : decode prog_14_method_17_code 20 = .ok (.invokevirtual 178, 3) := by decide +kernel
theorem dModel_readLine_23 : decode prog_14_method_17_code 23 = .ok (.istore_n 3, 1) := by decide +kernel
theorem dModel_readLine_24 : decode prog_14_method_17_code 24 = .ok (.iload_n 1, 1) := by decide +kernel
theorem dModel_readLine_25 : decode prog_14_method_17_code 25 = .ok (.ifCond .eq 25, 3) := by decide +kernel
theorem dModel_readLine_28 : decode prog_14_method_17_code 28 = .ok (.aload_n 0, 1) := by decide +kernel
theorem dModel_readLine_29 : decode prog_14_method_17_code 29 = .ok (.getfield 153, 3) := by decide +kernel
theorem dModel_readLine_32 : decode prog_14_method_17_code 32 = .ok (.aload_n 0, 1) := by decide +kernel
theorem dModel_readLine_33 : decode prog_14_method_17_code 33 = .ok (.getfield 150, 3) := by decide +kernel
theorem dModel_readLine_36 : decode prog_14_method_17_code 36 = .ok (.iaload, 1) := by decide +kernel
theorem dModel_readLine_37 : decode prog_14_method_17_code 37 = .ok (.bipush 24, 2) := by decide +kernel
theorem dModel_readLine_39 : decode prog_14_method_17_code 39 = .ok (.if_icmp .ne 7, 3) := by decide +kernel
theorem dModel_readLine_42 : decode prog_14_method_17_code 42 = .ok (.iconst 1, 1) := by decide +kernel
theorem dModel_readLine_43 : decode prog_14_method_17_code 43 = .ok (.goto 85, 3) := by decide +kernel
theorem dModel_readLine_46 : decode prog_14_method_17_code 46 = .ok (.iconst 0, 1) := by decide +kernel
theorem dModel_readLine_47 : decode prog_14_method_17_code 47 = .ok (.goto 81, 3) := by decide +kernel
theorem dModel_readLine_50 : decode prog_14_method_17_code 50 = .ok (.iload_n 2, 1) := by decide +kernel
theorem dModel_readLine_51 : decode prog_14_method_17_code 51 = .ok (.ifCond .eq 24, 3) := by decide +kernel
theorem dModel_readLine_54 : decode prog_14_method_17_code 54 = .ok (.aload_n 0, 1) := by decide +kernel
theorem dModel_readLine_55 : decode prog_14_method_17_code 55 = .ok (.getfield 157, 3) := by decide +kernel
theorem dModel_readLine_58 : decode prog_14_method_17_code 58 = .ok (.aload_n 0, 1) := by decide +kernel
theorem dModel_readLine_59 : decode prog_14_method_17_code 59 = .ok (.getfield 150, 3) := by decide +kernel
theorem dModel_readLine_62 : decode prog_14_method_17_code 62 = .ok (.iaload, 1) := by decide +kernel
theorem dModel_readLine_63 : decode prog_14_method_17_code 63 = .ok (.iconst 3, 1) := by decide +kernel
theorem dModel_readLine_64 : decode prog_14_method_17_code 64 = .ok (.if_icmp .ne 7, 3) := by decide +kernel
theorem dModel_readLine_67 : decode prog_14_method_17_code 67 = .ok (.iconst 1, 1) := by decide +kernel
theorem dModel_readLine_68 : decode prog_14_method_17_code 68 = .ok (.goto 60, 3) := by decide +kernel
theorem dModel_readLine_71 : decode prog_14_method_17_code 71 = .ok (.iconst 0, 1) := by decide +kernel
theorem dModel_readLine_72 : decode prog_14_method_17_code 72 = .ok (.goto 56, 3) := by decide +kernel
theorem dModel_readLine_75 : decode prog_14_method_17_code 75 = .ok (.iload_n 3, 1) := by decide +kernel
theorem dModel_readLine_76 : decode prog_14_method_17_code 76 = .ok (.ifCond .eq 24, 3) := by decide +kernel
theorem dModel_readLine_79 : decode prog_14_method_17_code 79 = .ok (.aload_n 0, 1) := by decide +kernel
theorem dModel_readLine_80 : decode prog_14_method_17_code 80 = .ok (.getfield 160, 3) := by decide +kernel
theorem dModel_readLine_83 : decode prog_14_method_17_code 83 = .ok (.aload_n 0, 1) := by decide +kernel
theorem dModel_readLine_84 : decode prog_14_method_17_code 84 = .ok (.getfield 150, 3) := by decide +kernel
theorem dModel_readLine_87 : decode prog_14_method_17_code 87 = .ok (.iaload, 1) := by decide +kernel
theorem dModel_readLine_88 : decode prog_14_method_17_code 88 = .ok (.iconst 3, 1) := by decide +kernel
theorem dModel_readLine_89 : decode prog_14_method_17_code 89 = .ok (.if_icmp .ne 7, 3) := by decide +kernel
theorem dModel_readLine_92 : decode prog_14_method_17_code 92 = .ok (.iconst 1, 1) := by decide +kernel
theorem dModel_readLine_93 : decode prog_14_method_17_code 93 = .ok (.goto 35, 3) := by decide +kernel
theorem dModel_readLine_96 : decode prog_14_method_17_code 96 = .ok (.iconst 0, 1) := by decide +kernel
theorem dModel_readLine_97 : decode prog_14_method_17_code 97 = .ok (.goto 31, 3) := by decide +kernel
theorem dModel_readLine_100 : decode prog_14_method_17_code 100 = .ok (.aload_n 0, 1) := by decide +kernel
theorem dModel_readLine_101 : decode prog_14_method_17_code 101 = .ok (.ldc2_w 33, 3) := by decide +kernel
theorem dModel_readLine_104 : decode prog_14_method_17_code 104 = .ok (.invokevirtual 178, 3) := by decide +kernel
theorem dModel_readLine_107 : decode prog_14_method_17_code 107 = .ok (.ifCond .eq 16, 3) := by decide +kernel
theorem dModel_readLine_110 : decode prog_14_method_17_code 110 = .ok (.aload_n 0, 1) := by decide +kernel
theorem dModel_readLine_111 : decode prog_14_method_17_code 111 = .ok (.getfield 163, 3) := by decide +kernel
theorem dModel_readLine_114 : decode prog_14_method_17_code 114 = .ok (.aload_n 0, 1) := by decide +kernel
theorem dModel_readLine_115 : decode prog_14_method_17_code 115 = .ok (.getfield 150, 3) := by decide +kernel
theorem dModel_readLine_118 : decode prog_14_method_17_code 118 = .ok (.iaload, 1) := by decide +kernel
theorem dModel_readLine_119 : decode prog_14_method_17_code 119 = .ok (.iconst 5, 1) := by decide +kernel
theorem dModel_readLine_120 : decode prog_14_method_17_code 120 = .ok (.if_icmp .ne 7, 3) := by decide +kernel
theorem dModel_readLine_123 : decode prog_14_method_17_code 123 = .ok (.iconst 1, 1) := by decide +kernel
theorem dModel_readLine_124 : decode prog_14_method_17_code 124 = .ok (.goto 4, 3) := by decide +kernel
theorem dModel_readLine_127 : decode prog_14_method_17_code 127 = .ok (.iconst 0, 1) := by decide +kernel
theorem dModel_readLine_128 : decode prog_14_method_17_code 128 = .ok (.istore 4, 2) := by decide +kernel
theorem dModel_readLine_130 : decode prog_14_method_17_code 130 = .ok (.iload 4, 2) := by decide +kernel
theorem dModel_readLine_132 : decode prog_14_method_17_code 132 = .ok (.ifCond .eq 7, 3) := by decide +kernel
theorem dModel_readLine_135 : decode prog_14_method_17_code 135 = .ok (.aload_n 0, 1) := by decide +kernel
theorem dModel_readLine_136 : decode prog_14_method_17_code 136 = .ok (.invokevirtual 134, 3) := by decide +kernel
theorem dModel_readLine_139 : decode prog_14_method_17_code 139 = .ok (.aload_n 0, 1) := by decide +kernel
theorem dModel_readLine_140 : decode prog_14_method_17_code 140 = .ok (.invokevirtual 126, 3) := by decide +kernel
theorem dModel_readLine_143 : decode prog_14_method_17_code 143 = .ok (.ifCond .ne 4, 3) := by decide +kernel
theorem dModel_readLine_146 : decode prog_14_method_17_code 146 = .ok (.return_, 1) := by decide +kernel
theorem dModel_readLine_147 : decode prog_14_method_17_code 147 = .ok (.aload_n 0, 1) := by decide +kernel
theorem dModel_readLine_148 : decode prog_14_method_17_code 148 = .ok (.invokevirtual 130, 3) := by decide +kernel
theorem dModel_readLine_151 : decode prog_14_method_17_code 151 = .ok (.iload_n 1, 1) := by decide +kernel
theorem dModel_readLine_152 : decode prog_14_method_17_code 152 = .ok (.ifCond .eq 10, 3) := by decide +kernel
theorem dModel_readLine_155 : decode prog_14_method_17_code 155 = .ok (.aload_n 0, 1) := by decide +kernel
theorem dModel_readLine_156 : decode prog_14_method_17_code 156 = .ok (.invokevirtual 181, 3) := by decide +kernel
theorem dModel_readLine_159 : decode prog_14_method_17_code 159 = .ok (.goto 29, 3) := by decide +kernel
theorem dModel_readLine_162 : decode prog_14_method_17_code 162 = .ok (.iload_n 2, 1) := by decide +kernel
theorem dModel_readLine_163 : decode prog_14_method_17_code 163 = .ok (.ifCond .eq 10, 3) := by decide +kernel
theorem dModel_readLine_166 : decode prog_14_method_17_code 166 = .ok (.aload_n 0, 1) := by decide +kernel
theorem dModel_readLine_167 : decode prog_14_method_17_code 167 = .ok (.invokevirtual 184, 3) := by decide +kernel
theorem dModel_readLine_170 : decode prog_14_method_17_code 170 = .ok (.goto 18, 3) := by decide +kernel
theorem dModel_readLine_173 : decode prog_14_method_17_code 173 = .ok (.iload_n 3, 1) := by decide +kernel
theorem dModel_readLine_174 : decode prog_14_method_17_code 174 = .ok (.ifCond .eq 10, 3) := by decide +kernel
theorem dModel_readLine_177 : decode prog_14_method_17_code 177 = .ok (.aload_n 0, 1) := by decide +kernel
theorem dModel_readLine_178 : decode prog_14_method_17_code 178 = .ok (.invokevirtual 187, 3) := by decide +kernel
theorem dModel_readLine_181 : decode prog_14_method_17_code 181 = .ok (.goto 7, 3) := by decide +kernel
theorem dModel_readLine_184 : decode prog_14_method_17_code 184 = .ok (.aload_n 0, 1) := by decide +kernel
theorem dModel_readLine_185 : decode prog_14_method_17_code 185 = .ok (.invokevirtual 190, 3) := by decide +kernel
theorem dModel_readLine_188 : decode prog_14_method_17_code 188 = .ok (.aload_n 0, 1) := by decide +kernel
theorem dModel_readLine_189 : decode prog_14_method_17_code 189 = .ok (.aload_n 0, 1) := by decide +kernel
theorem dModel_readLine_190 : decode prog_14_method_17_code 190 = .ok (.bipush 59, 2) := by decide +kernel
theorem dModel_readLine_192 : decode prog_14_method_17_code 192 = .ok (.invokevirtual 193, 3) := by decide +kernel
theorem dModel_readLine_195 : decode prog_14_method_17_code 195 = .ok (.invokevirtual 196, 3) := by decide +kernel
theorem dModel_readLine_198 : decode prog_14_method_17_code 198 = .ok (.return_, 1) := by decide +kernel
theorem dModel_point_0 : decode prog_14_method_18_code 0 = .ok (.aload_n 0, 1) := by decide +kernel
theorem dModel_point_1 : decode prog_14_method_18_code 1 = .ok (.getfield 108, 3) := by decide +kernel
theorem dModel_point_4 : decode prog_14_method_18_code 4 = .ok (.istore_n 1, 1) := by decide +kernel
theorem dModel_point_5 : decode prog_14_method_18_code 5 = .ok (.aload_n 0, 1) := by decide +kernel
theorem dModel_point_6 : decode prog_14_method_18_code 6 = .ok (.aload_n 0, 1) := by decide +kernel
theorem dModel_point_7 : decode prog_14_method_18_code 7 = .ok (.getfield 98, 3) := by decide +kernel
theorem dModel_point_10 : decode prog_14_method_18_code 10 = .ok (.iconst 5, 1) := by decide +kernel
theorem dModel_point_11 : decode prog_14_method_18_code 11 = .ok (.if_icmp .ne 7, 3) := by decide +kernel
theorem dModel_point_14 : decode prog_14_method_18_code 14 = .ok (.iconst 1, 1) := by decide +kernel
theorem dModel_point_15 : decode prog_14_method_18_code 15 = .ok (.goto 4, 3) := by decide +kernel
theorem dModel_point_18 : decode prog_14_method_18_code 18 = .ok (.iconst 0, 1) := by decide +kernel
theorem dModel_point_19 : decode prog_14_method_18_code 19 = .ok (.invokevirtual 196, 3) := by decide +kernel
theorem dModel_point_22 : decode prog_14_method_18_code 22 = .ok (.aload_n 0, 1) := by decide +kernel
theorem dModel_point_23 : decode prog_14_method_18_code 23 = .ok (.invokevirtual 126, 3) := by decide +kernel
theorem dModel_point_26 : decode prog_14_method_18_code 26 = .ok (.ifCond .eq 7, 3) := by decide +kernel
theorem dModel_point_29 : decode prog_14_method_18_code 29 = .ok (.iload_n 1, 1) := by decide +kernel
theorem dModel_point_30 : decode prog_14_method_18_code 30 = .ok (.goto 4, 3) := by decide +kernel
theorem dModel_point_33 : decode prog_14_method_18_code 33 = .ok (.iconst 0, 1) := by decide +kernel
theorem dModel_point_34 : decode prog_14_method_18_code 34 = .ok (.ireturn, 1) := by decide +kernel
theorem dModel_readRoad_0 : decode prog_14_method_19_code 0 = .ok (.bipush 24, 2) := by decide +kernel
theorem dModel_readRoad_2 : decode prog_14_method_19_code 2 = .ok (.aload_n 0, 1) := by decide +kernel
theorem dModel_readRoad_3 : decode prog_14_method_19_code 3 = .ok (.getfield 150, 3) := by decide +kernel
theorem dModel_readRoad_6 : decode prog_14_method_19_code 6 = .ok (.imul, 1) := by decide +kernel
theorem dModel_readRoad_7 : decode prog_14_method_19_code 7 = .ok (.aload_n 0, 1) := by decide +kernel
theorem dModel_readRoad_8 : decode prog_14_method_19_code 8 = .ok (.getfield 153, 3) := by decide +kernel
theorem dModel_readRoad_11 : decode prog_14_method_19_code 11 = .ok (.aload_n 0, 1) := by decide +kernel
theorem dModel_readRoad_12 : decode prog_14_method_19_code 12 = .ok (.getfield 150, 3) := by decide +kernel
theorem dModel_readRoad_15 : decode prog_14_method_19_code 15 = .ok (.iaload, 1) := by decide +kernel
theorem dModel_readRoad_16 : decode prog_14_method_19_code 16 = .ok (.iadd, 1) := by decide +kernel
theorem dModel_readRoad_17 : decode prog_14_method_19_code 17 = .ok (.istore_n 1, 1) := by decide +kernel
theorem dModel_readRoad_18 : decode prog_14_method_19_code 18 = .ok (.aload_n 0, 1) := by decide +kernel
theorem dModel_readRoad_19 : decode prog_14_method_19_code 19 = .ok (.getfield 199, 3) := by decide +kernel
theorem dModel_readRoad_22 : decode prog_14_method_19_code 22 = .ok (.iload_n 1, 1) := by decide +kernel
theorem dModel_readRoad_23 : decode prog_14_method_19_code 23 = .ok (.aload_n 0, 1) := by decide +kernel
theorem dModel_readRoad_24 : decode prog_14_method_19_code 24 = .ok (.invokevirtual 202, 3) := by decide +kernel
theorem dModel_readRoad_27 : decode prog_14_method_19_code 27 = .ok (.iastore, 1) := by decide +kernel
theorem dModel_readRoad_28 : decode prog_14_method_19_code 28 = .ok (.aload_n 0, 1) := by decide +kernel
theorem dModel_readRoad_29 : decode prog_14_method_19_code 29 = .ok (.invokevirtual 126, 3) := by decide +kernel
theorem dModel_readRoad_32 : decode prog_14_method_19_code 32 = .ok (.ifCond .eq 33, 3) := by decide +kernel
theorem dModel_readRoad_35 : decode prog_14_method_19_code 35 = .ok (.aload_n 0, 1) := by decide +kernel
theorem dModel_readRoad_36 : decode prog_14_method_19_code 36 = .ok (.getfield 98, 3) := by decide +kernel
theorem dModel_readRoad_39 : decode prog_14_method_19_code 39 = .ok (.iconst 5, 1) := by decide +kernel
theorem dModel_readRoad_40 : decode prog_14_method_19_code 40 = .ok (.if_icmp .ne 25, 3) := by decide +kernel
theorem dModel_readRoad_43 : decode prog_14_method_19_code 43 = .ok (.aload_n 0, 1) := by decide +kernel
theorem dModel_readRoad_44 : decode prog_14_method_19_code 44 = .ok (.getfield 108, 3) := by decide +kernel
theorem dModel_readRoad_47 : decode prog_14_method_19_code 47 = .ok (.aload_n 0, 1) := by decide +kernel
theorem dModel_readRoad_48 : decode prog_14_method_19_code 48 = .ok (.getfield 199, 3) := by decide +kernel
theorem dModel_readRoad_51 : decode prog_14_method_19_code 51 = .ok (.iload_n 1, 1) := by decide +kernel
theorem dModel_readRoad_52 : decode prog_14_method_19_code 52 = .ok (.iaload, 1) := by decide +kernel
theorem dModel_readRoad_53 : decode prog_14_method_19_code 53 = .ok (.if_icmp .ne 12, 3) := by decide +kernel
theorem dModel_readRoad_56 : decode prog_14_method_19_code 56 = .ok (.aload_n 0, 1) := by decide +kernel
theorem dModel_readRoad_57 : decode prog_14_method_19_code 57 = .ok (.iconst 4, 1) := by decide +kernel
theorem dModel_readRoad_58 : decode prog_14_method_19_code 58 = .ok (.aload_n 0, 1) := by decide +kernel
theorem dModel_readRoad_59 : decode prog_14_method_19_code 59 = .ok (.getfield 95, 3) := by decide +kernel
theorem dModel_readRoad_62 : decode prog_14_method_19_code 62 = .ok (.invokevirtual 122, 3) := by decide +kernel
theorem dModel_readRoad_65 : decode prog_14_method_19_code 65 = .ok (.aload_n 0, 1) := by decide +kernel
theorem dModel_readRoad_66 : decode prog_14_method_19_code 66 = .ok (.getfield 206, 3) := by decide +kernel
theorem dModel_readRoad_69 : decode prog_14_method_19_code 69 = .ok (.iload_n 1, 1) := by decide +kernel
theorem dModel_readRoad_70 : decode prog_14_method_19_code 70 = .ok (.aload_n 0, 1) := by decide +kernel
theorem dModel_readRoad_71 : decode prog_14_method_19_code 71 = .ok (.invokevirtual 202, 3) := by decide +kernel
theorem dModel_readRoad_74 : decode prog_14_method_19_code 74 = .ok (.iastore, 1) := by decide +kernel
theorem dModel_readRoad_75 : decode prog_14_method_19_code 75 = .ok (.aload_n 0, 1) := by decide +kernel
theorem dModel_readRoad_76 : decode prog_14_method_19_code 76 = .ok (.getfield 209, 3) := by decide +kernel
theorem dModel_readRoad_79 : decode prog_14_method_19_code 79 = .ok (.iload_n 1, 1) := by decide +kernel
theorem dModel_readRoad_80 : decode prog_14_method_19_code 80 = .ok (.aload_n 0, 1) := by decide +kernel
theorem dModel_readRoad_81 : decode prog_14_method_19_code 81 = .ok (.iconst 1, 1) := by decide +kernel
theorem dModel_readRoad_82 : decode prog_14_method_19_code 82 = .ok (.bipush 90, 2) := by decide +kernel
theorem dModel_readRoad_84 : decode prog_14_method_19_code 84 = .ok (.invokevirtual 212, 3) := by decide +kernel
theorem dModel_readRoad_87 : decode prog_14_method_19_code 87 = .ok (.iastore, 1) := by decide +kernel
theorem dModel_readRoad_88 : decode prog_14_method_19_code 88 = .ok (.aload_n 0, 1) := by decide +kernel
theorem dModel_readRoad_89 : decode prog_14_method_19_code 89 = .ok (.invokevirtual 126, 3) := by decide +kernel
theorem dModel_readRoad_92 : decode prog_14_method_19_code 92 = .ok (.ifCond .eq 16, 3) := by decide +kernel
theorem dModel_readRoad_95 : decode prog_14_method_19_code 95 = .ok (.aload_n 0, 1) := by decide +kernel
theorem dModel_readRoad_96 : decode prog_14_method_19_code 96 = .ok (.getfield 153, 3) := by decide +kernel
theorem dModel_readRoad_99 : decode prog_14_method_19_code 99 = .ok (.aload_n 0, 1) := by decide +kernel
theorem dModel_readRoad_100 : decode prog_14_method_19_code 100 = .ok (.getfield 150, 3) := by decide +kernel
theorem dModel_readRoad_103 : decode prog_14_method_19_code 103 = .ok (.dup2, 1) := by decide +kernel
theorem dModel_readRoad_104 : decode prog_14_method_19_code 104 = .ok (.iaload, 1) := by decide +kernel
theorem dModel_readRoad_105 : decode prog_14_method_19_code 105 = .ok (.iconst 1, 1) := by decide +kernel
theorem dModel_readRoad_106 : decode prog_14_method_19_code 106 = .ok (.iadd, 1) := by decide +kernel
theorem dModel_readRoad_107 : decode prog_14_method_19_code 107 = .ok (.iastore, 1) := by decide +kernel
theorem dModel_readRoad_108 : decode prog_14_method_19_code 108 = .ok (.return_, 1) := by decide +kernel
theorem dModel_isTold_0 : decode prog_14_method_20_code 0 = .ok (.iconst 3, 1) := by decide +kernel
theorem dModel_isTold_1 : decode prog_14_method_20_code 1 = .ok (.aload_n 0, 1) := by decide +kernel
theorem dModel_isTold_2 : decode prog_14_method_20_code 2 = .ok (.getfield 150, 3) := by decide +kernel
theorem dModel_isTold_5 : decode prog_14_method_20_code 5 = .ok (.imul, 1) := by decide +kernel
theorem dModel_isTold_6 : decode prog_14_method_20_code 6 = .ok (.istore_n 3, 1) := by decide +kernel
theorem dModel_isTold_7 : decode prog_14_method_20_code 7 = .ok (.iload_n 3, 1) := by decide +kernel
theorem dModel_isTold_8 : decode prog_14_method_20_code 8 = .ok (.iconst 3, 1) := by decide +kernel
theorem dModel_isTold_9 : decode prog_14_method_20_code 9 = .ok (.aload_n 0, 1) := by decide +kernel
theorem dModel_isTold_10 : decode prog_14_method_20_code 10 = .ok (.getfield 150, 3) := by decide +kernel
theorem dModel_isTold_13 : decode prog_14_method_20_code 13 = .ok (.imul, 1) := by decide +kernel
theorem dModel_isTold_14 : decode prog_14_method_20_code 14 = .ok (.aload_n 0, 1) := by decide +kernel
theorem dModel_isTold_15 : decode prog_14_method_20_code 15 = .ok (.getfield 157, 3) := by decide +kernel
theorem dModel_isTold_18 : decode prog_14_method_20_code 18 = .ok (.aload_n 0, 1) := by decide +kernel
theorem dModel_isTold_19 : decode prog_14_method_20_code 19 = .ok (.getfield 150, 3) := by decide +kernel
theorem dModel_isTold_22 : decode prog_14_method_20_code 22 = .ok (.iaload, 1) := by decide +kernel
theorem dModel_isTold_23 : decode prog_14_method_20_code 23 = .ok (.iadd, 1) := by decide +kernel
theorem dModel_isTold_24 : decode prog_14_method_20_code 24 = .ok (.if_icmp .ge 22, 3) := by decide +kernel
theorem dModel_isTold_27 : decode prog_14_method_20_code 27 = .ok (.aload_n 0, 1) := by decide +kernel
theorem dModel_isTold_28 : decode prog_14_method_20_code 28 = .ok (.getfield 216, 3) := by decide +kernel
theorem dModel_isTold_31 : decode prog_14_method_20_code 31 = .ok (.iload_n 3, 1) := by decide +kernel
theorem dModel_isTold_32 : decode prog_14_method_20_code 32 = .ok (.laload, 1) := by decide +kernel
theorem dModel_isTold_33 : decode prog_14_method_20_code 33 = .ok (.lload_n 1, 1) := by decide +kernel
theorem dModel_isTold_34 : decode prog_14_method_20_code 34 = .ok (.lcmp, 1) := by decide +kernel
theorem dModel_isTold_35 : decode prog_14_method_20_code 35 = .ok (.ifCond .ne 5, 3) := by decide +kernel
theorem dModel_isTold_38 : decode prog_14_method_20_code 38 = .ok (.iconst 1, 1) := by decide +kernel
theorem dModel_isTold_39 : decode prog_14_method_20_code 39 = .ok (.ireturn, 1) := by decide +kernel
theorem dModel_isTold_40 : decode prog_14_method_20_code 40 = .ok (.iinc 3 1, 3) := by decide +kernel
theorem dModel_isTold_43 : decode prog_14_method_20_code 43 = .ok (.goto (-36), 3) := by decide +kernel
theorem dModel_isTold_46 : decode prog_14_method_20_code 46 = .ok (.iconst 3, 1) := by decide +kernel
theorem dModel_isTold_47 : decode prog_14_method_20_code 47 = .ok (.aload_n 0, 1) := by decide +kernel
theorem dModel_isTold_48 : decode prog_14_method_20_code 48 = .ok (.getfield 150, 3) := by decide +kernel
theorem dModel_isTold_51 : decode prog_14_method_20_code 51 = .ok (.imul, 1) := by decide +kernel
theorem dModel_isTold_52 : decode prog_14_method_20_code 52 = .ok (.istore_n 3, 1) := by decide +kernel
theorem dModel_isTold_53 : decode prog_14_method_20_code 53 = .ok (.iload_n 3, 1) := by decide +kernel
theorem dModel_isTold_54 : decode prog_14_method_20_code 54 = .ok (.iconst 3, 1) := by decide +kernel
theorem dModel_isTold_55 : decode prog_14_method_20_code 55 = .ok (.aload_n 0, 1) := by decide +kernel
theorem dModel_isTold_56 : decode prog_14_method_20_code 56 = .ok (.getfield 150, 3) := by decide +kernel
theorem dModel_isTold_59 : decode prog_14_method_20_code 59 = .ok (.imul, 1) := by decide +kernel
theorem dModel_isTold_60 : decode prog_14_method_20_code 60 = .ok (.aload_n 0, 1) := by decide +kernel
theorem dModel_isTold_61 : decode prog_14_method_20_code 61 = .ok (.getfield 160, 3) := by decide +kernel
theorem dModel_isTold_64 : decode prog_14_method_20_code 64 = .ok (.aload_n 0, 1) := by decide +kernel
theorem dModel_isTold_65 : decode prog_14_method_20_code 65 = .ok (.getfield 150, 3) := by decide +kernel
theorem dModel_isTold_68 : decode prog_14_method_20_code 68 = .ok (.iaload, 1) := by decide +kernel
theorem dModel_isTold_69 : decode prog_14_method_20_code 69 = .ok (.iadd, 1) := by decide +kernel
theorem dModel_isTold_70 : decode prog_14_method_20_code 70 = .ok (.if_icmp .ge 22, 3) := by decide +kernel
theorem dModel_isTold_73 : decode prog_14_method_20_code 73 = .ok (.aload_n 0, 1) := by decide +kernel
theorem dModel_isTold_74 : decode prog_14_method_20_code 74 = .ok (.getfield 220, 3) := by decide +kernel
theorem dModel_isTold_77 : decode prog_14_method_20_code 77 = .ok (.iload_n 3, 1) := by decide +kernel
theorem dModel_isTold_78 : decode prog_14_method_20_code 78 = .ok (.laload, 1) := by decide +kernel
theorem dModel_isTold_79 : decode prog_14_method_20_code 79 = .ok (.lload_n 1, 1) := by decide +kernel
theorem dModel_isTold_80 : decode prog_14_method_20_code 80 = .ok (.lcmp, 1) := by decide +kernel
theorem dModel_isTold_81 : decode prog_14_method_20_code 81 = .ok (.ifCond .ne 5, 3) := by decide +kernel
theorem dModel_isTold_84 : decode prog_14_method_20_code 84 = .ok (.iconst 1, 1) := by decide +kernel
theorem dModel_isTold_85 : decode prog_14_method_20_code 85 = .ok (.ireturn, 1) := by decide +kernel
theorem dModel_isTold_86 : decode prog_14_method_20_code 86 = .ok (.iinc 3 1, 3) := by decide +kernel
theorem dModel_isTold_89 : decode prog_14_method_20_code 89 = .ok (.goto (-36), 3) := by decide +kernel
theorem dModel_isTold_92 : decode prog_14_method_20_code 92 = .ok (.iconst 5, 1) := by decide +kernel
theorem dModel_isTold_93 : decode prog_14_method_20_code 93 = .ok (.aload_n 0, 1) := by decide +kernel
theorem dModel_isTold_94 : decode prog_14_method_20_code 94 = .ok (.getfield 150, 3) := by decide +kernel
theorem dModel_isTold_97 : decode prog_14_method_20_code 97 = .ok (.imul, 1) := by decide +kernel
theorem dModel_isTold_98 : decode prog_14_method_20_code 98 = .ok (.istore_n 3, 1) := by decide +kernel
theorem dModel_isTold_99 : decode prog_14_method_20_code 99 = .ok (.iload_n 3, 1) := by decide +kernel
theorem dModel_isTold_100 : decode prog_14_method_20_code 100 = .ok (.iconst 5, 1) := by decide +kernel
theorem dModel_isTold_101 : decode prog_14_method_20_code 101 = .ok (.aload_n 0, 1) := by decide +kernel
theorem dModel_isTold_102 : decode prog_14_method_20_code 102 = .ok (.getfield 150, 3) := by decide +kernel
theorem dModel_isTold_105 : decode prog_14_method_20_code 105 = .ok (.imul, 1) := by decide +kernel
theorem dModel_isTold_106 : decode prog_14_method_20_code 106 = .ok (.aload_n 0, 1) := by decide +kernel
theorem dModel_isTold_107 : decode prog_14_method_20_code 107 = .ok (.getfield 163, 3) := by decide +kernel
theorem dModel_isTold_110 : decode prog_14_method_20_code 110 = .ok (.aload_n 0, 1) := by decide +kernel
theorem dModel_isTold_111 : decode prog_14_method_20_code 111 = .ok (.getfield 150, 3) := by decide +kernel
theorem dModel_isTold_114 : decode prog_14_method_20_code 114 = .ok (.iaload, 1) := by decide +kernel
theorem dModel_isTold_115 : decode prog_14_method_20_code 115 = .ok (.iadd, 1) := by decide +kernel
theorem dModel_isTold_116 : decode prog_14_method_20_code 116 = .ok (.if_icmp .ge 22, 3) := by decide +kernel
theorem dModel_isTold_119 : decode prog_14_method_20_code 119 = .ok (.aload_n 0, 1) := by decide +kernel
theorem dModel_isTold_120 : decode prog_14_method_20_code 120 = .ok (.getfield 223, 3) := by decide +kernel
theorem dModel_isTold_123 : decode prog_14_method_20_code 123 = .ok (.iload_n 3, 1) := by decide +kernel
theorem dModel_isTold_124 : decode prog_14_method_20_code 124 = .ok (.laload, 1) := by decide +kernel
theorem dModel_isTold_125 : decode prog_14_method_20_code 125 = .ok (.lload_n 1, 1) := by decide +kernel
theorem dModel_isTold_126 : decode prog_14_method_20_code 126 = .ok (.lcmp, 1) := by decide +kernel
theorem dModel_isTold_127 : decode prog_14_method_20_code 127 = .ok (.ifCond .ne 5, 3) := by decide +kernel
theorem dModel_isTold_130 : decode prog_14_method_20_code 130 = .ok (.iconst 1, 1) := by decide +kernel
theorem dModel_isTold_131 : decode prog_14_method_20_code 131 = .ok (.ireturn, 1) := by decide +kernel
theorem dModel_isTold_132 : decode prog_14_method_20_code 132 = .ok (.iinc 3 1, 3) := by decide +kernel
theorem dModel_isTold_135 : decode prog_14_method_20_code 135 = .ok (.goto (-36), 3) := by decide +kernel
theorem dModel_isTold_138 : decode prog_14_method_20_code 138 = .ok (.iconst 0, 1) := by decide +kernel
theorem dModel_isTold_139 : decode prog_14_method_20_code 139 = .ok (.ireturn, 1) := by decide +kernel
theorem dModel_newName_0 : decode prog_14_method_21_code 0 = .ok (.aload_n 0, 1) := by decide +kernel
theorem dModel_newName_1 : decode prog_14_method_21_code 1 = .ok (.getfield 111, 3) := by decide +kernel
theorem dModel_newName_4 : decode prog_14_method_21_code 4 = .ok (.lstore_n 1, 1) := by decide +kernel
theorem dModel_newName_5 : decode prog_14_method_21_code 5 = .ok (.aload_n 0, 1) := by decide +kernel
theorem dModel_newName_6 : decode prog_14_method_21_code 6 = .ok (.invokevirtual 126, 3) := by decide +kernel
theorem dModel_newName_9 : decode prog_14_method_21_code 9 = .ok (.ifCond .eq 28, 3) := by decide +kernel
theorem dModel_newName_12 : decode prog_14_method_21_code 12 = .ok (.aload_n 0, 1) := by decide +kernel
theorem dModel_newName_13 : decode prog_14_method_21_code 13 = .ok (.getfield 98, 3) := by decide +kernel
theorem dModel_newName_16 : decode prog_14_method_21_code 16 = .ok (.iconst 2, 1) := by decide +kernel
theorem dModel_newName_17 : decode prog_14_method_21_code 17 = .ok (.if_icmp .ne 20, 3) := by decide +kernel
theorem dModel_newName_20 : decode prog_14_method_21_code 20 = .ok (.aload_n 0, 1) := by decide +kernel
theorem dModel_newName_21 : decode prog_14_method_21_code 21 = .ok (.lload_n 1, 1) := by decide +kernel
theorem dModel_newName_22 : decode prog_14_method_21_code 22 = .ok (.invokevirtual 226, 3) := by decide +kernel
theorem dModel_newName_25 : decode prog_14_method_21_code 25 = .ok (.ifCond .eq 12, 3) := by decide +kernel
theorem dModel_newName_28 : decode prog_14_method_21_code 28 = .ok (.aload_n 0, 1) := by decide +kernel
theorem dModel_newName_29 : decode prog_14_method_21_code 29 = .ok (.iconst 3, 1) := by decide +kernel
theorem dModel_newName_30 : decode prog_14_method_21_code 30 = .ok (.aload_n 0, 1) := by decide +kernel
theorem dModel_newName_31 : decode prog_14_method_21_code 31 = .ok (.getfield 95, 3) := by decide +kernel
theorem dModel_newName_34 : decode prog_14_method_21_code 34 = .ok (.invokevirtual 122, 3) := by decide +kernel
theorem dModel_newName_37 : decode prog_14_method_21_code 37 = .ok (.aload_n 0, 1) := by decide +kernel
theorem dModel_newName_38 : decode prog_14_method_21_code 38 = .ok (.aload_n 0, 1) := by decide +kernel
theorem dModel_newName_39 : decode prog_14_method_21_code 39 = .ok (.getfield 98, 3) := by decide +kernel
theorem dModel_newName_42 : decode prog_14_method_21_code 42 = .ok (.iconst 2, 1) := by decide +kernel
theorem dModel_newName_43 : decode prog_14_method_21_code 43 = .ok (.if_icmp .ne 7, 3) := by decide +kernel
theorem dModel_newName_46 : decode prog_14_method_21_code 46 = .ok (.iconst 1, 1) := by decide +kernel
theorem dModel_newName_47 : decode prog_14_method_21_code 47 = .ok (.goto 4, 3) := by decide +kernel
theorem dModel_newName_50 : decode prog_14_method_21_code 50 = .ok (.iconst 0, 1) := by decide +kernel
theorem dModel_newName_51 : decode prog_14_method_21_code 51 = .ok (.invokevirtual 196, 3) := by decide +kernel
theorem dModel_newName_54 : decode prog_14_method_21_code 54 = .ok (.aload_n 0, 1) := by decide +kernel
theorem dModel_newName_55 : decode prog_14_method_21_code 55 = .ok (.aload_n 0, 1) := by decide +kernel
theorem dModel_newName_56 : decode prog_14_method_21_code 56 = .ok (.ldc2_w 21, 3) := by decide +kernel
theorem dModel_newName_59 : decode prog_14_method_21_code 59 = .ok (.invokevirtual 178, 3) := by decide +kernel
theorem dModel_newName_62 : decode prog_14_method_21_code 62 = .ok (.invokevirtual 196, 3) := by decide +kernel
theorem dModel_newName_65 : decode prog_14_method_21_code 65 = .ok (.lload_n 1, 1) := by decide +kernel
theorem dModel_newName_66 : decode prog_14_method_21_code 66 = .ok (.lreturn, 1) := by decide +kernel
theorem dModel_readFort_0 : decode prog_14_method_22_code 0 = .ok (.iconst 3, 1) := by decide +kernel
theorem dModel_readFort_1 : decode prog_14_method_22_code 1 = .ok (.aload_n 0, 1) := by decide +kernel
theorem dModel_readFort_2 : decode prog_14_method_22_code 2 = .ok (.getfield 150, 3) := by decide +kernel
theorem dModel_readFort_5 : decode prog_14_method_22_code 5 = .ok (.imul, 1) := by decide +kernel
theorem dModel_readFort_6 : decode prog_14_method_22_code 6 = .ok (.aload_n 0, 1) := by decide +kernel
theorem dModel_readFort_7 : decode prog_14_method_22_code 7 = .ok (.getfield 157, 3) := by decide +kernel
theorem dModel_readFort_10 : decode prog_14_method_22_code 10 = .ok (.aload_n 0, 1) := by decide +kernel
theorem dModel_readFort_11 : decode prog_14_method_22_code 11 = .ok (.getfield 150, 3) := by decide +kernel
theorem dModel_readFort_14 : decode prog_14_method_22_code 14 = .ok (.iaload, 1) := by decide +kernel
theorem dModel_readFort_15 : decode prog_14_method_22_code 15 = .ok (.iadd, 1) := by decide +kernel
theorem dModel_readFort_16 : decode prog_14_method_22_code 16 = .ok (.istore_n 1, 1) := by decide +kernel
theorem dModel_readFort_17 : decode prog_14_method_22_code 17 = .ok (.aload_n 0, 1) := by decide +kernel
theorem dModel_readFort_18 : decode prog_14_method_22_code 18 = .ok (.getfield 216, 3) := by decide +kernel
theorem dModel_readFort_21 : decode prog_14_method_22_code 21 = .ok (.iload_n 1, 1) := by decide +kernel
theorem dModel_readFort_22 : decode prog_14_method_22_code 22 = .ok (.aload_n 0, 1) := by decide +kernel
theorem dModel_readFort_23 : decode prog_14_method_22_code 23 = .ok (.invokevirtual 229, 3) := by decide +kernel
theorem dModel_readFort_26 : decode prog_14_method_22_code 26 = .ok (.lastore, 1) := by decide +kernel
theorem dModel_readFort_27 : decode prog_14_method_22_code 27 = .ok (.aload_n 0, 1) := by decide +kernel
theorem dModel_readFort_28 : decode prog_14_method_22_code 28 = .ok (.getfield 233, 3) := by decide +kernel
theorem dModel_readFort_31 : decode prog_14_method_22_code 31 = .ok (.iload_n 1, 1) := by decide +kernel
theorem dModel_readFort_32 : decode prog_14_method_22_code 32 = .ok (.aload_n 0, 1) := by decide +kernel
theorem dModel_readFort_33 : decode prog_14_method_22_code 33 = .ok (.invokevirtual 202, 3) := by decide +kernel
theorem dModel_readFort_36 : decode prog_14_method_22_code 36 = .ok (.iastore, 1) := by decide +kernel
theorem dModel_readFort_37 : decode prog_14_method_22_code 37 = .ok (.aload_n 0, 1) := by decide +kernel
theorem dModel_readFort_38 : decode prog_14_method_22_code 38 = .ok (.aload_n 0, 1) := by decide +kernel
theorem dModel_readFort_39 : decode prog_14_method_22_code 39 = .ok (.ldc2_w 23, 3) := by decide +kernel
theorem dModel_readFort_42 : decode prog_14_method_22_code 42 = .ok (.invokevirtual 178, 3) := by decide +kernel
theorem dModel_readFort_45 : decode prog_14_method_22_code 45 = .ok (.invokevirtual 196, 3) := by decide +kernel
theorem dModel_readFort_48 : decode prog_14_method_22_code 48 = .ok (.aload_n 0, 1) := by decide +kernel
theorem dModel_readFort_49 : decode prog_14_method_22_code 49 = .ok (.getfield 236, 3) := by decide +kernel
theorem dModel_readFort_52 : decode prog_14_method_22_code 52 = .ok (.iload_n 1, 1) := by decide +kernel
theorem dModel_readFort_53 : decode prog_14_method_22_code 53 = .ok (.aload_n 0, 1) := by decide +kernel
theorem dModel_readFort_54 : decode prog_14_method_22_code 54 = .ok (.iconst 0, 1) := by decide +kernel
theorem dModel_readFort_55 : decode prog_14_method_22_code 55 = .ok (.sipush 999, 3) := by decide +kernel
theorem dModel_readFort_58 : decode prog_14_method_22_code 58 = .ok (.invokevirtual 212, 3) := by decide +kernel
theorem dModel_readFort_61 : decode prog_14_method_22_code 61 = .ok (.iastore, 1) := by decide +kernel
theorem dModel_readFort_62 : decode prog_14_method_22_code 62 = .ok (.aload_n 0, 1) := by decide +kernel
theorem dModel_readFort_63 : decode prog_14_method_22_code 63 = .ok (.aload_n 0, 1) := by decide +kernel
theorem dModel_readFort_64 : decode prog_14_method_22_code 64 = .ok (.ldc2_w 25, 3) := by decide +kernel
theorem dModel_readFort_67 : decode prog_14_method_22_code 67 = .ok (.invokevirtual 178, 3) := by decide +kernel
theorem dModel_readFort_70 : decode prog_14_method_22_code 70 = .ok (.invokevirtual 196, 3) := by decide +kernel
theorem dModel_readFort_73 : decode prog_14_method_22_code 73 = .ok (.aload_n 0, 1) := by decide +kernel
theorem dModel_readFort_74 : decode prog_14_method_22_code 74 = .ok (.getfield 239, 3) := by decide +kernel
theorem dModel_readFort_77 : decode prog_14_method_22_code 77 = .ok (.iload_n 1, 1) := by decide +kernel
theorem dModel_readFort_78 : decode prog_14_method_22_code 78 = .ok (.aload_n 0, 1) := by decide +kernel
theorem dModel_readFort_79 : decode prog_14_method_22_code 79 = .ok (.iconst 0, 1) := by decide +kernel
theorem dModel_readFort_80 : decode prog_14_method_22_code 80 = .ok (.sipush 9999, 3) := by decide +kernel
theorem dModel_readFort_83 : decode prog_14_method_22_code 83 = .ok (.invokevirtual 212, 3) := by decide +kernel
theorem dModel_readFort_86 : decode prog_14_method_22_code 86 = .ok (.iastore, 1) := by decide +kernel
theorem dModel_readFort_87 : decode prog_14_method_22_code 87 = .ok (.aload_n 0, 1) := by decide +kernel
theorem dModel_readFort_88 : decode prog_14_method_22_code 88 = .ok (.invokevirtual 126, 3) := by decide +kernel
theorem dModel_readFort_91 : decode prog_14_method_22_code 91 = .ok (.ifCond .eq 16, 3) := by decide +kernel
theorem dModel_readFort_94 : decode prog_14_method_22_code 94 = .ok (.aload_n 0, 1) := by decide +kernel
theorem dModel_readFort_95 : decode prog_14_method_22_code 95 = .ok (.getfield 157, 3) := by decide +kernel
theorem dModel_readFort_98 : decode prog_14_method_22_code 98 = .ok (.aload_n 0, 1) := by decide +kernel
theorem dModel_readFort_99 : decode prog_14_method_22_code 99 = .ok (.getfield 150, 3) := by decide +kernel
theorem dModel_readFort_102 : decode prog_14_method_22_code 102 = .ok (.dup2, 1) := by decide +kernel
theorem dModel_readFort_103 : decode prog_14_method_22_code 103 = .ok (.iaload, 1) := by decide +kernel
theorem dModel_readFort_104 : decode prog_14_method_22_code 104 = .ok (.iconst 1, 1) := by decide +kernel
theorem dModel_readFort_105 : decode prog_14_method_22_code 105 = .ok (.iadd, 1) := by decide +kernel
theorem dModel_readFort_106 : decode prog_14_method_22_code 106 = .ok (.iastore, 1) := by decide +kernel
theorem dModel_readFort_107 : decode prog_14_method_22_code 107 = .ok (.return_, 1) := by decide +kernel
theorem dModel_readPan_0 : decode prog_14_method_23_code 0 = .ok (.iconst 3, 1) := by decide +kernel
theorem dModel_readPan_1 : decode prog_14_method_23_code 1 = .ok (.aload_n 0, 1) := by decide +kernel
theorem dModel_readPan_2 : decode prog_14_method_23_code 2 = .ok (.getfield 150, 3) := by decide +kernel
theorem dModel_readPan_5 : decode prog_14_method_23_code 5 = .ok (.imul, 1) := by decide +kernel
theorem dModel_readPan_6 : decode prog_14_method_23_code 6 = .ok (.aload_n 0, 1) := by decide +kernel
theorem dModel_readPan_7 : decode prog_14_method_23_code 7 = .ok (.getfield 160, 3) := by decide +kernel
theorem dModel_readPan_10 : decode prog_14_method_23_code 10 = .ok (.aload_n 0, 1) := by decide +kernel
theorem dModel_readPan_11 : decode prog_14_method_23_code 11 = .ok (.getfield 150, 3) := by decide +kernel
theorem dModel_readPan_14 : decode prog_14_method_23_code 14 = .ok (.iaload, 1) := by decide +kernel
theorem dModel_readPan_15 : decode prog_14_method_23_code 15 = .ok (.iadd, 1) := by decide +kernel
theorem dModel_readPan_16 : decode prog_14_method_23_code 16 = .ok (.istore_n 1, 1) := by decide +kernel
theorem dModel_readPan_17 : decode prog_14_method_23_code 17 = .ok (.aload_n 0, 1) := by decide +kernel
theorem dModel_readPan_18 : decode prog_14_method_23_code 18 = .ok (.getfield 220, 3) := by decide +kernel
theorem dModel_readPan_21 : decode prog_14_method_23_code 21 = .ok (.iload_n 1, 1) := by decide +kernel
theorem dModel_readPan_22 : decode prog_14_method_23_code 22 = .ok (.aload_n 0, 1) := by decide +kernel
theorem dModel_readPan_23 : decode prog_14_method_23_code 23 = .ok (.invokevirtual 229, 3) := by decide +kernel
theorem dModel_readPan_26 : decode prog_14_method_23_code 26 = .ok (.lastore, 1) := by decide +kernel
theorem dModel_readPan_27 : decode prog_14_method_23_code 27 = .ok (.aload_n 0, 1) := by decide +kernel
theorem dModel_readPan_28 : decode prog_14_method_23_code 28 = .ok (.getfield 242, 3) := by decide +kernel
theorem dModel_readPan_31 : decode prog_14_method_23_code 31 = .ok (.iload_n 1, 1) := by decide +kernel
theorem dModel_readPan_32 : decode prog_14_method_23_code 32 = .ok (.aload_n 0, 1) := by decide +kernel
theorem dModel_readPan_33 : decode prog_14_method_23_code 33 = .ok (.invokevirtual 202, 3) := by decide +kernel
theorem dModel_readPan_36 : decode prog_14_method_23_code 36 = .ok (.iastore, 1) := by decide +kernel
theorem dModel_readPan_37 : decode prog_14_method_23_code 37 = .ok (.aload_n 0, 1) := by decide +kernel
theorem dModel_readPan_38 : decode prog_14_method_23_code 38 = .ok (.aload_n 0, 1) := by decide +kernel
theorem dModel_readPan_39 : decode prog_14_method_23_code 39 = .ok (.ldc2_w 29, 3) := by decide +kernel
theorem dModel_readPan_42 : decode prog_14_method_23_code 42 = .ok (.invokevirtual 178, 3) := by decide +kernel
theorem dModel_readPan_45 : decode prog_14_method_23_code 45 = .ok (.invokevirtual 196, 3) := by decide +kernel
theorem dModel_readPan_48 : decode prog_14_method_23_code 48 = .ok (.iconst 0, 1) := by decide +kernel
theorem dModel_readPan_49 : decode prog_14_method_23_code 49 = .ok (.istore_n 2, 1) := by decide +kernel
theorem dModel_readPan_50 : decode prog_14_method_23_code 50 = .ok (.iload_n 2, 1) := by decide +kernel
theorem dModel_readPan_51 : decode prog_14_method_23_code 51 = .ok (.bipush 12, 2) := by decide +kernel
theorem dModel_readPan_53 : decode prog_14_method_23_code 53 = .ok (.if_icmp .ge 28, 3) := by decide +kernel
theorem dModel_readPan_56 : decode prog_14_method_23_code 56 = .ok (.aload_n 0, 1) := by decide +kernel
theorem dModel_readPan_57 : decode prog_14_method_23_code 57 = .ok (.getfield 245, 3) := by decide +kernel
theorem dModel_readPan_60 : decode prog_14_method_23_code 60 = .ok (.bipush 12, 2) := by decide +kernel
theorem dModel_readPan_62 : decode prog_14_method_23_code 62 = .ok (.iload_n 1, 1) := by decide +kernel
theorem dModel_readPan_63 : decode prog_14_method_23_code 63 = .ok (.imul, 1) := by decide +kernel
theorem dModel_readPan_64 : decode prog_14_method_23_code 64 = .ok (.iload_n 2, 1) := by decide +kernel
theorem dModel_readPan_65 : decode prog_14_method_23_code 65 = .ok (.iadd, 1) := by decide +kernel
theorem dModel_readPan_66 : decode prog_14_method_23_code 66 = .ok (.aload_n 0, 1) := by decide +kernel
theorem dModel_readPan_67 : decode prog_14_method_23_code 67 = .ok (.iconst 0, 1) := by decide +kernel
theorem dModel_readPan_68 : decode prog_14_method_23_code 68 = .ok (.sipush 999, 3) := by decide +kernel
theorem dModel_readPan_71 : decode prog_14_method_23_code 71 = .ok (.invokevirtual 212, 3) := by decide +kernel
theorem dModel_readPan_74 : decode prog_14_method_23_code 74 = .ok (.iastore, 1) := by decide +kernel
theorem dModel_readPan_75 : decode prog_14_method_23_code 75 = .ok (.iinc 2 1, 3) := by decide +kernel
theorem dModel_readPan_78 : decode prog_14_method_23_code 78 = .ok (.goto (-28), 3) := by decide +kernel
theorem dModel_readPan_81 : decode prog_14_method_23_code 81 = .ok (.aload_n 0, 1) := by decide +kernel
theorem dModel_readPan_82 : decode prog_14_method_23_code 82 = .ok (.aload_n 0, 1) := by decide +kernel
theorem dModel_readPan_83 : decode prog_14_method_23_code 83 = .ok (.ldc2_w 31, 3) := by decide +kernel
theorem dModel_readPan_86 : decode prog_14_method_23_code 86 = .ok (.invokevirtual 178, 3) := by decide +kernel
theorem dModel_readPan_89 : decode prog_14_method_23_code 89 = .ok (.invokevirtual 196, 3) := by decide +kernel
theorem dModel_readPan_92 : decode prog_14_method_23_code 92 = .ok (.aload_n 0, 1) := by decide +kernel
theorem dModel_readPan_93 : decode prog_14_method_23_code 93 = .ok (.getfield 248, 3) := by decide +kernel
theorem dModel_readPan_96 : decode prog_14_method_23_code 96 = .ok (.iload_n 1, 1) := by decide +kernel
theorem dModel_readPan_97 : decode prog_14_method_23_code 97 = .ok (.iconst 0, 1) := by decide +kernel
theorem dModel_readPan_98 : decode prog_14_method_23_code 98 = .ok (.iastore, 1) := by decide +kernel
theorem dModel_readPan_99 : decode prog_14_method_23_code 99 = .ok (.iconst 1, 1) := by decide +kernel
theorem dModel_readPan_100 : decode prog_14_method_23_code 100 = .ok (.istore_n 2, 1) := by decide +kernel
theorem dModel_readPan_101 : decode prog_14_method_23_code 101 = .ok (.iload_n 2, 1) := by decide +kernel
theorem dModel_readPan_102 : decode prog_14_method_23_code 102 = .ok (.ifCond .eq 81, 3) := by decide +kernel
theorem dModel_readPan_105 : decode prog_14_method_23_code 105 = .ok (.aload_n 0, 1) := by decide +kernel
theorem dModel_readPan_106 : decode prog_14_method_23_code 106 = .ok (.invokevirtual 126, 3) := by decide +kernel
theorem dModel_readPan_109 : decode prog_14_method_23_code 109 = .ok (.ifCond .eq 74, 3) := by decide +kernel
theorem dModel_readPan_112 : decode prog_14_method_23_code 112 = .ok (.aload_n 0, 1) := by decide +kernel
theorem dModel_readPan_113 : decode prog_14_method_23_code 113 = .ok (.getfield 95, 3) := by decide +kernel
theorem dModel_readPan_116 : decode prog_14_method_23_code 116 = .ok (.istore_n 3, 1) := by decide +kernel
theorem dModel_readPan_117 : decode prog_14_method_23_code 117 = .ok (.aload_n 0, 1) := by decide +kernel
theorem dModel_readPan_118 : decode prog_14_method_23_code 118 = .ok (.iconst 0, 1) := by decide +kernel
theorem dModel_readPan_119 : decode prog_14_method_23_code 119 = .ok (.iconst 4, 1) := by decide +kernel
theorem dModel_readPan_120 : decode prog_14_method_23_code 120 = .ok (.invokevirtual 212, 3) := by decide +kernel
theorem dModel_readPan_123 : decode prog_14_method_23_code 123 = .ok (.istore 4, 2) := by decide +kernel
theorem dModel_readPan_125 : decode prog_14_method_23_code 125 = .ok (.aload_n 0, 1) := by decide +kernel
theorem dModel_readPan_126 : decode prog_14_method_23_code 126 = .ok (.invokevirtual 126, 3) := by decide +kernel
theorem dModel_readPan_129 : decode prog_14_method_23_code 129 = .ok (.ifCond .eq 24, 3) := by decide +kernel
theorem dModel_readPan_132 : decode prog_14_method_23_code 132 = .ok (.aload_n 0, 1) := by decide +kernel
theorem dModel_readPan_133 : decode prog_14_method_23_code 133 = .ok (.getfield 248, 3) := by decide +kernel
theorem dModel_readPan_136 : decode prog_14_method_23_code 136 = .ok (.iload_n 1, 1) := by decide +kernel
theorem dModel_readPan_137 : decode prog_14_method_23_code 137 = .ok (.iaload, 1) := by decide +kernel
theorem dModel_readPan_138 : decode prog_14_method_23_code 138 = .ok (.iload 4, 2) := by decide +kernel
theorem dModel_readPan_140 : decode prog_14_method_23_code 140 = .ok (.ishr, 1) := by decide +kernel
theorem dModel_readPan_141 : decode prog_14_method_23_code 141 = .ok (.iconst 1, 1) := by decide +kernel
theorem dModel_readPan_142 : decode prog_14_method_23_code 142 = .ok (.iand, 1) := by decide +kernel
theorem dModel_readPan_143 : decode prog_14_method_23_code 143 = .ok (.iconst 1, 1) := by decide +kernel
theorem dModel_readPan_144 : decode prog_14_method_23_code 144 = .ok (.if_icmp .ne 9, 3) := by decide +kernel
theorem dModel_readPan_147 : decode prog_14_method_23_code 147 = .ok (.aload_n 0, 1) := by decide +kernel
theorem dModel_readPan_148 : decode prog_14_method_23_code 148 = .ok (.iconst 4, 1) := by decide +kernel
theorem dModel_readPan_149 : decode prog_14_method_23_code 149 = .ok (.iload_n 3, 1) := by decide +kernel
theorem dModel_readPan_150 : decode prog_14_method_23_code 150 = .ok (.invokevirtual 122, 3) := by decide +kernel
theorem dModel_readPan_153 : decode prog_14_method_23_code 153 = .ok (.aload_n 0, 1) := by decide +kernel
theorem dModel_readPan_154 : decode prog_14_method_23_code 154 = .ok (.getfield 248, 3) := by decide +kernel
theorem dModel_readPan_157 : decode prog_14_method_23_code 157 = .ok (.iload_n 1, 1) := by decide +kernel
theorem dModel_readPan_158 : decode prog_14_method_23_code 158 = .ok (.dup2, 1) := by decide +kernel
theorem dModel_readPan_159 : decode prog_14_method_23_code 159 = .ok (.iaload, 1) := by decide +kernel
theorem dModel_readPan_160 : decode prog_14_method_23_code 160 = .ok (.iconst 1, 1) := by decide +kernel
theorem dModel_readPan_161 : decode prog_14_method_23_code 161 = .ok (.iload 4, 2) := by decide +kernel
theorem dModel_readPan_163 : decode prog_14_method_23_code 163 = .ok (.ishl, 1) := by decide +kernel
theorem dModel_readPan_164 : decode prog_14_method_23_code 164 = .ok (.ior, 1) := by decide +kernel
theorem dModel_readPan_165 : decode prog_14_method_23_code 165 = .ok (.iastore, 1) := by decide +kernel
theorem dModel_readPan_166 : decode prog_14_method_23_code 166 = .ok (.aload_n 0, 1) := by decide +kernel
theorem dModel_readPan_167 : decode prog_14_method_23_code 167 = .ok (.getfield 98, 3) := by decide +kernel
theorem dModel_readPan_170 : decode prog_14_method_23_code 170 = .ok (.iconst 4, 1) := by decide +kernel
theorem dModel_readPan_171 : decode prog_14_method_23_code 171 = .ok (.if_icmp .ne 7, 3) := by decide +kernel
theorem dModel_readPan_174 : decode prog_14_method_23_code 174 = .ok (.iconst 1, 1) := by decide +kernel
theorem dModel_readPan_175 : decode prog_14_method_23_code 175 = .ok (.goto 4, 3) := by decide +kernel
theorem dModel_readPan_178 : decode prog_14_method_23_code 178 = .ok (.iconst 0, 1) := by decide +kernel
theorem dModel_readPan_179 : decode prog_14_method_23_code 179 = .ok (.istore_n 2, 1) := by decide +kernel
theorem dModel_readPan_180 : decode prog_14_method_23_code 180 = .ok (.goto (-79), 3) := by decide +kernel
theorem dModel_readPan_183 : decode prog_14_method_23_code 183 = .ok (.aload_n 0, 1) := by decide +kernel
theorem dModel_readPan_184 : decode prog_14_method_23_code 184 = .ok (.invokevirtual 126, 3) := by decide +kernel
theorem dModel_readPan_187 : decode prog_14_method_23_code 187 = .ok (.ifCond .eq 16, 3) := by decide +kernel
theorem dModel_readPan_190 : decode prog_14_method_23_code 190 = .ok (.aload_n 0, 1) := by decide +kernel
theorem dModel_readPan_191 : decode prog_14_method_23_code 191 = .ok (.getfield 160, 3) := by decide +kernel
theorem dModel_readPan_194 : decode prog_14_method_23_code 194 = .ok (.aload_n 0, 1) := by decide +kernel
theorem dModel_readPan_195 : decode prog_14_method_23_code 195 = .ok (.getfield 150, 3) := by decide +kernel
theorem dModel_readPan_198 : decode prog_14_method_23_code 198 = .ok (.dup2, 1) := by decide +kernel
theorem dModel_readPan_199 : decode prog_14_method_23_code 199 = .ok (.iaload, 1) := by decide +kernel
theorem dModel_readPan_200 : decode prog_14_method_23_code 200 = .ok (.iconst 1, 1) := by decide +kernel
theorem dModel_readPan_201 : decode prog_14_method_23_code 201 = .ok (.iadd, 1) := by decide +kernel
theorem dModel_readPan_202 : decode prog_14_method_23_code 202 = .ok (.iastore, 1) := by decide +kernel
theorem dModel_readPan_203 : decode prog_14_method_23_code 203 = .ok (.return_, 1) := by decide +kernel
theorem dModel_readTown_0 : decode prog_14_method_24_code 0 = .ok (.iconst 5, 1) := by decide +kernel
theorem dModel_readTown_1 : decode prog_14_method_24_code 1 = .ok (.aload_n 0, 1) := by decide +kernel
theorem dModel_readTown_2 : decode prog_14_method_24_code 2 = .ok (.getfield 150, 3) := by decide +kernel
theorem dModel_readTown_5 : decode prog_14_method_24_code 5 = .ok (.imul, 1) := by decide +kernel
theorem dModel_readTown_6 : decode prog_14_method_24_code 6 = .ok (.aload_n 0, 1) := by decide +kernel
theorem dModel_readTown_7 : decode prog_14_method_24_code 7 = .ok (.getfield 163, 3) := by decide +kernel
theorem dModel_readTown_10 : decode prog_14_method_24_code 10 = .ok (.aload_n 0, 1) := by decide +kernel
theorem dModel_readTown_11 : decode prog_14_method_24_code 11 = .ok (.getfield 150, 3) := by decide +kernel
theorem dModel_readTown_14 : decode prog_14_method_24_code 14 = .ok (.iaload, 1) := by decide +kernel
theorem dModel_readTown_15 : decode prog_14_method_24_code 15 = .ok (.iadd, 1) := by decide +kernel
theorem dModel_readTown_16 : decode prog_14_method_24_code 16 = .ok (.istore_n 1, 1) := by decide +kernel
theorem dModel_readTown_17 : decode prog_14_method_24_code 17 = .ok (.aload_n 0, 1) := by decide +kernel
theorem dModel_readTown_18 : decode prog_14_method_24_code 18 = .ok (.getfield 223, 3) := by decide +kernel
theorem dModel_readTown_21 : decode prog_14_method_24_code 21 = .ok (.iload_n 1, 1) := by decide +kernel
theorem dModel_readTown_22 : decode prog_14_method_24_code 22 = .ok (.aload_n 0, 1) := by decide +kernel
theorem dModel_readTown_23 : decode prog_14_method_24_code 23 = .ok (.invokevirtual 229, 3) := by decide +kernel
theorem dModel_readTown_26 : decode prog_14_method_24_code 26 = .ok (.lastore, 1) := by decide +kernel
theorem dModel_readTown_27 : decode prog_14_method_24_code 27 = .ok (.aload_n 0, 1) := by decide +kernel
theorem dModel_readTown_28 : decode prog_14_method_24_code 28 = .ok (.getfield 251, 3) := by decide +kernel
theorem dModel_readTown_31 : decode prog_14_method_24_code 31 = .ok (.iload_n 1, 1) := by decide +kernel
theorem dModel_readTown_32 : decode prog_14_method_24_code 32 = .ok (.aload_n 0, 1) := by decide +kernel
theorem dModel_readTown_33 : decode prog_14_method_24_code 33 = .ok (.invokevirtual 202, 3) := by decide +kernel
theorem dModel_readTown_36 : decode prog_14_method_24_code 36 = .ok (.iastore, 1) := by decide +kernel
theorem dModel_readTown_37 : decode prog_14_method_24_code 37 = .ok (.aload_n 0, 1) := by decide +kernel
theorem dModel_readTown_38 : decode prog_14_method_24_code 38 = .ok (.aload_n 0, 1) := by decide +kernel
theorem dModel_readTown_39 : decode prog_14_method_24_code 39 = .ok (.ldc2_w 35, 3) := by decide +kernel
theorem dModel_readTown_42 : decode prog_14_method_24_code 42 = .ok (.invokevirtual 178, 3) := by decide +kernel
theorem dModel_readTown_45 : decode prog_14_method_24_code 45 = .ok (.invokevirtual 196, 3) := by decide +kernel
theorem dModel_readTown_48 : decode prog_14_method_24_code 48 = .ok (.aload_n 0, 1) := by decide +kernel
theorem dModel_readTown_49 : decode prog_14_method_24_code 49 = .ok (.getfield 254, 3) := by decide +kernel
theorem dModel_readTown_52 : decode prog_14_method_24_code 52 = .ok (.iload_n 1, 1) := by decide +kernel
theorem dModel_readTown_53 : decode prog_14_method_24_code 53 = .ok (.aload_n 0, 1) := by decide +kernel
theorem dModel_readTown_54 : decode prog_14_method_24_code 54 = .ok (.iconst 0, 1) := by decide +kernel
theorem dModel_readTown_55 : decode prog_14_method_24_code 55 = .ok (.iconst 4, 1) := by decide +kernel
theorem dModel_readTown_56 : decode prog_14_method_24_code 56 = .ok (.invokevirtual 212, 3) := by decide +kernel
theorem dModel_readTown_59 : decode prog_14_method_24_code 59 = .ok (.iastore, 1) := by decide +kernel
theorem dModel_readTown_60 : decode prog_14_method_24_code 60 = .ok (.aload_n 0, 1) := by decide +kernel
theorem dModel_readTown_61 : decode prog_14_method_24_code 61 = .ok (.aload_n 0, 1) := by decide +kernel
theorem dModel_readTown_62 : decode prog_14_method_24_code 62 = .ok (.ldc2_w 37, 3) := by decide +kernel
theorem dModel_readTown_65 : decode prog_14_method_24_code 65 = .ok (.invokevirtual 178, 3) := by decide +kernel
theorem dModel_readTown_68 : decode prog_14_method_24_code 68 = .ok (.invokevirtual 196, 3) := by decide +kernel
theorem dModel_readTown_71 : decode prog_14_method_24_code 71 = .ok (.aload_n 0, 1) := by decide +kernel
theorem dModel_readTown_72 : decode prog_14_method_24_code 72 = .ok (.getfield 257, 3) := by decide +kernel
theorem dModel_readTown_75 : decode prog_14_method_24_code 75 = .ok (.iload_n 1, 1) := by decide +kernel
theorem dModel_readTown_76 : decode prog_14_method_24_code 76 = .ok (.aload_n 0, 1) := by decide +kernel
theorem dModel_readTown_77 : decode prog_14_method_24_code 77 = .ok (.iconst 0, 1) := by decide +kernel
theorem dModel_readTown_78 : decode prog_14_method_24_code 78 = .ok (.sipush 999, 3) := by decide +kernel
theorem dModel_readTown_81 : decode prog_14_method_24_code 81 = .ok (.invokevirtual 212, 3) := by decide +kernel
theorem dModel_readTown_84 : decode prog_14_method_24_code 84 = .ok (.iastore, 1) := by decide +kernel
theorem dModel_readTown_85 : decode prog_14_method_24_code 85 = .ok (.aload_n 0, 1) := by decide +kernel
theorem dModel_readTown_86 : decode prog_14_method_24_code 86 = .ok (.aload_n 0, 1) := by decide +kernel
theorem dModel_readTown_87 : decode prog_14_method_24_code 87 = .ok (.ldc2_w 39, 3) := by decide +kernel
theorem dModel_readTown_90 : decode prog_14_method_24_code 90 = .ok (.invokevirtual 178, 3) := by decide +kernel
theorem dModel_readTown_93 : decode prog_14_method_24_code 93 = .ok (.invokevirtual 196, 3) := by decide +kernel
theorem dModel_readTown_96 : decode prog_14_method_24_code 96 = .ok (.aload_n 0, 1) := by decide +kernel
theorem dModel_readTown_97 : decode prog_14_method_24_code 97 = .ok (.getfield 260, 3) := by decide +kernel
theorem dModel_readTown_100 : decode prog_14_method_24_code 100 = .ok (.iload_n 1, 1) := by decide +kernel
theorem dModel_readTown_101 : decode prog_14_method_24_code 101 = .ok (.aload_n 0, 1) := by decide +kernel
theorem dModel_readTown_102 : decode prog_14_method_24_code 102 = .ok (.iconst 1, 1) := by decide +kernel
theorem dModel_readTown_103 : decode prog_14_method_24_code 103 = .ok (.sipush 999, 3) := by decide +kernel
theorem dModel_readTown_106 : decode prog_14_method_24_code 106 = .ok (.invokevirtual 212, 3) := by decide +kernel
theorem dModel_readTown_109 : decode prog_14_method_24_code 109 = .ok (.iastore, 1) := by decide +kernel
theorem dModel_readTown_110 : decode prog_14_method_24_code 110 = .ok (.aload_n 0, 1) := by decide +kernel
theorem dModel_readTown_111 : decode prog_14_method_24_code 111 = .ok (.aload_n 0, 1) := by decide +kernel
theorem dModel_readTown_112 : decode prog_14_method_24_code 112 = .ok (.ldc2_w 41, 3) := by decide +kernel
theorem dModel_readTown_115 : decode prog_14_method_24_code 115 = .ok (.invokevirtual 178, 3) := by decide +kernel
theorem dModel_readTown_118 : decode prog_14_method_24_code 118 = .ok (.invokevirtual 196, 3) := by decide +kernel
theorem dModel_readTown_121 : decode prog_14_method_24_code 121 = .ok (.aload_n 0, 1) := by decide +kernel
theorem dModel_readTown_122 : decode prog_14_method_24_code 122 = .ok (.getfield 263, 3) := by decide +kernel
theorem dModel_readTown_125 : decode prog_14_method_24_code 125 = .ok (.iload_n 1, 1) := by decide +kernel
theorem dModel_readTown_126 : decode prog_14_method_24_code 126 = .ok (.aload_n 0, 1) := by decide +kernel
theorem dModel_readTown_127 : decode prog_14_method_24_code 127 = .ok (.iconst 0, 1) := by decide +kernel
theorem dModel_readTown_128 : decode prog_14_method_24_code 128 = .ok (.sipush 999, 3) := by decide +kernel
theorem dModel_readTown_131 : decode prog_14_method_24_code 131 = .ok (.invokevirtual 212, 3) := by decide +kernel
theorem dModel_readTown_134 : decode prog_14_method_24_code 134 = .ok (.iastore, 1) := by decide +kernel
theorem dModel_readTown_135 : decode prog_14_method_24_code 135 = .ok (.aload_n 0, 1) := by decide +kernel
theorem dModel_readTown_136 : decode prog_14_method_24_code 136 = .ok (.aload_n 0, 1) := by decide +kernel
theorem dModel_readTown_137 : decode prog_14_method_24_code 137 = .ok (.ldc2_w 43, 3) := by decide +kernel
theorem dModel_readTown_140 : decode prog_14_method_24_code 140 = .ok (.invokevirtual 178, 3) := by decide +kernel
theorem dModel_readTown_143 : decode prog_14_method_24_code 143 = .ok (.invokevirtual 196, 3) := by decide +kernel
theorem dModel_readTown_146 : decode prog_14_method_24_code 146 = .ok (.aload_n 0, 1) := by decide +kernel
theorem dModel_readTown_147 : decode prog_14_method_24_code 147 = .ok (.getfield 266, 3) := by decide +kernel
theorem dModel_readTown_150 : decode prog_14_method_24_code 150 = .ok (.iload_n 1, 1) := by decide +kernel
theorem dModel_readTown_151 : decode prog_14_method_24_code 151 = .ok (.aload_n 0, 1) := by decide +kernel
theorem dModel_readTown_152 : decode prog_14_method_24_code 152 = .ok (.iconst 1, 1) := by decide +kernel
theorem dModel_readTown_153 : decode prog_14_method_24_code 153 = .ok (.bipush 99, 2) := by decide +kernel
theorem dModel_readTown_155 : decode prog_14_method_24_code 155 = .ok (.invokevirtual 212, 3) := by decide +kernel
theorem dModel_readTown_158 : decode prog_14_method_24_code 158 = .ok (.iastore, 1) := by decide +kernel
theorem dModel_readTown_159 : decode prog_14_method_24_code 159 = .ok (.aload_n 0, 1) := by decide +kernel
theorem dModel_readTown_160 : decode prog_14_method_24_code 160 = .ok (.invokevirtual 126, 3) := by decide +kernel
theorem dModel_readTown_163 : decode prog_14_method_24_code 163 = .ok (.ifCond .eq 16, 3) := by decide +kernel
theorem dModel_readTown_166 : decode prog_14_method_24_code 166 = .ok (.aload_n 0, 1) := by decide +kernel
theorem dModel_readTown_167 : decode prog_14_method_24_code 167 = .ok (.getfield 163, 3) := by decide +kernel
theorem dModel_readTown_170 : decode prog_14_method_24_code 170 = .ok (.aload_n 0, 1) := by decide +kernel
theorem dModel_readTown_171 : decode prog_14_method_24_code 171 = .ok (.getfield 150, 3) := by decide +kernel
theorem dModel_readTown_174 : decode prog_14_method_24_code 174 = .ok (.dup2, 1) := by decide +kernel
theorem dModel_readTown_175 : decode prog_14_method_24_code 175 = .ok (.iaload, 1) := by decide +kernel
theorem dModel_readTown_176 : decode prog_14_method_24_code 176 = .ok (.iconst 1, 1) := by decide +kernel
theorem dModel_readTown_177 : decode prog_14_method_24_code 177 = .ok (.iadd, 1) := by decide +kernel
theorem dModel_readTown_178 : decode prog_14_method_24_code 178 = .ok (.iastore, 1) := by decide +kernel
theorem dModel_readTown_179 : decode prog_14_method_24_code 179 = .ok (.return_, 1) := by decide +kernel
theorem dModel_fault_0 : decode prog_14_method_25_code 0 = .ok (.iload_n 1, 1) := by decide +kernel
theorem dModel_fault_1 : decode prog_14_method_25_code 1 = .ok (.ifCond .ne 10, 3) := by decide +kernel
theorem dModel_fault_4 : decode prog_14_method_25_code 4 = .ok (.aload_n 0, 1) := by decide +kernel
theorem dModel_fault_5 : decode prog_14_method_25_code 5 = .ok (.getfield 11, 3) := by decide +kernel
theorem dModel_fault_8 : decode prog_14_method_25_code 8 = .ok (.goto 16, 3) := by decide +kernel
theorem dModel_fault_11 : decode prog_14_method_25_code 11 = .ok (.iload_n 1, 1) := by decide +kernel
theorem dModel_fault_12 : decode prog_14_method_25_code 12 = .ok (.iconst 1, 1) := by decide +kernel
theorem dModel_fault_13 : decode prog_14_method_25_code 13 = .ok (.if_icmp .ne 10, 3) := by decide +kernel
theorem dModel_fault_16 : decode prog_14_method_25_code 16 = .ok (.aload_n 0, 1) := by decide +kernel
theorem dModel_fault_17 : decode prog_14_method_25_code 17 = .ok (.getfield 14, 3) := by decide +kernel
theorem dModel_fault_20 : decode prog_14_method_25_code 20 = .ok (.goto 4, 3) := by decide +kernel
theorem dModel_fault_23 : decode prog_14_method_25_code 23 = .ok (.iconst (-1), 1) := by decide +kernel
theorem dModel_fault_24 : decode prog_14_method_25_code 24 = .ok (.ireturn, 1) := by decide +kernel
theorem dModel_measure_0 : decode prog_14_method_26_code 0 = .ok (.iconst 0, 1) := by decide +kernel
theorem dModel_measure_1 : decode prog_14_method_26_code 1 = .ok (.istore_n 1, 1) := by decide +kernel
theorem dModel_measure_2 : decode prog_14_method_26_code 2 = .ok (.iload_n 1, 1) := by decide +kernel
theorem dModel_measure_3 : decode prog_14_method_26_code 3 = .ok (.sipush 256, 3) := by decide +kernel
theorem dModel_measure_6 : decode prog_14_method_26_code 6 = .ok (.if_icmp .ge 33, 3) := by decide +kernel
theorem dModel_measure_9 : decode prog_14_method_26_code 9 = .ok (.aload_n 0, 1) := by decide +kernel
theorem dModel_measure_10 : decode prog_14_method_26_code 10 = .ok (.getfield 269, 3) := by decide +kernel
theorem dModel_measure_13 : decode prog_14_method_26_code 13 = .ok (.iload_n 1, 1) := by decide +kernel
theorem dModel_measure_14 : decode prog_14_method_26_code 14 = .ok (.iload_n 1, 1) := by decide +kernel
theorem dModel_measure_15 : decode prog_14_method_26_code 15 = .ok (.bipush 16, 2) := by decide +kernel
theorem dModel_measure_17 : decode prog_14_method_26_code 17 = .ok (.idiv, 1) := by decide +kernel
theorem dModel_measure_18 : decode prog_14_method_26_code 18 = .ok (.iload_n 1, 1) := by decide +kernel
theorem dModel_measure_19 : decode prog_14_method_26_code 19 = .ok (.bipush 16, 2) := by decide +kernel
theorem dModel_measure_21 : decode prog_14_method_26_code 21 = .ok (.irem, 1) := by decide +kernel
theorem dModel_measure_22 : decode prog_14_method_26_code 22 = .ok (.if_icmp .ne 7, 3) := by decide +kernel
theorem dModel_measure_25 : decode prog_14_method_26_code 25 = .ok (.iconst 0, 1) := by decide +kernel
theorem dModel_measure_26 : decode prog_14_method_26_code 26 = .ok (.goto 6, 3) := by decide +kernel
theorem dModel_measure_29 : decode prog_14_method_26_code 29 = .ok (.ldc_w 272, 3) := by decide +kernel
theorem dModel_measure_32 : decode prog_14_method_26_code 32 = .ok (.iastore, 1) := by decide +kernel
theorem dModel_measure_33 : decode prog_14_method_26_code 33 = .ok (.iinc 1 1, 3) := by decide +kernel
theorem dModel_measure_36 : decode prog_14_method_26_code 36 = .ok (.goto (-34), 3) := by decide +kernel
theorem dModel_measure_39 : decode prog_14_method_26_code 39 = .ok (.bipush 24, 2) := by decide +kernel
theorem dModel_measure_41 : decode prog_14_method_26_code 41 = .ok (.aload_n 0, 1) := by decide +kernel
theorem dModel_measure_42 : decode prog_14_method_26_code 42 = .ok (.getfield 147, 3) := by decide +kernel
theorem dModel_measure_45 : decode prog_14_method_26_code 45 = .ok (.imul, 1) := by decide +kernel
theorem dModel_measure_46 : decode prog_14_method_26_code 46 = .ok (.istore_n 1, 1) := by decide +kernel
theorem dModel_measure_47 : decode prog_14_method_26_code 47 = .ok (.iload_n 1, 1) := by decide +kernel
theorem dModel_measure_48 : decode prog_14_method_26_code 48 = .ok (.bipush 24, 2) := by decide +kernel
theorem dModel_measure_50 : decode prog_14_method_26_code 50 = .ok (.aload_n 0, 1) := by decide +kernel
theorem dModel_measure_51 : decode prog_14_method_26_code 51 = .ok (.getfield 147, 3) := by decide +kernel
theorem dModel_measure_54 : decode prog_14_method_26_code 54 = .ok (.imul, 1) := by decide +kernel
theorem dModel_measure_55 : decode prog_14_method_26_code 55 = .ok (.aload_n 0, 1) := by decide +kernel
theorem dModel_measure_56 : decode prog_14_method_26_code 56 = .ok (.getfield 153, 3) := by decide +kernel
theorem dModel_measure_59 : decode prog_14_method_26_code 59 = .ok (.aload_n 0, 1) := by decide +kernel
theorem dModel_measure_60 : decode prog_14_method_26_code 60 = .ok (.getfield 147, 3) := by decide +kernel
theorem dModel_measure_63 : decode prog_14_method_26_code 63 = .ok (.iaload, 1) := by decide +kernel
theorem dModel_measure_64 : decode prog_14_method_26_code 64 = .ok (.iadd, 1) := by decide +kernel
theorem dModel_measure_65 : decode prog_14_method_26_code 65 = .ok (.if_icmp .ge 96, 3) := by decide +kernel
theorem dModel_measure_68 : decode prog_14_method_26_code 68 = .ok (.aload_n 0, 1) := by decide +kernel
theorem dModel_measure_69 : decode prog_14_method_26_code 69 = .ok (.getfield 209, 3) := by decide +kernel
theorem dModel_measure_72 : decode prog_14_method_26_code 72 = .ok (.iload_n 1, 1) := by decide +kernel
theorem dModel_measure_73 : decode prog_14_method_26_code 73 = .ok (.iaload, 1) := by decide +kernel
theorem dModel_measure_74 : decode prog_14_method_26_code 74 = .ok (.aload_n 0, 1) := by decide +kernel
theorem dModel_measure_75 : decode prog_14_method_26_code 75 = .ok (.getfield 269, 3) := by decide +kernel
theorem dModel_measure_78 : decode prog_14_method_26_code 78 = .ok (.bipush 16, 2) := by decide +kernel
theorem dModel_measure_80 : decode prog_14_method_26_code 80 = .ok (.aload_n 0, 1) := by decide +kernel
theorem dModel_measure_81 : decode prog_14_method_26_code 81 = .ok (.getfield 199, 3) := by decide +kernel
theorem dModel_measure_84 : decode prog_14_method_26_code 84 = .ok (.iload_n 1, 1) := by decide +kernel
theorem dModel_measure_85 : decode prog_14_method_26_code 85 = .ok (.iaload, 1) := by decide +kernel
theorem dModel_measure_86 : decode prog_14_method_26_code 86 = .ok (.imul, 1) := by decide +kernel
theorem dModel_measure_87 : decode prog_14_method_26_code 87 = .ok (.aload_n 0, 1) := by decide +kernel
theorem dModel_measure_88 : decode prog_14_method_26_code 88 = .ok (.getfield 206, 3) := by decide +kernel
theorem dModel_measure_91 : decode prog_14_method_26_code 91 = .ok (.iload_n 1, 1) := by decide +kernel
theorem dModel_measure_92 : decode prog_14_method_26_code 92 = .ok (.iaload, 1) := by decide +kernel
theorem dModel_measure_93 : decode prog_14_method_26_code 93 = .ok (.iadd, 1) := by decide +kernel
theorem dModel_measure_94 : decode prog_14_method_26_code 94 = .ok (.iaload, 1) := by decide +kernel
theorem dModel_measure_95 : decode prog_14_method_26_code 95 = .ok (.if_icmp .lt 6, 3) := by decide +kernel
theorem dModel_measure_98 : decode prog_14_method_26_code 98 = .ok (.goto 57, 3) := by decide +kernel
theorem dModel_measure_101 : decode prog_14_method_26_code 101 = .ok (.aload_n 0, 1) := by decide +kernel
theorem dModel_measure_102 : decode prog_14_method_26_code 102 = .ok (.getfield 269, 3) := by decide +kernel
theorem dModel_measure_105 : decode prog_14_method_26_code 105 = .ok (.bipush 16, 2) := by decide +kernel
theorem dModel_measure_107 : decode prog_14_method_26_code 107 = .ok (.aload_n 0, 1) := by decide +kernel
theorem dModel_measure_108 : decode prog_14_method_26_code 108 = .ok (.getfield 199, 3) := by decide +kernel
theorem dModel_measure_111 : decode prog_14_method_26_code 111 = .ok (.iload_n 1, 1) := by decide +kernel
theorem dModel_measure_112 : decode prog_14_method_26_code 112 = .ok (.iaload, 1) := by decide +kernel
theorem dModel_measure_113 : decode prog_14_method_26_code 113 = .ok (.imul, 1) := by decide +kernel
theorem dModel_measure_114 : decode prog_14_method_26_code 114 = .ok (.aload_n 0, 1) := by decide +kernel
theorem dModel_measure_115 : decode prog_14_method_26_code 115 = .ok (.getfield 206, 3) := by decide +kernel
theorem dModel_measure_118 : decode prog_14_method_26_code 118 = .ok (.iload_n 1, 1) := by decide +kernel
theorem dModel_measure_119 : decode prog_14_method_26_code 119 = .ok (.iaload, 1) := by decide +kernel
theorem dModel_measure_120 : decode prog_14_method_26_code 120 = .ok (.iadd, 1) := by decide +kernel
theorem dModel_measure_121 : decode prog_14_method_26_code 121 = .ok (.aload_n 0, 1) := by decide +kernel
theorem dModel_measure_122 : decode prog_14_method_26_code 122 = .ok (.getfield 209, 3) := by decide +kernel
theorem dModel_measure_125 : decode prog_14_method_26_code 125 = .ok (.iload_n 1, 1) := by decide +kernel
theorem dModel_measure_126 : decode prog_14_method_26_code 126 = .ok (.iaload, 1) := by decide +kernel
theorem dModel_measure_127 : decode prog_14_method_26_code 127 = .ok (.iastore, 1) := by decide +kernel
theorem dModel_measure_128 : decode prog_14_method_26_code 128 = .ok (.aload_n 0, 1) := by decide +kernel
theorem dModel_measure_129 : decode prog_14_method_26_code 129 = .ok (.getfield 269, 3) := by decide +kernel
theorem dModel_measure_132 : decode prog_14_method_26_code 132 = .ok (.bipush 16, 2) := by decide +kernel
theorem dModel_measure_134 : decode prog_14_method_26_code 134 = .ok (.aload_n 0, 1) := by decide +kernel
theorem dModel_measure_135 : decode prog_14_method_26_code 135 = .ok (.getfield 206, 3) := by decide +kernel
theorem dModel_measure_138 : decode prog_14_method_26_code 138 = .ok (.iload_n 1, 1) := by decide +kernel
theorem dModel_measure_139 : decode prog_14_method_26_code 139 = .ok (.iaload, 1) := by decide +kernel
theorem dModel_measure_140 : decode prog_14_method_26_code 140 = .ok (.imul, 1) := by decide +kernel
theorem dModel_measure_141 : decode prog_14_method_26_code 141 = .ok (.aload_n 0, 1) := by decide +kernel
theorem dModel_measure_142 : decode prog_14_method_26_code 142 = .ok (.getfield 199, 3) := by decide +kernel
theorem dModel_measure_145 : decode prog_14_method_26_code 145 = .ok (.iload_n 1, 1) := by decide +kernel
theorem dModel_measure_146 : decode prog_14_method_26_code 146 = .ok (.iaload, 1) := by decide +kernel
theorem dModel_measure_147 : decode prog_14_method_26_code 147 = .ok (.iadd, 1) := by decide +kernel
theorem dModel_measure_148 : decode prog_14_method_26_code 148 = .ok (.aload_n 0, 1) := by decide +kernel
theorem dModel_measure_149 : decode prog_14_method_26_code 149 = .ok (.getfield 209, 3) := by decide +kernel
theorem dModel_measure_152 : decode prog_14_method_26_code 152 = .ok (.iload_n 1, 1) := by decide +kernel
theorem dModel_measure_153 : decode prog_14_method_26_code 153 = .ok (.iaload, 1) := by decide +kernel
theorem dModel_measure_154 : decode prog_14_method_26_code 154 = .ok (.iastore, 1) := by decide +kernel
theorem dModel_measure_155 : decode prog_14_method_26_code 155 = .ok (.iinc 1 1, 3) := by decide +kernel
theorem dModel_measure_158 : decode prog_14_method_26_code 158 = .ok (.goto (-111), 3) := by decide +kernel
theorem dModel_measure_161 : decode prog_14_method_26_code 161 = .ok (.iconst 0, 1) := by decide +kernel
theorem dModel_measure_162 : decode prog_14_method_26_code 162 = .ok (.istore_n 1, 1) := by decide +kernel
theorem dModel_measure_163 : decode prog_14_method_26_code 163 = .ok (.iload_n 1, 1) := by decide +kernel
theorem dModel_measure_164 : decode prog_14_method_26_code 164 = .ok (.bipush 16, 2) := by decide +kernel
theorem dModel_measure_166 : decode prog_14_method_26_code 166 = .ok (.if_icmp .ge 91, 3) := by decide +kernel
theorem dModel_measure_169 : decode prog_14_method_26_code 169 = .ok (.iconst 0, 1) := by decide +kernel
theorem dModel_measure_170 : decode prog_14_method_26_code 170 = .ok (.istore_n 2, 1) := by decide +kernel
theorem dModel_measure_171 : decode prog_14_method_26_code 171 = .ok (.iload_n 2, 1) := by decide +kernel
theorem dModel_measure_172 : decode prog_14_method_26_code 172 = .ok (.bipush 16, 2) := by decide +kernel
theorem dModel_measure_174 : decode prog_14_method_26_code 174 = .ok (.if_icmp .ge 77, 3) := by decide +kernel
theorem dModel_measure_177 : decode prog_14_method_26_code 177 = .ok (.iconst 0, 1) := by decide +kernel
theorem dModel_measure_178 : decode prog_14_method_26_code 178 = .ok (.istore_n 3, 1) := by decide +kernel
theorem dModel_measure_179 : decode prog_14_method_26_code 179 = .ok (.iload_n 3, 1) := by decide +kernel
theorem dModel_measure_180 : decode prog_14_method_26_code 180 = .ok (.bipush 16, 2) := by decide +kernel
theorem dModel_measure_182 : decode prog_14_method_26_code 182 = .ok (.if_icmp .ge 63, 3) := by decide +kernel
theorem dModel_measure_185 : decode prog_14_method_26_code 185 = .ok (.aload_n 0, 1) := by decide +kernel
theorem dModel_measure_186 : decode prog_14_method_26_code 186 = .ok (.getfield 269, 3) := by decide +kernel
theorem dModel_measure_189 : decode prog_14_method_26_code 189 = .ok (.bipush 16, 2) := by decide +kernel
theorem dModel_measure_191 : decode prog_14_method_26_code 191 = .ok (.iload_n 2, 1) := by decide +kernel
theorem dModel_measure_192 : decode prog_14_method_26_code 192 = .ok (.imul, 1) := by decide +kernel
theorem dModel_measure_193 : decode prog_14_method_26_code 193 = .ok (.iload_n 1, 1) := by decide +kernel
theorem dModel_measure_194 : decode prog_14_method_26_code 194 = .ok (.iadd, 1) := by decide +kernel
theorem dModel_measure_195 : decode prog_14_method_26_code 195 = .ok (.iaload, 1) := by decide +kernel
theorem dModel_measure_196 : decode prog_14_method_26_code 196 = .ok (.aload_n 0, 1) := by decide +kernel
theorem dModel_measure_197 : decode prog_14_method_26_code 197 = .ok (.getfield 269, 3) := by decide +kernel
theorem dModel_measure_200 : decode prog_14_method_26_code 200 = .ok (.bipush 16, 2) := by decide +kernel
theorem dModel_measure_202 : decode prog_14_method_26_code 202 = .ok (.iload_n 1, 1) := by decide +kernel
theorem dModel_measure_203 : decode prog_14_method_26_code 203 = .ok (.imul, 1) := by decide +kernel
theorem dModel_measure_204 : decode prog_14_method_26_code 204 = .ok (.iload_n 3, 1) := by decide +kernel
theorem dModel_measure_205 : decode prog_14_method_26_code 205 = .ok (.iadd, 1) := by decide +kernel
theorem dModel_measure_206 : decode prog_14_method_26_code 206 = .ok (.iaload, 1) := by decide +kernel
theorem dModel_measure_207 : decode prog_14_method_26_code 207 = .ok (.iadd, 1) := by decide +kernel
theorem dModel_measure_208 : decode prog_14_method_26_code 208 = .ok (.istore 4, 2) := by decide +kernel
theorem dModel_measure_210 : decode prog_14_method_26_code 210 = .ok (.iload 4, 2) := by decide +kernel
theorem dModel_measure_212 : decode prog_14_method_26_code 212 = .ok (.aload_n 0, 1) := by decide +kernel
theorem dModel_measure_213 : decode prog_14_method_26_code 213 = .ok (.getfield 269, 3) := by decide +kernel
theorem dModel_measure_216 : decode prog_14_method_26_code 216 = .ok (.bipush 16, 2) := by decide +kernel
theorem dModel_measure_218 : decode prog_14_method_26_code 218 = .ok (.iload_n 2, 1) := by decide +kernel
theorem dModel_measure_219 : decode prog_14_method_26_code 219 = .ok (.imul, 1) := by decide +kernel
theorem dModel_measure_220 : decode prog_14_method_26_code 220 = .ok (.iload_n 3, 1) := by decide +kernel
theorem dModel_measure_221 : decode prog_14_method_26_code 221 = .ok (.iadd, 1) := by decide +kernel
theorem dModel_measure_222 : decode prog_14_method_26_code 222 = .ok (.iaload, 1) := by decide +kernel
theorem dModel_measure_223 : decode prog_14_method_26_code 223 = .ok (.if_icmp .ge 16, 3) := by decide +kernel
theorem dModel_measure_226 : decode prog_14_method_26_code 226 = .ok (.aload_n 0, 1) := by decide +kernel
theorem dModel_measure_227 : decode prog_14_method_26_code 227 = .ok (.getfield 269, 3) := by decide +kernel
theorem dModel_measure_230 : decode prog_14_method_26_code 230 = .ok (.bipush 16, 2) := by decide +kernel
theorem dModel_measure_232 : decode prog_14_method_26_code 232 = .ok (.iload_n 2, 1) := by decide +kernel
theorem dModel_measure_233 : decode prog_14_method_26_code 233 = .ok (.imul, 1) := by decide +kernel
theorem dModel_measure_234 : decode prog_14_method_26_code 234 = .ok (.iload_n 3, 1) := by decide +kernel
theorem dModel_measure_235 : decode prog_14_method_26_code 235 = .ok (.iadd, 1) := by decide +kernel
theorem dModel_measure_236 : decode prog_14_method_26_code 236 = .ok (.iload 4, 2) := by decide +kernel
theorem dModel_measure_238 : decode prog_14_method_26_code 238 = .ok (.iastore, 1) := by decide +kernel
theorem dModel_measure_239 : decode prog_14_method_26_code 239 = .ok (.iinc 3 1, 3) := by decide +kernel
theorem dModel_measure_242 : decode prog_14_method_26_code 242 = .ok (.goto (-63), 3) := by decide +kernel
theorem dModel_measure_245 : decode prog_14_method_26_code 245 = .ok (.iinc 2 1, 3) := by decide +kernel
theorem dModel_measure_248 : decode prog_14_method_26_code 248 = .ok (.goto (-77), 3) := by decide +kernel
theorem dModel_measure_251 : decode prog_14_method_26_code 251 = .ok (.iinc 1 1, 3) := by decide +kernel
theorem dModel_measure_254 : decode prog_14_method_26_code 254 = .ok (.goto (-91), 3) := by decide +kernel
theorem dModel_measure_257 : decode prog_14_method_26_code 257 = .ok (.return_, 1) := by decide +kernel
theorem dModel_isPoint_0 : decode prog_14_method_27_code 0 = .ok (.iload_n 0, 1) := by decide +kernel
theorem dModel_isPoint_1 : decode prog_14_method_27_code 1 = .ok (.ifCond .lt 13, 3) := by decide +kernel
theorem dModel_isPoint_4 : decode prog_14_method_27_code 4 = .ok (.iload_n 0, 1) := by decide +kernel
theorem dModel_isPoint_5 : decode prog_14_method_27_code 5 = .ok (.bipush 16, 2) := by decide +kernel
theorem dModel_isPoint_7 : decode prog_14_method_27_code 7 = .ok (.if_icmp .ge 7, 3) := by decide +kernel
theorem dModel_isPoint_10 : decode prog_14_method_27_code 10 = .ok (.iconst 1, 1) := by decide +kernel
theorem dModel_isPoint_11 : decode prog_14_method_27_code 11 = .ok (.goto 4, 3) := by decide +kernel
theorem dModel_isPoint_14 : decode prog_14_method_27_code 14 = .ok (.iconst 0, 1) := by decide +kernel
theorem dModel_isPoint_15 : decode prog_14_method_27_code 15 = .ok (.ireturn, 1) := by decide +kernel
theorem dModel_days_0 : decode prog_14_method_28_code 0 = .ok (.iload_n 1, 1) := by decide +kernel
theorem dModel_days_1 : decode prog_14_method_28_code 1 = .ok (.invokestatic 273, 3) := by decide +kernel
theorem dModel_days_4 : decode prog_14_method_28_code 4 = .ok (.ifCond .eq 27, 3) := by decide +kernel
theorem dModel_days_7 : decode prog_14_method_28_code 7 = .ok (.iload_n 2, 1) := by decide +kernel
theorem dModel_days_8 : decode prog_14_method_28_code 8 = .ok (.invokestatic 273, 3) := by decide +kernel
theorem dModel_days_11 : decode prog_14_method_28_code 11 = .ok (.ifCond .eq 20, 3) := by decide +kernel
theorem dModel_days_14 : decode prog_14_method_28_code 14 = .ok (.aload_n 0, 1) := by decide +kernel
theorem dModel_days_15 : decode prog_14_method_28_code 15 = .ok (.getfield 269, 3) := by decide +kernel
theorem dModel_days_18 : decode prog_14_method_28_code 18 = .ok (.bipush 16, 2) := by decide +kernel
theorem dModel_days_20 : decode prog_14_method_28_code 20 = .ok (.iload_n 1, 1) := by decide +kernel
theorem dModel_days_21 : decode prog_14_method_28_code 21 = .ok (.imul, 1) := by decide +kernel
theorem dModel_days_22 : decode prog_14_method_28_code 22 = .ok (.iload_n 2, 1) := by decide +kernel
theorem dModel_days_23 : decode prog_14_method_28_code 23 = .ok (.iadd, 1) := by decide +kernel
theorem dModel_days_24 : decode prog_14_method_28_code 24 = .ok (.iaload, 1) := by decide +kernel
theorem dModel_days_25 : decode prog_14_method_28_code 25 = .ok (.ldc_w 272, 3) := by decide +kernel
theorem dModel_days_28 : decode prog_14_method_28_code 28 = .ok (.if_icmp .lt 7, 3) := by decide +kernel
theorem dModel_days_31 : decode prog_14_method_28_code 31 = .ok (.iconst (-1), 1) := by decide +kernel
theorem dModel_days_32 : decode prog_14_method_28_code 32 = .ok (.goto 14, 3) := by decide +kernel
theorem dModel_days_35 : decode prog_14_method_28_code 35 = .ok (.aload_n 0, 1) := by decide +kernel
theorem dModel_days_36 : decode prog_14_method_28_code 36 = .ok (.getfield 269, 3) := by decide +kernel
theorem dModel_days_39 : decode prog_14_method_28_code 39 = .ok (.bipush 16, 2) := by decide +kernel
theorem dModel_days_41 : decode prog_14_method_28_code 41 = .ok (.iload_n 1, 1) := by decide +kernel
theorem dModel_days_42 : decode prog_14_method_28_code 42 = .ok (.imul, 1) := by decide +kernel
theorem dModel_days_43 : decode prog_14_method_28_code 43 = .ok (.iload_n 2, 1) := by decide +kernel
theorem dModel_days_44 : decode prog_14_method_28_code 44 = .ok (.iadd, 1) := by decide +kernel
theorem dModel_days_45 : decode prog_14_method_28_code 45 = .ok (.iaload, 1) := by decide +kernel
theorem dModel_days_46 : decode prog_14_method_28_code 46 = .ok (.ireturn, 1) := by decide +kernel
theorem dModel_forts_0 : decode prog_14_method_29_code 0 = .ok (.aload_n 0, 1) := by decide +kernel
theorem dModel_forts_1 : decode prog_14_method_29_code 1 = .ok (.getfield 157, 3) := by decide +kernel
theorem dModel_forts_4 : decode prog_14_method_29_code 4 = .ok (.aload_n 0, 1) := by decide +kernel
theorem dModel_forts_5 : decode prog_14_method_29_code 5 = .ok (.getfield 147, 3) := by decide +kernel
theorem dModel_forts_8 : decode prog_14_method_29_code 8 = .ok (.iaload, 1) := by decide +kernel
theorem dModel_forts_9 : decode prog_14_method_29_code 9 = .ok (.ireturn, 1) := by decide +kernel
theorem dModel_pans_0 : decode prog_14_method_30_code 0 = .ok (.aload_n 0, 1) := by decide +kernel
theorem dModel_pans_1 : decode prog_14_method_30_code 1 = .ok (.getfield 160, 3) := by decide +kernel
theorem dModel_pans_4 : decode prog_14_method_30_code 4 = .ok (.aload_n 0, 1) := by decide +kernel
theorem dModel_pans_5 : decode prog_14_method_30_code 5 = .ok (.getfield 147, 3) := by decide +kernel
theorem dModel_pans_8 : decode prog_14_method_30_code 8 = .ok (.iaload, 1) := by decide +kernel
theorem dModel_pans_9 : decode prog_14_method_30_code 9 = .ok (.ireturn, 1) := by decide +kernel
theorem dModel_towns_0 : decode prog_14_method_31_code 0 = .ok (.aload_n 0, 1) := by decide +kernel
theorem dModel_towns_1 : decode prog_14_method_31_code 1 = .ok (.getfield 163, 3) := by decide +kernel
theorem dModel_towns_4 : decode prog_14_method_31_code 4 = .ok (.aload_n 0, 1) := by decide +kernel
theorem dModel_towns_5 : decode prog_14_method_31_code 5 = .ok (.getfield 147, 3) := by decide +kernel
theorem dModel_towns_8 : decode prog_14_method_31_code 8 = .ok (.iaload, 1) := by decide +kernel
theorem dModel_towns_9 : decode prog_14_method_31_code 9 = .ok (.ireturn, 1) := by decide +kernel
theorem dModel_fortAt_0 : decode prog_14_method_32_code 0 = .ok (.aload_n 0, 1) := by decide +kernel
theorem dModel_fortAt_1 : decode prog_14_method_32_code 1 = .ok (.getfield 233, 3) := by decide +kernel
theorem dModel_fortAt_4 : decode prog_14_method_32_code 4 = .ok (.iconst 3, 1) := by decide +kernel
theorem dModel_fortAt_5 : decode prog_14_method_32_code 5 = .ok (.aload_n 0, 1) := by decide +kernel
theorem dModel_fortAt_6 : decode prog_14_method_32_code 6 = .ok (.getfield 147, 3) := by decide +kernel
theorem dModel_fortAt_9 : decode prog_14_method_32_code 9 = .ok (.imul, 1) := by decide +kernel
theorem dModel_fortAt_10 : decode prog_14_method_32_code 10 = .ok (.iload_n 1, 1) := by decide +kernel
theorem dModel_fortAt_11 : decode prog_14_method_32_code 11 = .ok (.iadd, 1) := by decide +kernel
theorem dModel_fortAt_12 : decode prog_14_method_32_code 12 = .ok (.iaload, 1) := by decide +kernel
theorem dModel_fortAt_13 : decode prog_14_method_32_code 13 = .ok (.ireturn, 1) := by decide +kernel
theorem dModel_panAt_0 : decode prog_14_method_33_code 0 = .ok (.aload_n 0, 1) := by decide +kernel
theorem dModel_panAt_1 : decode prog_14_method_33_code 1 = .ok (.getfield 242, 3) := by decide +kernel
theorem dModel_panAt_4 : decode prog_14_method_33_code 4 = .ok (.iconst 3, 1) := by decide +kernel
theorem dModel_panAt_5 : decode prog_14_method_33_code 5 = .ok (.aload_n 0, 1) := by decide +kernel
theorem dModel_panAt_6 : decode prog_14_method_33_code 6 = .ok (.getfield 147, 3) := by decide +kernel
theorem dModel_panAt_9 : decode prog_14_method_33_code 9 = .ok (.imul, 1) := by decide +kernel
theorem dModel_panAt_10 : decode prog_14_method_33_code 10 = .ok (.iload_n 1, 1) := by decide +kernel
theorem dModel_panAt_11 : decode prog_14_method_33_code 11 = .ok (.iadd, 1) := by decide +kernel
theorem dModel_panAt_12 : decode prog_14_method_33_code 12 = .ok (.iaload, 1) := by decide +kernel
theorem dModel_panAt_13 : decode prog_14_method_33_code 13 = .ok (.ireturn, 1) := by decide +kernel
theorem dModel_townAt_0 : decode prog_14_method_34_code 0 = .ok (.aload_n 0, 1) := by decide +kernel
theorem dModel_townAt_1 : decode prog_14_method_34_code 1 = .ok (.getfield 251, 3) := by decide +kernel
theorem dModel_townAt_4 : decode prog_14_method_34_code 4 = .ok (.iconst 5, 1) := by decide +kernel
theorem dModel_townAt_5 : decode prog_14_method_34_code 5 = .ok (.aload_n 0, 1) := by decide +kernel
theorem dModel_townAt_6 : decode prog_14_method_34_code 6 = .ok (.getfield 147, 3) := by decide +kernel
theorem dModel_townAt_9 : decode prog_14_method_34_code 9 = .ok (.imul, 1) := by decide +kernel
theorem dModel_townAt_10 : decode prog_14_method_34_code 10 = .ok (.iload_n 1, 1) := by decide +kernel
theorem dModel_townAt_11 : decode prog_14_method_34_code 11 = .ok (.iadd, 1) := by decide +kernel
theorem dModel_townAt_12 : decode prog_14_method_34_code 12 = .ok (.iaload, 1) := by decide +kernel
theorem dModel_townAt_13 : decode prog_14_method_34_code 13 = .ok (.ireturn, 1) := by decide +kernel
theorem dModel_reform_0 : decode prog_14_method_35_code 0 = .ok (.aload_n 0, 1) := by decide +kernel
theorem dModel_reform_1 : decode prog_14_method_35_code 1 = .ok (.getfield 137, 3) := by decide +kernel
theorem dModel_reform_4 : decode prog_14_method_35_code 4 = .ok (.sipush 700, 3) := by decide +kernel
theorem dModel_reform_7 : decode prog_14_method_35_code 7 = .ok (.if_icmp .gt 12, 3) := by decide +kernel
theorem dModel_reform_10 : decode prog_14_method_35_code 10 = .ok (.iload_n 1, 1) := by decide +kernel
theorem dModel_reform_11 : decode prog_14_method_35_code 11 = .ok (.ifCond .lt 8, 3) := by decide +kernel
theorem dModel_reform_14 : decode prog_14_method_35_code 14 = .ok (.iload_n 1, 1) := by decide +kernel
theorem dModel_reform_15 : decode prog_14_method_35_code 15 = .ok (.iconst 4, 1) := by decide +kernel
theorem dModel_reform_16 : decode prog_14_method_35_code 16 = .ok (.if_icmp .lt 6, 3) := by decide +kernel
theorem dModel_reform_19 : decode prog_14_method_35_code 19 = .ok (.bipush (-2), 2) := by decide +kernel
theorem dModel_reform_21 : decode prog_14_method_35_code 21 = .ok (.ireturn, 1) := by decide +kernel
theorem dModel_reform_22 : decode prog_14_method_35_code 22 = .ok (.aload_n 0, 1) := by decide +kernel
theorem dModel_reform_23 : decode prog_14_method_35_code 23 = .ok (.iconst 1, 1) := by decide +kernel
theorem dModel_reform_24 : decode prog_14_method_35_code 24 = .ok (.invokevirtual 143, 3) := by decide +kernel
theorem dModel_reform_27 : decode prog_14_method_35_code 27 = .ok (.aload_n 0, 1) := by decide +kernel
theorem dModel_reform_28 : decode prog_14_method_35_code 28 = .ok (.iconst 4, 1) := by decide +kernel
theorem dModel_reform_29 : decode prog_14_method_35_code 29 = .ok (.putfield 276, 3) := by decide +kernel
theorem dModel_reform_32 : decode prog_14_method_35_code 32 = .ok (.aload_n 0, 1) := by decide +kernel
theorem dModel_reform_33 : decode prog_14_method_35_code 33 = .ok (.getfield 279, 3) := by decide +kernel
theorem dModel_reform_36 : decode prog_14_method_35_code 36 = .ok (.aload_n 0, 1) := by decide +kernel
theorem dModel_reform_37 : decode prog_14_method_35_code 37 = .ok (.getfield 276, 3) := by decide +kernel
theorem dModel_reform_40 : decode prog_14_method_35_code 40 = .ok (.iconst 0, 1) := by decide +kernel
theorem dModel_reform_41 : decode prog_14_method_35_code 41 = .ok (.iastore, 1) := by decide +kernel
theorem dModel_reform_42 : decode prog_14_method_35_code 42 = .ok (.aload_n 0, 1) := by decide +kernel
theorem dModel_reform_43 : decode prog_14_method_35_code 43 = .ok (.getfield 282, 3) := by decide +kernel
theorem dModel_reform_46 : decode prog_14_method_35_code 46 = .ok (.aload_n 0, 1) := by decide +kernel
theorem dModel_reform_47 : decode prog_14_method_35_code 47 = .ok (.getfield 276, 3) := by decide +kernel
theorem dModel_reform_50 : decode prog_14_method_35_code 50 = .ok (.iconst 0, 1) := by decide +kernel
theorem dModel_reform_51 : decode prog_14_method_35_code 51 = .ok (.iastore, 1) := by decide +kernel
theorem dModel_reform_52 : decode prog_14_method_35_code 52 = .ok (.iconst 0, 1) := by decide +kernel
theorem dModel_reform_53 : decode prog_14_method_35_code 53 = .ok (.istore_n 2, 1) := by decide +kernel
theorem dModel_reform_54 : decode prog_14_method_35_code 54 = .ok (.iload_n 2, 1) := by decide +kernel
theorem dModel_reform_55 : decode prog_14_method_35_code 55 = .ok (.bipush 10, 2) := by decide +kernel
theorem dModel_reform_57 : decode prog_14_method_35_code 57 = .ok (.if_icmp .ge 24, 3) := by decide +kernel
theorem dModel_reform_60 : decode prog_14_method_35_code 60 = .ok (.aload_n 0, 1) := by decide +kernel
theorem dModel_reform_61 : decode prog_14_method_35_code 61 = .ok (.getfield 285, 3) := by decide +kernel
theorem dModel_reform_64 : decode prog_14_method_35_code 64 = .ok (.bipush 10, 2) := by decide +kernel
theorem dModel_reform_66 : decode prog_14_method_35_code 66 = .ok (.aload_n 0, 1) := by decide +kernel
theorem dModel_reform_67 : decode prog_14_method_35_code 67 = .ok (.getfield 276, 3) := by decide +kernel
theorem dModel_reform_70 : decode prog_14_method_35_code 70 = .ok (.imul, 1) := by decide +kernel
theorem dModel_reform_71 : decode prog_14_method_35_code 71 = .ok (.iload_n 2, 1) := by decide +kernel
theorem dModel_reform_72 : decode prog_14_method_35_code 72 = .ok (.iadd, 1) := by decide +kernel
theorem dModel_reform_73 : decode prog_14_method_35_code 73 = .ok (.iconst (-1), 1) := by decide +kernel
theorem dModel_reform_74 : decode prog_14_method_35_code 74 = .ok (.iastore, 1) := by decide +kernel
theorem dModel_reform_75 : decode prog_14_method_35_code 75 = .ok (.iinc 2 1, 3) := by decide +kernel
theorem dModel_reform_78 : decode prog_14_method_35_code 78 = .ok (.goto (-24), 3) := by decide +kernel
theorem dModel_reform_81 : decode prog_14_method_35_code 81 = .ok (.aload_n 0, 1) := by decide +kernel
theorem dModel_reform_82 : decode prog_14_method_35_code 82 = .ok (.iconst 0, 1) := by decide +kernel
theorem dModel_reform_83 : decode prog_14_method_35_code 83 = .ok (.putfield 288, 3) := by decide +kernel
theorem dModel_reform_86 : decode prog_14_method_35_code 86 = .ok (.aload_n 0, 1) := by decide +kernel
theorem dModel_reform_87 : decode prog_14_method_35_code 87 = .ok (.iconst 0, 1) := by decide +kernel
theorem dModel_reform_88 : decode prog_14_method_35_code 88 = .ok (.putfield 291, 3) := by decide +kernel
theorem dModel_reform_91 : decode prog_14_method_35_code 91 = .ok (.aload_n 0, 1) := by decide +kernel
theorem dModel_reform_92 : decode prog_14_method_35_code 92 = .ok (.invokevirtual 130, 3) := by decide +kernel
theorem dModel_reform_95 : decode prog_14_method_35_code 95 = .ok (.aload_n 0, 1) := by decide +kernel
theorem dModel_reform_96 : decode prog_14_method_35_code 96 = .ok (.invokevirtual 126, 3) := by decide +kernel
theorem dModel_reform_99 : decode prog_14_method_35_code 99 = .ok (.ifCond .eq 17, 3) := by decide +kernel
theorem dModel_reform_102 : decode prog_14_method_35_code 102 = .ok (.aload_n 0, 1) := by decide +kernel
theorem dModel_reform_103 : decode prog_14_method_35_code 103 = .ok (.getfield 98, 3) := by decide +kernel
theorem dModel_reform_106 : decode prog_14_method_35_code 106 = .ok (.ifCond .eq 10, 3) := by decide +kernel
theorem dModel_reform_109 : decode prog_14_method_35_code 109 = .ok (.aload_n 0, 1) := by decide +kernel
theorem dModel_reform_110 : decode prog_14_method_35_code 110 = .ok (.invokevirtual 294, 3) := by decide +kernel
theorem dModel_reform_113 : decode prog_14_method_35_code 113 = .ok (.goto (-18), 3) := by decide +kernel
theorem dModel_reform_116 : decode prog_14_method_35_code 116 = .ok (.aload_n 0, 1) := by decide +kernel
theorem dModel_reform_117 : decode prog_14_method_35_code 117 = .ok (.invokevirtual 126, 3) := by decide +kernel
theorem dModel_reform_120 : decode prog_14_method_35_code 120 = .ok (.ifCond .ne 5, 3) := by decide +kernel
theorem dModel_reform_123 : decode prog_14_method_35_code 123 = .ok (.iconst (-1), 1) := by decide +kernel
theorem dModel_reform_124 : decode prog_14_method_35_code 124 = .ok (.ireturn, 1) := by decide +kernel
theorem dModel_reform_125 : decode prog_14_method_35_code 125 = .ok (.aload_n 0, 1) := by decide +kernel
theorem dModel_reform_126 : decode prog_14_method_35_code 126 = .ok (.aload_n 0, 1) := by decide +kernel
theorem dModel_reform_127 : decode prog_14_method_35_code 127 = .ok (.getfield 276, 3) := by decide +kernel
theorem dModel_reform_130 : decode prog_14_method_35_code 130 = .ok (.iload_n 1, 1) := by decide +kernel
theorem dModel_reform_131 : decode prog_14_method_35_code 131 = .ok (.invokevirtual 297, 3) := by decide +kernel
theorem dModel_reform_134 : decode prog_14_method_35_code 134 = .ok (.aload_n 0, 1) := by decide +kernel
theorem dModel_reform_135 : decode prog_14_method_35_code 135 = .ok (.getfield 282, 3) := by decide +kernel
theorem dModel_reform_138 : decode prog_14_method_35_code 138 = .ok (.iload_n 1, 1) := by decide +kernel
theorem dModel_reform_139 : decode prog_14_method_35_code 139 = .ok (.iaload, 1) := by decide +kernel
theorem dModel_reform_140 : decode prog_14_method_35_code 140 = .ok (.ireturn, 1) := by decide +kernel
theorem dModel_lay_0 : decode prog_14_method_36_code 0 = .ok (.aload_n 0, 1) := by decide +kernel
theorem dModel_lay_1 : decode prog_14_method_36_code 1 = .ok (.getfield 279, 3) := by decide +kernel
theorem dModel_lay_4 : decode prog_14_method_36_code 4 = .ok (.iload_n 2, 1) := by decide +kernel
theorem dModel_lay_5 : decode prog_14_method_36_code 5 = .ok (.aload_n 0, 1) := by decide +kernel
theorem dModel_lay_6 : decode prog_14_method_36_code 6 = .ok (.getfield 279, 3) := by decide +kernel
theorem dModel_lay_9 : decode prog_14_method_36_code 9 = .ok (.iload_n 1, 1) := by decide +kernel
theorem dModel_lay_10 : decode prog_14_method_36_code 10 = .ok (.iaload, 1) := by decide +kernel
theorem dModel_lay_11 : decode prog_14_method_36_code 11 = .ok (.iastore, 1) := by decide +kernel
theorem dModel_lay_12 : decode prog_14_method_36_code 12 = .ok (.aload_n 0, 1) := by decide +kernel
theorem dModel_lay_13 : decode prog_14_method_36_code 13 = .ok (.getfield 282, 3) := by decide +kernel
theorem dModel_lay_16 : decode prog_14_method_36_code 16 = .ok (.iload_n 2, 1) := by decide +kernel
theorem dModel_lay_17 : decode prog_14_method_36_code 17 = .ok (.aload_n 0, 1) := by decide +kernel
theorem dModel_lay_18 : decode prog_14_method_36_code 18 = .ok (.getfield 282, 3) := by decide +kernel
theorem dModel_lay_21 : decode prog_14_method_36_code 21 = .ok (.iload_n 1, 1) := by decide +kernel
theorem dModel_lay_22 : decode prog_14_method_36_code 22 = .ok (.iaload, 1) := by decide +kernel
theorem dModel_lay_23 : decode prog_14_method_36_code 23 = .ok (.iastore, 1) := by decide +kernel
theorem dModel_lay_24 : decode prog_14_method_36_code 24 = .ok (.iconst 0, 1) := by decide +kernel
theorem dModel_lay_25 : decode prog_14_method_36_code 25 = .ok (.istore_n 3, 1) := by decide +kernel
theorem dModel_lay_26 : decode prog_14_method_36_code 26 = .ok (.iload_n 3, 1) := by decide +kernel
theorem dModel_lay_27 : decode prog_14_method_36_code 27 = .ok (.bipush 10, 2) := by decide +kernel
theorem dModel_lay_29 : decode prog_14_method_36_code 29 = .ok (.if_icmp .ge 53, 3) := by decide +kernel
theorem dModel_lay_32 : decode prog_14_method_36_code 32 = .ok (.aload_n 0, 1) := by decide +kernel
theorem dModel_lay_33 : decode prog_14_method_36_code 33 = .ok (.getfield 285, 3) := by decide +kernel
theorem dModel_lay_36 : decode prog_14_method_36_code 36 = .ok (.bipush 10, 2) := by decide +kernel
theorem dModel_lay_38 : decode prog_14_method_36_code 38 = .ok (.iload_n 2, 1) := by decide +kernel
theorem dModel_lay_39 : decode prog_14_method_36_code 39 = .ok (.imul, 1) := by decide +kernel
theorem dModel_lay_40 : decode prog_14_method_36_code 40 = .ok (.iload_n 3, 1) := by decide +kernel
theorem dModel_lay_41 : decode prog_14_method_36_code 41 = .ok (.iadd, 1) := by decide +kernel
theorem dModel_lay_42 : decode prog_14_method_36_code 42 = .ok (.aload_n 0, 1) := by decide +kernel
theorem dModel_lay_43 : decode prog_14_method_36_code 43 = .ok (.getfield 285, 3) := by decide +kernel
theorem dModel_lay_46 : decode prog_14_method_36_code 46 = .ok (.bipush 10, 2) := by decide +kernel
theorem dModel_lay_48 : decode prog_14_method_36_code 48 = .ok (.iload_n 1, 1) := by decide +kernel
theorem dModel_lay_49 : decode prog_14_method_36_code 49 = .ok (.imul, 1) := by decide +kernel
theorem dModel_lay_50 : decode prog_14_method_36_code 50 = .ok (.iload_n 3, 1) := by decide +kernel
theorem dModel_lay_51 : decode prog_14_method_36_code 51 = .ok (.iadd, 1) := by decide +kernel
theorem dModel_lay_52 : decode prog_14_method_36_code 52 = .ok (.iaload, 1) := by decide +kernel
theorem dModel_lay_53 : decode prog_14_method_36_code 53 = .ok (.iastore, 1) := by decide +kernel
theorem dModel_lay_54 : decode prog_14_method_36_code 54 = .ok (.aload_n 0, 1) := by decide +kernel
theorem dModel_lay_55 : decode prog_14_method_36_code 55 = .ok (.getfield 300, 3) := by decide +kernel
theorem dModel_lay_58 : decode prog_14_method_36_code 58 = .ok (.bipush 10, 2) := by decide +kernel
theorem dModel_lay_60 : decode prog_14_method_36_code 60 = .ok (.iload_n 2, 1) := by decide +kernel
theorem dModel_lay_61 : decode prog_14_method_36_code 61 = .ok (.imul, 1) := by decide +kernel
theorem dModel_lay_62 : decode prog_14_method_36_code 62 = .ok (.iload_n 3, 1) := by decide +kernel
theorem dModel_lay_63 : decode prog_14_method_36_code 63 = .ok (.iadd, 1) := by decide +kernel
theorem dModel_lay_64 : decode prog_14_method_36_code 64 = .ok (.aload_n 0, 1) := by decide +kernel
theorem dModel_lay_65 : decode prog_14_method_36_code 65 = .ok (.getfield 300, 3) := by decide +kernel
theorem dModel_lay_68 : decode prog_14_method_36_code 68 = .ok (.bipush 10, 2) := by decide +kernel
theorem dModel_lay_70 : decode prog_14_method_36_code 70 = .ok (.iload_n 1, 1) := by decide +kernel
theorem dModel_lay_71 : decode prog_14_method_36_code 71 = .ok (.imul, 1) := by decide +kernel
theorem dModel_lay_72 : decode prog_14_method_36_code 72 = .ok (.iload_n 3, 1) := by decide +kernel
theorem dModel_lay_73 : decode prog_14_method_36_code 73 = .ok (.iadd, 1) := by decide +kernel
theorem dModel_lay_74 : decode prog_14_method_36_code 74 = .ok (.iaload, 1) := by decide +kernel
theorem dModel_lay_75 : decode prog_14_method_36_code 75 = .ok (.iastore, 1) := by decide +kernel
theorem dModel_lay_76 : decode prog_14_method_36_code 76 = .ok (.iinc 3 1, 3) := by decide +kernel
theorem dModel_lay_79 : decode prog_14_method_36_code 79 = .ok (.goto (-53), 3) := by decide +kernel
theorem dModel_lay_82 : decode prog_14_method_36_code 82 = .ok (.iconst 0, 1) := by decide +kernel
theorem dModel_lay_83 : decode prog_14_method_36_code 83 = .ok (.istore_n 3, 1) := by decide +kernel
theorem dModel_lay_84 : decode prog_14_method_36_code 84 = .ok (.iload_n 3, 1) := by decide +kernel
theorem dModel_lay_85 : decode prog_14_method_36_code 85 = .ok (.sipush 700, 3) := by decide +kernel
theorem dModel_lay_88 : decode prog_14_method_36_code 88 = .ok (.if_icmp .ge 57, 3) := by decide +kernel
theorem dModel_lay_91 : decode prog_14_method_36_code 91 = .ok (.aload_n 0, 1) := by decide +kernel
theorem dModel_lay_92 : decode prog_14_method_36_code 92 = .ok (.getfield 303, 3) := by decide +kernel
theorem dModel_lay_95 : decode prog_14_method_36_code 95 = .ok (.sipush 700, 3) := by decide +kernel
theorem dModel_lay_98 : decode prog_14_method_36_code 98 = .ok (.iload_n 2, 1) := by decide +kernel
theorem dModel_lay_99 : decode prog_14_method_36_code 99 = .ok (.imul, 1) := by decide +kernel
theorem dModel_lay_100 : decode prog_14_method_36_code 100 = .ok (.iload_n 3, 1) := by decide +kernel
theorem dModel_lay_101 : decode prog_14_method_36_code 101 = .ok (.iadd, 1) := by decide +kernel
theorem dModel_lay_102 : decode prog_14_method_36_code 102 = .ok (.aload_n 0, 1) := by decide +kernel
theorem dModel_lay_103 : decode prog_14_method_36_code 103 = .ok (.getfield 303, 3) := by decide +kernel
theorem dModel_lay_106 : decode prog_14_method_36_code 106 = .ok (.sipush 700, 3) := by decide +kernel
theorem dModel_lay_109 : decode prog_14_method_36_code 109 = .ok (.iload_n 1, 1) := by decide +kernel
theorem dModel_lay_110 : decode prog_14_method_36_code 110 = .ok (.imul, 1) := by decide +kernel
theorem dModel_lay_111 : decode prog_14_method_36_code 111 = .ok (.iload_n 3, 1) := by decide +kernel
theorem dModel_lay_112 : decode prog_14_method_36_code 112 = .ok (.iadd, 1) := by decide +kernel
theorem dModel_lay_113 : decode prog_14_method_36_code 113 = .ok (.iaload, 1) := by decide +kernel
theorem dModel_lay_114 : decode prog_14_method_36_code 114 = .ok (.iastore, 1) := by decide +kernel
theorem dModel_lay_115 : decode prog_14_method_36_code 115 = .ok (.aload_n 0, 1) := by decide +kernel
theorem dModel_lay_116 : decode prog_14_method_36_code 116 = .ok (.getfield 306, 3) := by decide +kernel
theorem dModel_lay_119 : decode prog_14_method_36_code 119 = .ok (.sipush 700, 3) := by decide +kernel
theorem dModel_lay_122 : decode prog_14_method_36_code 122 = .ok (.iload_n 2, 1) := by decide +kernel
theorem dModel_lay_123 : decode prog_14_method_36_code 123 = .ok (.imul, 1) := by decide +kernel
theorem dModel_lay_124 : decode prog_14_method_36_code 124 = .ok (.iload_n 3, 1) := by decide +kernel
theorem dModel_lay_125 : decode prog_14_method_36_code 125 = .ok (.iadd, 1) := by decide +kernel
theorem dModel_lay_126 : decode prog_14_method_36_code 126 = .ok (.aload_n 0, 1) := by decide +kernel
theorem dModel_lay_127 : decode prog_14_method_36_code 127 = .ok (.getfield 306, 3) := by decide +kernel
theorem dModel_lay_130 : decode prog_14_method_36_code 130 = .ok (.sipush 700, 3) := by decide +kernel
theorem dModel_lay_133 : decode prog_14_method_36_code 133 = .ok (.iload_n 1, 1) := by decide +kernel
theorem dModel_lay_134 : decode prog_14_method_36_code 134 = .ok (.imul, 1) := by decide +kernel
theorem dModel_lay_135 : decode prog_14_method_36_code 135 = .ok (.iload_n 3, 1) := by decide +kernel
theorem dModel_lay_136 : decode prog_14_method_36_code 136 = .ok (.iadd, 1) := by decide +kernel
theorem dModel_lay_137 : decode prog_14_method_36_code 137 = .ok (.iaload, 1) := by decide +kernel
theorem dModel_lay_138 : decode prog_14_method_36_code 138 = .ok (.iastore, 1) := by decide +kernel
theorem dModel_lay_139 : decode prog_14_method_36_code 139 = .ok (.iinc 3 1, 3) := by decide +kernel
theorem dModel_lay_142 : decode prog_14_method_36_code 142 = .ok (.goto (-58), 3) := by decide +kernel
theorem dModel_lay_145 : decode prog_14_method_36_code 145 = .ok (.return_, 1) := by decide +kernel
theorem dModel_readReform_0 : decode prog_14_method_37_code 0 = .ok (.aload_n 0, 1) := by decide +kernel
theorem dModel_readReform_1 : decode prog_14_method_37_code 1 = .ok (.ldc2_w 45, 3) := by decide +kernel
theorem dModel_readReform_4 : decode prog_14_method_37_code 4 = .ok (.invokevirtual 178, 3) := by decide +kernel
theorem dModel_readReform_7 : decode prog_14_method_37_code 7 = .ok (.ifCond .eq 7, 3) := by decide +kernel
theorem dModel_readReform_10 : decode prog_14_method_37_code 10 = .ok (.iconst 0, 1) := by decide +kernel
theorem dModel_readReform_11 : decode prog_14_method_37_code 11 = .ok (.goto 84, 3) := by decide +kernel
theorem dModel_readReform_14 : decode prog_14_method_37_code 14 = .ok (.aload_n 0, 1) := by decide +kernel
theorem dModel_readReform_15 : decode prog_14_method_37_code 15 = .ok (.ldc2_w 49, 3) := by decide +kernel
theorem dModel_readReform_18 : decode prog_14_method_37_code 18 = .ok (.invokevirtual 178, 3) := by decide +kernel
theorem dModel_readReform_21 : decode prog_14_method_37_code 21 = .ok (.ifCond .eq 7, 3) := by decide +kernel
theorem dModel_readReform_24 : decode prog_14_method_37_code 24 = .ok (.iconst 1, 1) := by decide +kernel
theorem dModel_readReform_25 : decode prog_14_method_37_code 25 = .ok (.goto 70, 3) := by decide +kernel
theorem dModel_readReform_28 : decode prog_14_method_37_code 28 = .ok (.aload_n 0, 1) := by decide +kernel
theorem dModel_readReform_29 : decode prog_14_method_37_code 29 = .ok (.ldc2_w 51, 3) := by decide +kernel
theorem dModel_readReform_32 : decode prog_14_method_37_code 32 = .ok (.invokevirtual 178, 3) := by decide +kernel
theorem dModel_readReform_35 : decode prog_14_method_37_code 35 = .ok (.ifCond .eq 7, 3) := by decide +kernel
theorem dModel_readReform_38 : decode prog_14_method_37_code 38 = .ok (.iconst 2, 1) := by decide +kernel
theorem dModel_readReform_39 : decode prog_14_method_37_code 39 = .ok (.goto 56, 3) := by decide +kernel
theorem dModel_readReform_42 : decode prog_14_method_37_code 42 = .ok (.aload_n 0, 1) := by decide +kernel
theorem dModel_readReform_43 : decode prog_14_method_37_code 43 = .ok (.ldc2_w 53, 3) := by decide +kernel
theorem dModel_readReform_46 : decode prog_14_method_37_code 46 = .ok (.invokevirtual 178, 3) := by decide +kernel
theorem dModel_readReform_49 : decode prog_14_method_37_code 49 = .ok (.ifCond .eq 7, 3) := by decide +kernel
theorem dModel_readReform_52 : decode prog_14_method_37_code 52 = .ok (.iconst 3, 1) := by decide +kernel
theorem dModel_readReform_53 : decode prog_14_method_37_code 53 = .ok (.goto 42, 3) := by decide +kernel
theorem dModel_readReform_56 : decode prog_14_method_37_code 56 = .ok (.aload_n 0, 1) := by decide +kernel
theorem dModel_readReform_57 : decode prog_14_method_37_code 57 = .ok (.ldc2_w 55, 3) := by decide +kernel
theorem dModel_readReform_60 : decode prog_14_method_37_code 60 = .ok (.invokevirtual 178, 3) := by decide +kernel
theorem dModel_readReform_63 : decode prog_14_method_37_code 63 = .ok (.ifCond .eq 7, 3) := by decide +kernel
theorem dModel_readReform_66 : decode prog_14_method_37_code 66 = .ok (.iconst 4, 1) := by decide +kernel
theorem dModel_readReform_67 : decode prog_14_method_37_code 67 = .ok (.goto 28, 3) := by decide +kernel
theorem dModel_readReform_70 : decode prog_14_method_37_code 70 = .ok (.aload_n 0, 1) := by decide +kernel
theorem dModel_readReform_71 : decode prog_14_method_37_code 71 = .ok (.ldc2_w 47, 3) := by decide +kernel
theorem dModel_readReform_74 : decode prog_14_method_37_code 74 = .ok (.invokevirtual 178, 3) := by decide +kernel
theorem dModel_readReform_77 : decode prog_14_method_37_code 77 = .ok (.ifCond .eq 17, 3) := by decide +kernel
theorem dModel_readReform_80 : decode prog_14_method_37_code 80 = .ok (.iconst 5, 1) := by decide +kernel
theorem dModel_readReform_81 : decode prog_14_method_37_code 81 = .ok (.aload_n 0, 1) := by decide +kernel
theorem dModel_readReform_82 : decode prog_14_method_37_code 82 = .ok (.getfield 279, 3) := by decide +kernel
theorem dModel_readReform_85 : decode prog_14_method_37_code 85 = .ok (.aload_n 0, 1) := by decide +kernel
theorem dModel_readReform_86 : decode prog_14_method_37_code 86 = .ok (.getfield 276, 3) := by decide +kernel
theorem dModel_readReform_89 : decode prog_14_method_37_code 89 = .ok (.iaload, 1) := by decide +kernel
theorem dModel_readReform_90 : decode prog_14_method_37_code 90 = .ok (.iadd, 1) := by decide +kernel
theorem dModel_readReform_91 : decode prog_14_method_37_code 91 = .ok (.goto 4, 3) := by decide +kernel
theorem dModel_readReform_94 : decode prog_14_method_37_code 94 = .ok (.iconst (-1), 1) := by decide +kernel
theorem dModel_readReform_95 : decode prog_14_method_37_code 95 = .ok (.istore_n 1, 1) := by decide +kernel
theorem dModel_readReform_96 : decode prog_14_method_37_code 96 = .ok (.iload_n 1, 1) := by decide +kernel
theorem dModel_readReform_97 : decode prog_14_method_37_code 97 = .ok (.ifCond .lt 40, 3) := by decide +kernel
theorem dModel_readReform_100 : decode prog_14_method_37_code 100 = .ok (.iload_n 1, 1) := by decide +kernel
theorem dModel_readReform_101 : decode prog_14_method_37_code 101 = .ok (.bipush 10, 2) := by decide +kernel
theorem dModel_readReform_103 : decode prog_14_method_37_code 103 = .ok (.if_icmp .eq 34, 3) := by decide +kernel
theorem dModel_readReform_106 : decode prog_14_method_37_code 106 = .ok (.aload_n 0, 1) := by decide +kernel
theorem dModel_readReform_107 : decode prog_14_method_37_code 107 = .ok (.getfield 285, 3) := by decide +kernel
theorem dModel_readReform_110 : decode prog_14_method_37_code 110 = .ok (.bipush 10, 2) := by decide +kernel
theorem dModel_readReform_112 : decode prog_14_method_37_code 112 = .ok (.aload_n 0, 1) := by decide +kernel
theorem dModel_readReform_113 : decode prog_14_method_37_code 113 = .ok (.getfield 276, 3) := by decide +kernel
theorem dModel_readReform_116 : decode prog_14_method_37_code 116 = .ok (.imul, 1) := by decide +kernel
theorem dModel_readReform_117 : decode prog_14_method_37_code 117 = .ok (.iload_n 1, 1) := by decide +kernel
theorem dModel_readReform_118 : decode prog_14_method_37_code 118 = .ok (.ifCond .lt 9, 3) := by decide +kernel
theorem dModel_readReform_121 : decode prog_14_method_37_code 121 = .ok (.iload_n 1, 1) := by decide +kernel
theorem dModel_readReform_122 : decode prog_14_method_37_code 122 = .ok (.bipush 10, 2) := by decide +kernel
theorem dModel_readReform_124 : decode prog_14_method_37_code 124 = .ok (.if_icmp .lt 7, 3) := by decide +kernel
theorem dModel_readReform_127 : decode prog_14_method_37_code 127 = .ok (.iconst 0, 1) := by decide +kernel
theorem dModel_readReform_128 : decode prog_14_method_37_code 128 = .ok (.goto 4, 3) := by decide +kernel
theorem dModel_readReform_131 : decode prog_14_method_37_code 131 = .ok (.iload_n 1, 1) := by decide +kernel
theorem dModel_readReform_132 : decode prog_14_method_37_code 132 = .ok (.iadd, 1) := by decide +kernel
theorem dModel_readReform_133 : decode prog_14_method_37_code 133 = .ok (.iaload, 1) := by decide +kernel
theorem dModel_readReform_134 : decode prog_14_method_37_code 134 = .ok (.ifCond .lt 7, 3) := by decide +kernel
theorem dModel_readReform_137 : decode prog_14_method_37_code 137 = .ok (.aload_n 0, 1) := by decide +kernel
theorem dModel_readReform_138 : decode prog_14_method_37_code 138 = .ok (.invokevirtual 134, 3) := by decide +kernel
theorem dModel_readReform_141 : decode prog_14_method_37_code 141 = .ok (.aload_n 0, 1) := by decide +kernel
theorem dModel_readReform_142 : decode prog_14_method_37_code 142 = .ok (.invokevirtual 126, 3) := by decide +kernel
theorem dModel_readReform_145 : decode prog_14_method_37_code 145 = .ok (.ifCond .ne 4, 3) := by decide +kernel
theorem dModel_readReform_148 : decode prog_14_method_37_code 148 = .ok (.return_, 1) := by decide +kernel
theorem dModel_readReform_149 : decode prog_14_method_37_code 149 = .ok (.aload_n 0, 1) := by decide +kernel
theorem dModel_readReform_150 : decode prog_14_method_37_code 150 = .ok (.invokevirtual 130, 3) := by decide +kernel
theorem dModel_readReform_153 : decode prog_14_method_37_code 153 = .ok (.aload_n 0, 1) := by decide +kernel
theorem dModel_readReform_154 : decode prog_14_method_37_code 154 = .ok (.iload_n 1, 1) := by decide +kernel
theorem dModel_readReform_155 : decode prog_14_method_37_code 155 = .ok (.putfield 309, 3) := by decide +kernel
theorem dModel_readReform_158 : decode prog_14_method_37_code 158 = .ok (.aload_n 0, 1) := by decide +kernel
theorem dModel_readReform_159 : decode prog_14_method_37_code 159 = .ok (.getfield 288, 3) := by decide +kernel
theorem dModel_readReform_162 : decode prog_14_method_37_code 162 = .ok (.istore_n 2, 1) := by decide +kernel
theorem dModel_readReform_163 : decode prog_14_method_37_code 163 = .ok (.aload_n 0, 1) := by decide +kernel
theorem dModel_readReform_164 : decode prog_14_method_37_code 164 = .ok (.invokevirtual 312, 3) := by decide +kernel
theorem dModel_readReform_167 : decode prog_14_method_37_code 167 = .ok (.aload_n 0, 1) := by decide +kernel
theorem dModel_readReform_168 : decode prog_14_method_37_code 168 = .ok (.aload_n 0, 1) := by decide +kernel
theorem dModel_readReform_169 : decode prog_14_method_37_code 169 = .ok (.bipush 59, 2) := by decide +kernel
theorem dModel_readReform_171 : decode prog_14_method_37_code 171 = .ok (.invokevirtual 193, 3) := by decide +kernel
theorem dModel_readReform_174 : decode prog_14_method_37_code 174 = .ok (.invokevirtual 196, 3) := by decide +kernel
theorem dModel_readReform_177 : decode prog_14_method_37_code 177 = .ok (.aload_n 0, 1) := by decide +kernel
theorem dModel_readReform_178 : decode prog_14_method_37_code 178 = .ok (.getfield 285, 3) := by decide +kernel
theorem dModel_readReform_181 : decode prog_14_method_37_code 181 = .ok (.bipush 10, 2) := by decide +kernel
theorem dModel_readReform_183 : decode prog_14_method_37_code 183 = .ok (.aload_n 0, 1) := by decide +kernel
theorem dModel_readReform_184 : decode prog_14_method_37_code 184 = .ok (.getfield 276, 3) := by decide +kernel
theorem dModel_readReform_187 : decode prog_14_method_37_code 187 = .ok (.imul, 1) := by decide +kernel
theorem dModel_readReform_188 : decode prog_14_method_37_code 188 = .ok (.iload_n 1, 1) := by decide +kernel
theorem dModel_readReform_189 : decode prog_14_method_37_code 189 = .ok (.iadd, 1) := by decide +kernel
theorem dModel_readReform_190 : decode prog_14_method_37_code 190 = .ok (.iload_n 2, 1) := by decide +kernel
theorem dModel_readReform_191 : decode prog_14_method_37_code 191 = .ok (.iastore, 1) := by decide +kernel
theorem dModel_readReform_192 : decode prog_14_method_37_code 192 = .ok (.aload_n 0, 1) := by decide +kernel
theorem dModel_readReform_193 : decode prog_14_method_37_code 193 = .ok (.getfield 300, 3) := by decide +kernel
theorem dModel_readReform_196 : decode prog_14_method_37_code 196 = .ok (.bipush 10, 2) := by decide +kernel
theorem dModel_readReform_198 : decode prog_14_method_37_code 198 = .ok (.aload_n 0, 1) := by decide +kernel
theorem dModel_readReform_199 : decode prog_14_method_37_code 199 = .ok (.getfield 276, 3) := by decide +kernel
theorem dModel_readReform_202 : decode prog_14_method_37_code 202 = .ok (.imul, 1) := by decide +kernel
theorem dModel_readReform_203 : decode prog_14_method_37_code 203 = .ok (.iload_n 1, 1) := by decide +kernel
theorem dModel_readReform_204 : decode prog_14_method_37_code 204 = .ok (.iadd, 1) := by decide +kernel
theorem dModel_readReform_205 : decode prog_14_method_37_code 205 = .ok (.aload_n 0, 1) := by decide +kernel
theorem dModel_readReform_206 : decode prog_14_method_37_code 206 = .ok (.getfield 288, 3) := by decide +kernel
theorem dModel_readReform_209 : decode prog_14_method_37_code 209 = .ok (.iastore, 1) := by decide +kernel
theorem dModel_readReform_210 : decode prog_14_method_37_code 210 = .ok (.iload_n 1, 1) := by decide +kernel
theorem dModel_readReform_211 : decode prog_14_method_37_code 211 = .ok (.iconst 5, 1) := by decide +kernel
theorem dModel_readReform_212 : decode prog_14_method_37_code 212 = .ok (.if_icmp .lt 16, 3) := by decide +kernel
theorem dModel_readReform_215 : decode prog_14_method_37_code 215 = .ok (.aload_n 0, 1) := by decide +kernel
theorem dModel_readReform_216 : decode prog_14_method_37_code 216 = .ok (.getfield 279, 3) := by decide +kernel
theorem dModel_readReform_219 : decode prog_14_method_37_code 219 = .ok (.aload_n 0, 1) := by decide +kernel
theorem dModel_readReform_220 : decode prog_14_method_37_code 220 = .ok (.getfield 276, 3) := by decide +kernel
theorem dModel_readReform_223 : decode prog_14_method_37_code 223 = .ok (.dup2, 1) := by decide +kernel
theorem dModel_readReform_224 : decode prog_14_method_37_code 224 = .ok (.iaload, 1) := by decide +kernel
