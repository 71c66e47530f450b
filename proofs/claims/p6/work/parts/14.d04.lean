/-! Decode rows: by program. -/
theorem dModel_readReform_225 : decode prog_14_method_37_code 225 = .ok (.iconst 1, 1) := by decide +kernel
theorem dModel_readReform_226 : decode prog_14_method_37_code 226 = .ok (.iadd, 1) := by decide +kernel
theorem dModel_readReform_227 : decode prog_14_method_37_code 227 = .ok (.iastore, 1) := by decide +kernel
theorem dModel_readReform_228 : decode prog_14_method_37_code 228 = .ok (.aload_n 0, 1) := by decide +kernel
theorem dModel_readReform_229 : decode prog_14_method_37_code 229 = .ok (.getfield 282, 3) := by decide +kernel
theorem dModel_readReform_232 : decode prog_14_method_37_code 232 = .ok (.aload_n 0, 1) := by decide +kernel
theorem dModel_readReform_233 : decode prog_14_method_37_code 233 = .ok (.getfield 276, 3) := by decide +kernel
theorem dModel_readReform_236 : decode prog_14_method_37_code 236 = .ok (.dup2, 1) := by decide +kernel
theorem dModel_readReform_237 : decode prog_14_method_37_code 237 = .ok (.iaload, 1) := by decide +kernel
theorem dModel_readReform_238 : decode prog_14_method_37_code 238 = .ok (.iconst 1, 1) := by decide +kernel
theorem dModel_readReform_239 : decode prog_14_method_37_code 239 = .ok (.iadd, 1) := by decide +kernel
theorem dModel_readReform_240 : decode prog_14_method_37_code 240 = .ok (.iastore, 1) := by decide +kernel
theorem dModel_readReform_241 : decode prog_14_method_37_code 241 = .ok (.return_, 1) := by decide +kernel
theorem dModel_step_0 : decode prog_14_method_38_code 0 = .ok (.aload_n 0, 1) := by decide +kernel
theorem dModel_step_1 : decode prog_14_method_38_code 1 = .ok (.getfield 303, 3) := by decide +kernel
theorem dModel_step_4 : decode prog_14_method_38_code 4 = .ok (.sipush 700, 3) := by decide +kernel
theorem dModel_step_7 : decode prog_14_method_38_code 7 = .ok (.aload_n 0, 1) := by decide +kernel
theorem dModel_step_8 : decode prog_14_method_38_code 8 = .ok (.getfield 276, 3) := by decide +kernel
theorem dModel_step_11 : decode prog_14_method_38_code 11 = .ok (.imul, 1) := by decide +kernel
theorem dModel_step_12 : decode prog_14_method_38_code 12 = .ok (.aload_n 0, 1) := by decide +kernel
theorem dModel_step_13 : decode prog_14_method_38_code 13 = .ok (.getfield 288, 3) := by decide +kernel
theorem dModel_step_16 : decode prog_14_method_38_code 16 = .ok (.iadd, 1) := by decide +kernel
theorem dModel_step_17 : decode prog_14_method_38_code 17 = .ok (.iload_n 1, 1) := by decide +kernel
theorem dModel_step_18 : decode prog_14_method_38_code 18 = .ok (.iastore, 1) := by decide +kernel
theorem dModel_step_19 : decode prog_14_method_38_code 19 = .ok (.aload_n 0, 1) := by decide +kernel
theorem dModel_step_20 : decode prog_14_method_38_code 20 = .ok (.getfield 306, 3) := by decide +kernel
theorem dModel_step_23 : decode prog_14_method_38_code 23 = .ok (.sipush 700, 3) := by decide +kernel
theorem dModel_step_26 : decode prog_14_method_38_code 26 = .ok (.aload_n 0, 1) := by decide +kernel
theorem dModel_step_27 : decode prog_14_method_38_code 27 = .ok (.getfield 276, 3) := by decide +kernel
theorem dModel_step_30 : decode prog_14_method_38_code 30 = .ok (.imul, 1) := by decide +kernel
theorem dModel_step_31 : decode prog_14_method_38_code 31 = .ok (.aload_n 0, 1) := by decide +kernel
theorem dModel_step_32 : decode prog_14_method_38_code 32 = .ok (.getfield 288, 3) := by decide +kernel
theorem dModel_step_35 : decode prog_14_method_38_code 35 = .ok (.iadd, 1) := by decide +kernel
theorem dModel_step_36 : decode prog_14_method_38_code 36 = .ok (.iload_n 2, 1) := by decide +kernel
theorem dModel_step_37 : decode prog_14_method_38_code 37 = .ok (.iastore, 1) := by decide +kernel
theorem dModel_step_38 : decode prog_14_method_38_code 38 = .ok (.aload_n 0, 1) := by decide +kernel
theorem dModel_step_39 : decode prog_14_method_38_code 39 = .ok (.dup, 1) := by decide +kernel
theorem dModel_step_40 : decode prog_14_method_38_code 40 = .ok (.getfield 288, 3) := by decide +kernel
theorem dModel_step_43 : decode prog_14_method_38_code 43 = .ok (.iconst 1, 1) := by decide +kernel
theorem dModel_step_44 : decode prog_14_method_38_code 44 = .ok (.iadd, 1) := by decide +kernel
theorem dModel_step_45 : decode prog_14_method_38_code 45 = .ok (.putfield 288, 3) := by decide +kernel
theorem dModel_step_48 : decode prog_14_method_38_code 48 = .ok (.return_, 1) := by decide +kernel
theorem dModel_pile_0 : decode prog_14_method_39_code 0 = .ok (.aload_n 0, 1) := by decide +kernel
theorem dModel_pile_1 : decode prog_14_method_39_code 1 = .ok (.getfield 315, 3) := by decide +kernel
theorem dModel_pile_4 : decode prog_14_method_39_code 4 = .ok (.aload_n 0, 1) := by decide +kernel
theorem dModel_pile_5 : decode prog_14_method_39_code 5 = .ok (.getfield 318, 3) := by decide +kernel
theorem dModel_pile_8 : decode prog_14_method_39_code 8 = .ok (.iload_n 1, 1) := by decide +kernel
theorem dModel_pile_9 : decode prog_14_method_39_code 9 = .ok (.iastore, 1) := by decide +kernel
theorem dModel_pile_10 : decode prog_14_method_39_code 10 = .ok (.aload_n 0, 1) := by decide +kernel
theorem dModel_pile_11 : decode prog_14_method_39_code 11 = .ok (.getfield 321, 3) := by decide +kernel
theorem dModel_pile_14 : decode prog_14_method_39_code 14 = .ok (.aload_n 0, 1) := by decide +kernel
theorem dModel_pile_15 : decode prog_14_method_39_code 15 = .ok (.getfield 318, 3) := by decide +kernel
theorem dModel_pile_18 : decode prog_14_method_39_code 18 = .ok (.iload_n 2, 1) := by decide +kernel
theorem dModel_pile_19 : decode prog_14_method_39_code 19 = .ok (.iastore, 1) := by decide +kernel
theorem dModel_pile_20 : decode prog_14_method_39_code 20 = .ok (.aload_n 0, 1) := by decide +kernel
theorem dModel_pile_21 : decode prog_14_method_39_code 21 = .ok (.dup, 1) := by decide +kernel
theorem dModel_pile_22 : decode prog_14_method_39_code 22 = .ok (.getfield 318, 3) := by decide +kernel
theorem dModel_pile_25 : decode prog_14_method_39_code 25 = .ok (.iconst 1, 1) := by decide +kernel
theorem dModel_pile_26 : decode prog_14_method_39_code 26 = .ok (.iadd, 1) := by decide +kernel
theorem dModel_pile_27 : decode prog_14_method_39_code 27 = .ok (.putfield 318, 3) := by decide +kernel
theorem dModel_pile_30 : decode prog_14_method_39_code 30 = .ok (.return_, 1) := by decide +kernel
theorem dModel_e_0 : decode prog_14_method_40_code 0 = .ok (.aload_n 0, 1) := by decide +kernel
theorem dModel_e_1 : decode prog_14_method_40_code 1 = .ok (.iconst 0, 1) := by decide +kernel
theorem dModel_e_2 : decode prog_14_method_40_code 2 = .ok (.putfield 318, 3) := by decide +kernel
theorem dModel_e_5 : decode prog_14_method_40_code 5 = .ok (.aload_n 0, 1) := by decide +kernel
theorem dModel_e_6 : decode prog_14_method_40_code 6 = .ok (.iconst 0, 1) := by decide +kernel
theorem dModel_e_7 : decode prog_14_method_40_code 7 = .ok (.putfield 324, 3) := by decide +kernel
theorem dModel_e_10 : decode prog_14_method_40_code 10 = .ok (.aload_n 0, 1) := by decide +kernel
theorem dModel_e_11 : decode prog_14_method_40_code 11 = .ok (.bipush 8, 2) := by decide +kernel
theorem dModel_e_13 : decode prog_14_method_40_code 13 = .ok (.iconst 0, 1) := by decide +kernel
theorem dModel_e_14 : decode prog_14_method_40_code 14 = .ok (.invokevirtual 327, 3) := by decide +kernel
theorem dModel_e_17 : decode prog_14_method_40_code 17 = .ok (.iconst 1, 1) := by decide +kernel
theorem dModel_e_18 : decode prog_14_method_40_code 18 = .ok (.istore_n 1, 1) := by decide +kernel
theorem dModel_e_19 : decode prog_14_method_40_code 19 = .ok (.aload_n 0, 1) := by decide +kernel
theorem dModel_e_20 : decode prog_14_method_40_code 20 = .ok (.invokevirtual 126, 3) := by decide +kernel
theorem dModel_e_23 : decode prog_14_method_40_code 23 = .ok (.ifCond .eq 29, 3) := by decide +kernel
theorem dModel_e_26 : decode prog_14_method_40_code 26 = .ok (.aload_n 0, 1) := by decide +kernel
theorem dModel_e_27 : decode prog_14_method_40_code 27 = .ok (.getfield 318, 3) := by decide +kernel
theorem dModel_e_30 : decode prog_14_method_40_code 30 = .ok (.ifCond .le 22, 3) := by decide +kernel
theorem dModel_e_33 : decode prog_14_method_40_code 33 = .ok (.iload_n 1, 1) := by decide +kernel
theorem dModel_e_34 : decode prog_14_method_40_code 34 = .ok (.ifCond .eq 10, 3) := by decide +kernel
theorem dModel_e_37 : decode prog_14_method_40_code 37 = .ok (.aload_n 0, 1) := by decide +kernel
theorem dModel_e_38 : decode prog_14_method_40_code 38 = .ok (.invokevirtual 330, 3) := by decide +kernel
theorem dModel_e_41 : decode prog_14_method_40_code 41 = .ok (.goto 7, 3) := by decide +kernel
theorem dModel_e_44 : decode prog_14_method_40_code 44 = .ok (.aload_n 0, 1) := by decide +kernel
theorem dModel_e_45 : decode prog_14_method_40_code 45 = .ok (.invokevirtual 333, 3) := by decide +kernel
theorem dModel_e_48 : decode prog_14_method_40_code 48 = .ok (.istore_n 1, 1) := by decide +kernel
theorem dModel_e_49 : decode prog_14_method_40_code 49 = .ok (.goto (-30), 3) := by decide +kernel
theorem dModel_e_52 : decode prog_14_method_40_code 52 = .ok (.return_, 1) := by decide +kernel
theorem dModel_wordHere_0 : decode prog_14_method_41_code 0 = .ok (.aload_n 0, 1) := by decide +kernel
theorem dModel_wordHere_1 : decode prog_14_method_41_code 1 = .ok (.ldc2_w 63, 3) := by decide +kernel
theorem dModel_wordHere_4 : decode prog_14_method_41_code 4 = .ok (.invokevirtual 178, 3) := by decide +kernel
theorem dModel_wordHere_7 : decode prog_14_method_41_code 7 = .ok (.ifCond .eq 6, 3) := by decide +kernel
theorem dModel_wordHere_10 : decode prog_14_method_41_code 10 = .ok (.bipush 121, 2) := by decide +kernel
theorem dModel_wordHere_12 : decode prog_14_method_41_code 12 = .ok (.ireturn, 1) := by decide +kernel
theorem dModel_wordHere_13 : decode prog_14_method_41_code 13 = .ok (.aload_n 0, 1) := by decide +kernel
theorem dModel_wordHere_14 : decode prog_14_method_41_code 14 = .ok (.ldc2_w 65, 3) := by decide +kernel
theorem dModel_wordHere_17 : decode prog_14_method_41_code 17 = .ok (.invokevirtual 178, 3) := by decide +kernel
theorem dModel_wordHere_20 : decode prog_14_method_41_code 20 = .ok (.ifCond .eq 6, 3) := by decide +kernel
theorem dModel_wordHere_23 : decode prog_14_method_41_code 23 = .ok (.bipush 109, 2) := by decide +kernel
theorem dModel_wordHere_25 : decode prog_14_method_41_code 25 = .ok (.ireturn, 1) := by decide +kernel
theorem dModel_wordHere_26 : decode prog_14_method_41_code 26 = .ok (.aload_n 0, 1) := by decide +kernel
theorem dModel_wordHere_27 : decode prog_14_method_41_code 27 = .ok (.ldc2_w 71, 3) := by decide +kernel
theorem dModel_wordHere_30 : decode prog_14_method_41_code 30 = .ok (.invokevirtual 178, 3) := by decide +kernel
theorem dModel_wordHere_33 : decode prog_14_method_41_code 33 = .ok (.ifCond .eq 6, 3) := by decide +kernel
theorem dModel_wordHere_36 : decode prog_14_method_41_code 36 = .ok (.bipush 119, 2) := by decide +kernel
theorem dModel_wordHere_38 : decode prog_14_method_41_code 38 = .ok (.ireturn, 1) := by decide +kernel
theorem dModel_wordHere_39 : decode prog_14_method_41_code 39 = .ok (.aload_n 0, 1) := by decide +kernel
theorem dModel_wordHere_40 : decode prog_14_method_41_code 40 = .ok (.ldc2_w 79, 3) := by decide +kernel
theorem dModel_wordHere_43 : decode prog_14_method_41_code 43 = .ok (.invokevirtual 178, 3) := by decide +kernel
theorem dModel_wordHere_46 : decode prog_14_method_41_code 46 = .ok (.ifCond .eq 6, 3) := by decide +kernel
theorem dModel_wordHere_49 : decode prog_14_method_41_code 49 = .ok (.bipush 100, 2) := by decide +kernel
theorem dModel_wordHere_51 : decode prog_14_method_41_code 51 = .ok (.ireturn, 1) := by decide +kernel
theorem dModel_wordHere_52 : decode prog_14_method_41_code 52 = .ok (.aload_n 0, 1) := by decide +kernel
theorem dModel_wordHere_53 : decode prog_14_method_41_code 53 = .ok (.getfield 309, 3) := by decide +kernel
theorem dModel_wordHere_56 : decode prog_14_method_41_code 56 = .ok (.ifCond .ne 7, 3) := by decide +kernel
theorem dModel_wordHere_59 : decode prog_14_method_41_code 59 = .ok (.iconst 1, 1) := by decide +kernel
theorem dModel_wordHere_60 : decode prog_14_method_41_code 60 = .ok (.goto 4, 3) := by decide +kernel
theorem dModel_wordHere_63 : decode prog_14_method_41_code 63 = .ok (.iconst 0, 1) := by decide +kernel
theorem dModel_wordHere_64 : decode prog_14_method_41_code 64 = .ok (.istore_n 1, 1) := by decide +kernel
theorem dModel_wordHere_65 : decode prog_14_method_41_code 65 = .ok (.aload_n 0, 1) := by decide +kernel
theorem dModel_wordHere_66 : decode prog_14_method_41_code 66 = .ok (.getfield 309, 3) := by decide +kernel
theorem dModel_wordHere_69 : decode prog_14_method_41_code 69 = .ok (.iconst 5, 1) := by decide +kernel
theorem dModel_wordHere_70 : decode prog_14_method_41_code 70 = .ok (.if_icmp .lt 7, 3) := by decide +kernel
theorem dModel_wordHere_73 : decode prog_14_method_41_code 73 = .ok (.iconst 1, 1) := by decide +kernel
theorem dModel_wordHere_74 : decode prog_14_method_41_code 74 = .ok (.goto 4, 3) := by decide +kernel
theorem dModel_wordHere_77 : decode prog_14_method_41_code 77 = .ok (.iconst 0, 1) := by decide +kernel
theorem dModel_wordHere_78 : decode prog_14_method_41_code 78 = .ok (.istore_n 2, 1) := by decide +kernel
theorem dModel_wordHere_79 : decode prog_14_method_41_code 79 = .ok (.aload_n 0, 1) := by decide +kernel
theorem dModel_wordHere_80 : decode prog_14_method_41_code 80 = .ok (.ldc2_w 25, 3) := by decide +kernel
theorem dModel_wordHere_83 : decode prog_14_method_41_code 83 = .ok (.invokevirtual 178, 3) := by decide +kernel
theorem dModel_wordHere_86 : decode prog_14_method_41_code 86 = .ok (.ifCond .eq 8, 3) := by decide +kernel
theorem dModel_wordHere_89 : decode prog_14_method_41_code 89 = .ok (.bipush 115, 2) := by decide +kernel
theorem dModel_wordHere_91 : decode prog_14_method_41_code 91 = .ok (.goto 79, 3) := by decide +kernel
theorem dModel_wordHere_94 : decode prog_14_method_41_code 94 = .ok (.aload_n 0, 1) := by decide +kernel
theorem dModel_wordHere_95 : decode prog_14_method_41_code 95 = .ok (.ldc2_w 67, 3) := by decide +kernel
theorem dModel_wordHere_98 : decode prog_14_method_41_code 98 = .ok (.invokevirtual 178, 3) := by decide +kernel
theorem dModel_wordHere_101 : decode prog_14_method_41_code 101 = .ok (.ifCond .eq 8, 3) := by decide +kernel
theorem dModel_wordHere_104 : decode prog_14_method_41_code 104 = .ok (.bipush 110, 2) := by decide +kernel
theorem dModel_wordHere_106 : decode prog_14_method_41_code 106 = .ok (.goto 64, 3) := by decide +kernel
theorem dModel_wordHere_109 : decode prog_14_method_41_code 109 = .ok (.aload_n 0, 1) := by decide +kernel
theorem dModel_wordHere_110 : decode prog_14_method_41_code 110 = .ok (.ldc2_w 69, 3) := by decide +kernel
theorem dModel_wordHere_113 : decode prog_14_method_41_code 113 = .ok (.invokevirtual 178, 3) := by decide +kernel
theorem dModel_wordHere_116 : decode prog_14_method_41_code 116 = .ok (.ifCond .eq 8, 3) := by decide +kernel
theorem dModel_wordHere_119 : decode prog_14_method_41_code 119 = .ok (.bipush 68, 2) := by decide +kernel
theorem dModel_wordHere_121 : decode prog_14_method_41_code 121 = .ok (.goto 49, 3) := by decide +kernel
theorem dModel_wordHere_124 : decode prog_14_method_41_code 124 = .ok (.aload_n 0, 1) := by decide +kernel
theorem dModel_wordHere_125 : decode prog_14_method_41_code 125 = .ok (.ldc2_w 73, 3) := by decide +kernel
theorem dModel_wordHere_128 : decode prog_14_method_41_code 128 = .ok (.invokevirtual 178, 3) := by decide +kernel
theorem dModel_wordHere_131 : decode prog_14_method_41_code 131 = .ok (.ifCond .eq 8, 3) := by decide +kernel
theorem dModel_wordHere_134 : decode prog_14_method_41_code 134 = .ok (.bipush 97, 2) := by decide +kernel
theorem dModel_wordHere_136 : decode prog_14_method_41_code 136 = .ok (.goto 34, 3) := by decide +kernel
theorem dModel_wordHere_139 : decode prog_14_method_41_code 139 = .ok (.aload_n 0, 1) := by decide +kernel
theorem dModel_wordHere_140 : decode prog_14_method_41_code 140 = .ok (.ldc2_w 75, 3) := by decide +kernel
theorem dModel_wordHere_143 : decode prog_14_method_41_code 143 = .ok (.invokevirtual 178, 3) := by decide +kernel
theorem dModel_wordHere_146 : decode prog_14_method_41_code 146 = .ok (.ifCond .eq 8, 3) := by decide +kernel
theorem dModel_wordHere_149 : decode prog_14_method_41_code 149 = .ok (.bipush 107, 2) := by decide +kernel
theorem dModel_wordHere_151 : decode prog_14_method_41_code 151 = .ok (.goto 19, 3) := by decide +kernel
theorem dModel_wordHere_154 : decode prog_14_method_41_code 154 = .ok (.aload_n 0, 1) := by decide +kernel
theorem dModel_wordHere_155 : decode prog_14_method_41_code 155 = .ok (.ldc2_w 77, 3) := by decide +kernel
theorem dModel_wordHere_158 : decode prog_14_method_41_code 158 = .ok (.invokevirtual 178, 3) := by decide +kernel
theorem dModel_wordHere_161 : decode prog_14_method_41_code 161 = .ok (.ifCond .eq 8, 3) := by decide +kernel
theorem dModel_wordHere_164 : decode prog_14_method_41_code 164 = .ok (.bipush 98, 2) := by decide +kernel
theorem dModel_wordHere_166 : decode prog_14_method_41_code 166 = .ok (.goto 4, 3) := by decide +kernel
theorem dModel_wordHere_169 : decode prog_14_method_41_code 169 = .ok (.iconst 0, 1) := by decide +kernel
theorem dModel_wordHere_170 : decode prog_14_method_41_code 170 = .ok (.istore_n 3, 1) := by decide +kernel
theorem dModel_wordHere_171 : decode prog_14_method_41_code 171 = .ok (.iload_n 3, 1) := by decide +kernel
theorem dModel_wordHere_172 : decode prog_14_method_41_code 172 = .ok (.bipush 68, 2) := by decide +kernel
theorem dModel_wordHere_174 : decode prog_14_method_41_code 174 = .ok (.if_icmp .ne 19, 3) := by decide +kernel
theorem dModel_wordHere_177 : decode prog_14_method_41_code 177 = .ok (.iload_n 1, 1) := by decide +kernel
theorem dModel_wordHere_178 : decode prog_14_method_41_code 178 = .ok (.ifCond .ne 7, 3) := by decide +kernel
theorem dModel_wordHere_181 : decode prog_14_method_41_code 181 = .ok (.iload_n 2, 1) := by decide +kernel
theorem dModel_wordHere_182 : decode prog_14_method_41_code 182 = .ok (.ifCond .eq 7, 3) := by decide +kernel
theorem dModel_wordHere_185 : decode prog_14_method_41_code 185 = .ok (.iconst 1, 1) := by decide +kernel
theorem dModel_wordHere_186 : decode prog_14_method_41_code 186 = .ok (.goto 24, 3) := by decide +kernel
theorem dModel_wordHere_189 : decode prog_14_method_41_code 189 = .ok (.iconst 0, 1) := by decide +kernel
theorem dModel_wordHere_190 : decode prog_14_method_41_code 190 = .ok (.goto 20, 3) := by decide +kernel
theorem dModel_wordHere_193 : decode prog_14_method_41_code 193 = .ok (.iload_n 3, 1) := by decide +kernel
theorem dModel_wordHere_194 : decode prog_14_method_41_code 194 = .ok (.bipush 115, 2) := by decide +kernel
theorem dModel_wordHere_196 : decode prog_14_method_41_code 196 = .ok (.if_icmp .eq 9, 3) := by decide +kernel
theorem dModel_wordHere_199 : decode prog_14_method_41_code 199 = .ok (.iload_n 3, 1) := by decide +kernel
theorem dModel_wordHere_200 : decode prog_14_method_41_code 200 = .ok (.bipush 110, 2) := by decide +kernel
theorem dModel_wordHere_202 : decode prog_14_method_41_code 202 = .ok (.if_icmp .ne 7, 3) := by decide +kernel
theorem dModel_wordHere_205 : decode prog_14_method_41_code 205 = .ok (.iload_n 1, 1) := by decide +kernel
theorem dModel_wordHere_206 : decode prog_14_method_41_code 206 = .ok (.goto 4, 3) := by decide +kernel
theorem dModel_wordHere_209 : decode prog_14_method_41_code 209 = .ok (.iload_n 2, 1) := by decide +kernel
theorem dModel_wordHere_210 : decode prog_14_method_41_code 210 = .ok (.istore 4, 2) := by decide +kernel
theorem dModel_wordHere_212 : decode prog_14_method_41_code 212 = .ok (.iload_n 3, 1) := by decide +kernel
theorem dModel_wordHere_213 : decode prog_14_method_41_code 213 = .ok (.ifCond .eq 26, 3) := by decide +kernel
theorem dModel_wordHere_216 : decode prog_14_method_41_code 216 = .ok (.iload 4, 2) := by decide +kernel
theorem dModel_wordHere_218 : decode prog_14_method_41_code 218 = .ok (.ifCond .ne 21, 3) := by decide +kernel
theorem dModel_wordHere_221 : decode prog_14_method_41_code 221 = .ok (.aload_n 0, 1) := by decide +kernel
theorem dModel_wordHere_222 : decode prog_14_method_41_code 222 = .ok (.getfield 291, 3) := by decide +kernel
theorem dModel_wordHere_225 : decode prog_14_method_41_code 225 = .ok (.bipush 100, 2) := by decide +kernel
theorem dModel_wordHere_227 : decode prog_14_method_41_code 227 = .ok (.if_icmp .ge 12, 3) := by decide +kernel
theorem dModel_wordHere_230 : decode prog_14_method_41_code 230 = .ok (.aload_n 0, 1) := by decide +kernel
theorem dModel_wordHere_231 : decode prog_14_method_41_code 231 = .ok (.iconst 5, 1) := by decide +kernel
theorem dModel_wordHere_232 : decode prog_14_method_41_code 232 = .ok (.aload_n 0, 1) := by decide +kernel
theorem dModel_wordHere_233 : decode prog_14_method_41_code 233 = .ok (.getfield 95, 3) := by decide +kernel
theorem dModel_wordHere_236 : decode prog_14_method_41_code 236 = .ok (.invokevirtual 122, 3) := by decide +kernel
theorem dModel_wordHere_239 : decode prog_14_method_41_code 239 = .ok (.iload_n 3, 1) := by decide +kernel
theorem dModel_wordHere_240 : decode prog_14_method_41_code 240 = .ok (.ireturn, 1) := by decide +kernel
theorem dModel_unit_0 : decode prog_14_method_42_code 0 = .ok (.aload_n 0, 1) := by decide +kernel
theorem dModel_unit_1 : decode prog_14_method_42_code 1 = .ok (.getfield 315, 3) := by decide +kernel
theorem dModel_unit_4 : decode prog_14_method_42_code 4 = .ok (.aload_n 0, 1) := by decide +kernel
theorem dModel_unit_5 : decode prog_14_method_42_code 5 = .ok (.getfield 318, 3) := by decide +kernel
theorem dModel_unit_8 : decode prog_14_method_42_code 8 = .ok (.iconst 1, 1) := by decide +kernel
theorem dModel_unit_9 : decode prog_14_method_42_code 9 = .ok (.isub, 1) := by decide +kernel
theorem dModel_unit_10 : decode prog_14_method_42_code 10 = .ok (.iaload, 1) := by decide +kernel
theorem dModel_unit_11 : decode prog_14_method_42_code 11 = .ok (.iconst 3, 1) := by decide +kernel
theorem dModel_unit_12 : decode prog_14_method_42_code 12 = .ok (.if_icmp .le 19, 3) := by decide +kernel
theorem dModel_unit_15 : decode prog_14_method_42_code 15 = .ok (.aload_n 0, 1) := by decide +kernel
theorem dModel_unit_16 : decode prog_14_method_42_code 16 = .ok (.getfield 315, 3) := by decide +kernel
theorem dModel_unit_19 : decode prog_14_method_42_code 19 = .ok (.aload_n 0, 1) := by decide +kernel
theorem dModel_unit_20 : decode prog_14_method_42_code 20 = .ok (.getfield 318, 3) := by decide +kernel
theorem dModel_unit_23 : decode prog_14_method_42_code 23 = .ok (.iconst 1, 1) := by decide +kernel
theorem dModel_unit_24 : decode prog_14_method_42_code 24 = .ok (.isub, 1) := by decide +kernel
theorem dModel_unit_25 : decode prog_14_method_42_code 25 = .ok (.iaload, 1) := by decide +kernel
theorem dModel_unit_26 : decode prog_14_method_42_code 26 = .ok (.bipush 7, 2) := by decide +kernel
theorem dModel_unit_28 : decode prog_14_method_42_code 28 = .ok (.if_icmp .lt 7, 3) := by decide +kernel
theorem dModel_unit_31 : decode prog_14_method_42_code 31 = .ok (.iconst 1, 1) := by decide +kernel
theorem dModel_unit_32 : decode prog_14_method_42_code 32 = .ok (.goto 4, 3) := by decide +kernel
theorem dModel_unit_35 : decode prog_14_method_42_code 35 = .ok (.iconst 0, 1) := by decide +kernel
theorem dModel_unit_36 : decode prog_14_method_42_code 36 = .ok (.istore_n 1, 1) := by decide +kernel
theorem dModel_unit_37 : decode prog_14_method_42_code 37 = .ok (.iload_n 1, 1) := by decide +kernel
theorem dModel_unit_38 : decode prog_14_method_42_code 38 = .ok (.ifCond .eq 58, 3) := by decide +kernel
theorem dModel_unit_41 : decode prog_14_method_42_code 41 = .ok (.aload_n 0, 1) := by decide +kernel
theorem dModel_unit_42 : decode prog_14_method_42_code 42 = .ok (.ldc2_w 61, 3) := by decide +kernel
theorem dModel_unit_45 : decode prog_14_method_42_code 45 = .ok (.invokevirtual 178, 3) := by decide +kernel
theorem dModel_unit_48 : decode prog_14_method_42_code 48 = .ok (.ifCond .eq 48, 3) := by decide +kernel
theorem dModel_unit_51 : decode prog_14_method_42_code 51 = .ok (.aload_n 0, 1) := by decide +kernel
theorem dModel_unit_52 : decode prog_14_method_42_code 52 = .ok (.getfield 324, 3) := by decide +kernel
theorem dModel_unit_55 : decode prog_14_method_42_code 55 = .ok (.bipush 7, 2) := by decide +kernel
theorem dModel_unit_57 : decode prog_14_method_42_code 57 = .ok (.if_icmp .ne 7, 3) := by decide +kernel
theorem dModel_unit_60 : decode prog_14_method_42_code 60 = .ok (.aload_n 0, 1) := by decide +kernel
theorem dModel_unit_61 : decode prog_14_method_42_code 61 = .ok (.invokevirtual 134, 3) := by decide +kernel
theorem dModel_unit_64 : decode prog_14_method_42_code 64 = .ok (.aload_n 0, 1) := by decide +kernel
theorem dModel_unit_65 : decode prog_14_method_42_code 65 = .ok (.invokevirtual 126, 3) := by decide +kernel
theorem dModel_unit_68 : decode prog_14_method_42_code 68 = .ok (.ifCond .ne 5, 3) := by decide +kernel
theorem dModel_unit_71 : decode prog_14_method_42_code 71 = .ok (.iconst 1, 1) := by decide +kernel
theorem dModel_unit_72 : decode prog_14_method_42_code 72 = .ok (.ireturn, 1) := by decide +kernel
theorem dModel_unit_73 : decode prog_14_method_42_code 73 = .ok (.aload_n 0, 1) := by decide +kernel
theorem dModel_unit_74 : decode prog_14_method_42_code 74 = .ok (.iconst 3, 1) := by decide +kernel
theorem dModel_unit_75 : decode prog_14_method_42_code 75 = .ok (.bipush 126, 2) := by decide +kernel
theorem dModel_unit_77 : decode prog_14_method_42_code 77 = .ok (.invokevirtual 327, 3) := by decide +kernel
theorem dModel_unit_80 : decode prog_14_method_42_code 80 = .ok (.aload_n 0, 1) := by decide +kernel
theorem dModel_unit_81 : decode prog_14_method_42_code 81 = .ok (.dup, 1) := by decide +kernel
theorem dModel_unit_82 : decode prog_14_method_42_code 82 = .ok (.getfield 324, 3) := by decide +kernel
theorem dModel_unit_85 : decode prog_14_method_42_code 85 = .ok (.iconst 1, 1) := by decide +kernel
theorem dModel_unit_86 : decode prog_14_method_42_code 86 = .ok (.iadd, 1) := by decide +kernel
theorem dModel_unit_87 : decode prog_14_method_42_code 87 = .ok (.putfield 324, 3) := by decide +kernel
theorem dModel_unit_90 : decode prog_14_method_42_code 90 = .ok (.aload_n 0, 1) := by decide +kernel
theorem dModel_unit_91 : decode prog_14_method_42_code 91 = .ok (.invokevirtual 130, 3) := by decide +kernel
theorem dModel_unit_94 : decode prog_14_method_42_code 94 = .ok (.iconst 1, 1) := by decide +kernel
theorem dModel_unit_95 : decode prog_14_method_42_code 95 = .ok (.ireturn, 1) := by decide +kernel
theorem dModel_unit_96 : decode prog_14_method_42_code 96 = .ok (.aload_n 0, 1) := by decide +kernel
theorem dModel_unit_97 : decode prog_14_method_42_code 97 = .ok (.invokevirtual 336, 3) := by decide +kernel
theorem dModel_unit_100 : decode prog_14_method_42_code 100 = .ok (.istore_n 2, 1) := by decide +kernel
theorem dModel_unit_101 : decode prog_14_method_42_code 101 = .ok (.aload_n 0, 1) := by decide +kernel
theorem dModel_unit_102 : decode prog_14_method_42_code 102 = .ok (.invokevirtual 126, 3) := by decide +kernel
theorem dModel_unit_105 : decode prog_14_method_42_code 105 = .ok (.ifCond .ne 5, 3) := by decide +kernel
theorem dModel_unit_108 : decode prog_14_method_42_code 108 = .ok (.iconst 1, 1) := by decide +kernel
theorem dModel_unit_109 : decode prog_14_method_42_code 109 = .ok (.ireturn, 1) := by decide +kernel
theorem dModel_unit_110 : decode prog_14_method_42_code 110 = .ok (.iload_n 2, 1) := by decide +kernel
theorem dModel_unit_111 : decode prog_14_method_42_code 111 = .ok (.ifCond .ne 20, 3) := by decide +kernel
theorem dModel_unit_114 : decode prog_14_method_42_code 114 = .ok (.aload_n 0, 1) := by decide +kernel
theorem dModel_unit_115 : decode prog_14_method_42_code 115 = .ok (.getfield 98, 3) := by decide +kernel
theorem dModel_unit_118 : decode prog_14_method_42_code 118 = .ok (.iconst 4, 1) := by decide +kernel
theorem dModel_unit_119 : decode prog_14_method_42_code 119 = .ok (.if_icmp .eq 12, 3) := by decide +kernel
theorem dModel_unit_122 : decode prog_14_method_42_code 122 = .ok (.aload_n 0, 1) := by decide +kernel
theorem dModel_unit_123 : decode prog_14_method_42_code 123 = .ok (.bipush 40, 2) := by decide +kernel
theorem dModel_unit_125 : decode prog_14_method_42_code 125 = .ok (.invokevirtual 193, 3) := by decide +kernel
theorem dModel_unit_128 : decode prog_14_method_42_code 128 = .ok (.ifCond .eq 12, 3) := by decide +kernel
theorem dModel_unit_131 : decode prog_14_method_42_code 131 = .ok (.aload_n 0, 1) := by decide +kernel
theorem dModel_unit_132 : decode prog_14_method_42_code 132 = .ok (.getfield 291, 3) := by decide +kernel
theorem dModel_unit_135 : decode prog_14_method_42_code 135 = .ok (.bipush 100, 2) := by decide +kernel
theorem dModel_unit_137 : decode prog_14_method_42_code 137 = .ok (.if_icmp .ne 7, 3) := by decide +kernel
theorem dModel_unit_140 : decode prog_14_method_42_code 140 = .ok (.aload_n 0, 1) := by decide +kernel
theorem dModel_unit_141 : decode prog_14_method_42_code 141 = .ok (.invokevirtual 134, 3) := by decide +kernel
theorem dModel_unit_144 : decode prog_14_method_42_code 144 = .ok (.aload_n 0, 1) := by decide +kernel
theorem dModel_unit_145 : decode prog_14_method_42_code 145 = .ok (.invokevirtual 126, 3) := by decide +kernel
theorem dModel_unit_148 : decode prog_14_method_42_code 148 = .ok (.ifCond .ne 5, 3) := by decide +kernel
theorem dModel_unit_151 : decode prog_14_method_42_code 151 = .ok (.iconst 1, 1) := by decide +kernel
theorem dModel_unit_152 : decode prog_14_method_42_code 152 = .ok (.ireturn, 1) := by decide +kernel
theorem dModel_unit_153 : decode prog_14_method_42_code 153 = .ok (.aload_n 0, 1) := by decide +kernel
theorem dModel_unit_154 : decode prog_14_method_42_code 154 = .ok (.dup, 1) := by decide +kernel
theorem dModel_unit_155 : decode prog_14_method_42_code 155 = .ok (.getfield 291, 3) := by decide +kernel
theorem dModel_unit_158 : decode prog_14_method_42_code 158 = .ok (.iconst 1, 1) := by decide +kernel
theorem dModel_unit_159 : decode prog_14_method_42_code 159 = .ok (.iadd, 1) := by decide +kernel
theorem dModel_unit_160 : decode prog_14_method_42_code 160 = .ok (.putfield 291, 3) := by decide +kernel
theorem dModel_unit_163 : decode prog_14_method_42_code 163 = .ok (.aload_n 0, 1) := by decide +kernel
theorem dModel_unit_164 : decode prog_14_method_42_code 164 = .ok (.bipush 40, 2) := by decide +kernel
theorem dModel_unit_166 : decode prog_14_method_42_code 166 = .ok (.invokevirtual 193, 3) := by decide +kernel
theorem dModel_unit_169 : decode prog_14_method_42_code 169 = .ok (.ifCond .eq 48, 3) := by decide +kernel
theorem dModel_unit_172 : decode prog_14_method_42_code 172 = .ok (.aload_n 0, 1) := by decide +kernel
theorem dModel_unit_173 : decode prog_14_method_42_code 173 = .ok (.getfield 324, 3) := by decide +kernel
theorem dModel_unit_176 : decode prog_14_method_42_code 176 = .ok (.bipush 7, 2) := by decide +kernel
theorem dModel_unit_178 : decode prog_14_method_42_code 178 = .ok (.if_icmp .ne 7, 3) := by decide +kernel
theorem dModel_unit_181 : decode prog_14_method_42_code 181 = .ok (.aload_n 0, 1) := by decide +kernel
theorem dModel_unit_182 : decode prog_14_method_42_code 182 = .ok (.invokevirtual 134, 3) := by decide +kernel
theorem dModel_unit_185 : decode prog_14_method_42_code 185 = .ok (.aload_n 0, 1) := by decide +kernel
theorem dModel_unit_186 : decode prog_14_method_42_code 186 = .ok (.invokevirtual 126, 3) := by decide +kernel
theorem dModel_unit_189 : decode prog_14_method_42_code 189 = .ok (.ifCond .ne 5, 3) := by decide +kernel
theorem dModel_unit_192 : decode prog_14_method_42_code 192 = .ok (.iconst 1, 1) := by decide +kernel
theorem dModel_unit_193 : decode prog_14_method_42_code 193 = .ok (.ireturn, 1) := by decide +kernel
theorem dModel_unit_194 : decode prog_14_method_42_code 194 = .ok (.aload_n 0, 1) := by decide +kernel
theorem dModel_unit_195 : decode prog_14_method_42_code 195 = .ok (.bipush 7, 2) := by decide +kernel
theorem dModel_unit_197 : decode prog_14_method_42_code 197 = .ok (.iconst 0, 1) := by decide +kernel
theorem dModel_unit_198 : decode prog_14_method_42_code 198 = .ok (.invokevirtual 327, 3) := by decide +kernel
theorem dModel_unit_201 : decode prog_14_method_42_code 201 = .ok (.aload_n 0, 1) := by decide +kernel
theorem dModel_unit_202 : decode prog_14_method_42_code 202 = .ok (.dup, 1) := by decide +kernel
theorem dModel_unit_203 : decode prog_14_method_42_code 203 = .ok (.getfield 324, 3) := by decide +kernel
theorem dModel_unit_206 : decode prog_14_method_42_code 206 = .ok (.iconst 1, 1) := by decide +kernel
theorem dModel_unit_207 : decode prog_14_method_42_code 207 = .ok (.iadd, 1) := by decide +kernel
theorem dModel_unit_208 : decode prog_14_method_42_code 208 = .ok (.putfield 324, 3) := by decide +kernel
theorem dModel_unit_211 : decode prog_14_method_42_code 211 = .ok (.aload_n 0, 1) := by decide +kernel
theorem dModel_unit_212 : decode prog_14_method_42_code 212 = .ok (.invokevirtual 130, 3) := by decide +kernel
theorem dModel_unit_215 : decode prog_14_method_42_code 215 = .ok (.iconst 1, 1) := by decide +kernel
theorem dModel_unit_216 : decode prog_14_method_42_code 216 = .ok (.ireturn, 1) := by decide +kernel
theorem dModel_unit_217 : decode prog_14_method_42_code 217 = .ok (.aload_n 0, 1) := by decide +kernel
theorem dModel_unit_218 : decode prog_14_method_42_code 218 = .ok (.iload_n 2, 1) := by decide +kernel
theorem dModel_unit_219 : decode prog_14_method_42_code 219 = .ok (.ifCond .ne 8, 3) := by decide +kernel
theorem dModel_unit_222 : decode prog_14_method_42_code 222 = .ok (.bipush 78, 2) := by decide +kernel
theorem dModel_unit_224 : decode prog_14_method_42_code 224 = .ok (.goto 4, 3) := by decide +kernel
theorem dModel_unit_227 : decode prog_14_method_42_code 227 = .ok (.iload_n 2, 1) := by decide +kernel
theorem dModel_unit_228 : decode prog_14_method_42_code 228 = .ok (.iload_n 2, 1) := by decide +kernel
theorem dModel_unit_229 : decode prog_14_method_42_code 229 = .ok (.ifCond .ne 10, 3) := by decide +kernel
theorem dModel_unit_232 : decode prog_14_method_42_code 232 = .ok (.aload_n 0, 1) := by decide +kernel
theorem dModel_unit_233 : decode prog_14_method_42_code 233 = .ok (.getfield 108, 3) := by decide +kernel
theorem dModel_unit_236 : decode prog_14_method_42_code 236 = .ok (.goto 4, 3) := by decide +kernel
theorem dModel_unit_239 : decode prog_14_method_42_code 239 = .ok (.iconst 0, 1) := by decide +kernel
theorem dModel_unit_240 : decode prog_14_method_42_code 240 = .ok (.invokevirtual 339, 3) := by decide +kernel
theorem dModel_unit_243 : decode prog_14_method_42_code 243 = .ok (.aload_n 0, 1) := by decide +kernel
theorem dModel_unit_244 : decode prog_14_method_42_code 244 = .ok (.invokevirtual 130, 3) := by decide +kernel
theorem dModel_unit_247 : decode prog_14_method_42_code 247 = .ok (.iconst 0, 1) := by decide +kernel
theorem dModel_unit_248 : decode prog_14_method_42_code 248 = .ok (.ireturn, 1) := by decide +kernel
theorem dModel_rankHere_0 : decode prog_14_method_43_code 0 = .ok (.aload_n 0, 1) := by decide +kernel
theorem dModel_rankHere_1 : decode prog_14_method_43_code 1 = .ok (.ldc2_w 57, 3) := by decide +kernel
theorem dModel_rankHere_4 : decode prog_14_method_43_code 4 = .ok (.invokevirtual 178, 3) := by decide +kernel
theorem dModel_rankHere_7 : decode prog_14_method_43_code 7 = .ok (.ifCond .eq 5, 3) := by decide +kernel
theorem dModel_rankHere_10 : decode prog_14_method_43_code 10 = .ok (.iconst 2, 1) := by decide +kernel
theorem dModel_rankHere_11 : decode prog_14_method_43_code 11 = .ok (.ireturn, 1) := by decide +kernel
theorem dModel_rankHere_12 : decode prog_14_method_43_code 12 = .ok (.aload_n 0, 1) := by decide +kernel
theorem dModel_rankHere_13 : decode prog_14_method_43_code 13 = .ok (.ldc2_w 59, 3) := by decide +kernel
theorem dModel_rankHere_16 : decode prog_14_method_43_code 16 = .ok (.invokevirtual 178, 3) := by decide +kernel
theorem dModel_rankHere_19 : decode prog_14_method_43_code 19 = .ok (.ifCond .eq 5, 3) := by decide +kernel
theorem dModel_rankHere_22 : decode prog_14_method_43_code 22 = .ok (.iconst 1, 1) := by decide +kernel
theorem dModel_rankHere_23 : decode prog_14_method_43_code 23 = .ok (.ireturn, 1) := by decide +kernel
theorem dModel_rankHere_24 : decode prog_14_method_43_code 24 = .ok (.aload_n 0, 1) := by decide +kernel
theorem dModel_rankHere_25 : decode prog_14_method_43_code 25 = .ok (.bipush 60, 2) := by decide +kernel
theorem dModel_rankHere_27 : decode prog_14_method_43_code 27 = .ok (.invokevirtual 193, 3) := by decide +kernel
theorem dModel_rankHere_30 : decode prog_14_method_43_code 30 = .ok (.ifCond .ne 21, 3) := by decide +kernel
theorem dModel_rankHere_33 : decode prog_14_method_43_code 33 = .ok (.aload_n 0, 1) := by decide +kernel
theorem dModel_rankHere_34 : decode prog_14_method_43_code 34 = .ok (.bipush 62, 2) := by decide +kernel
theorem dModel_rankHere_36 : decode prog_14_method_43_code 36 = .ok (.invokevirtual 193, 3) := by decide +kernel
theorem dModel_rankHere_39 : decode prog_14_method_43_code 39 = .ok (.ifCond .ne 12, 3) := by decide +kernel
theorem dModel_rankHere_42 : decode prog_14_method_43_code 42 = .ok (.aload_n 0, 1) := by decide +kernel
theorem dModel_rankHere_43 : decode prog_14_method_43_code 43 = .ok (.bipush 61, 2) := by decide +kernel
theorem dModel_rankHere_45 : decode prog_14_method_43_code 45 = .ok (.invokevirtual 193, 3) := by decide +kernel
theorem dModel_rankHere_48 : decode prog_14_method_43_code 48 = .ok (.ifCond .eq 5, 3) := by decide +kernel
theorem dModel_rankHere_51 : decode prog_14_method_43_code 51 = .ok (.iconst 4, 1) := by decide +kernel
theorem dModel_rankHere_52 : decode prog_14_method_43_code 52 = .ok (.ireturn, 1) := by decide +kernel
theorem dModel_rankHere_53 : decode prog_14_method_43_code 53 = .ok (.aload_n 0, 1) := by decide +kernel
theorem dModel_rankHere_54 : decode prog_14_method_43_code 54 = .ok (.bipush 43, 2) := by decide +kernel
theorem dModel_rankHere_56 : decode prog_14_method_43_code 56 = .ok (.invokevirtual 193, 3) := by decide +kernel
theorem dModel_rankHere_59 : decode prog_14_method_43_code 59 = .ok (.ifCond .ne 12, 3) := by decide +kernel
theorem dModel_rankHere_62 : decode prog_14_method_43_code 62 = .ok (.aload_n 0, 1) := by decide +kernel
theorem dModel_rankHere_63 : decode prog_14_method_43_code 63 = .ok (.bipush 45, 2) := by decide +kernel
theorem dModel_rankHere_65 : decode prog_14_method_43_code 65 = .ok (.invokevirtual 193, 3) := by decide +kernel
theorem dModel_rankHere_68 : decode prog_14_method_43_code 68 = .ok (.ifCond .eq 5, 3) := by decide +kernel
theorem dModel_rankHere_71 : decode prog_14_method_43_code 71 = .ok (.iconst 5, 1) := by decide +kernel
theorem dModel_rankHere_72 : decode prog_14_method_43_code 72 = .ok (.ireturn, 1) := by decide +kernel
theorem dModel_rankHere_73 : decode prog_14_method_43_code 73 = .ok (.aload_n 0, 1) := by decide +kernel
theorem dModel_rankHere_74 : decode prog_14_method_43_code 74 = .ok (.bipush 42, 2) := by decide +kernel
theorem dModel_rankHere_76 : decode prog_14_method_43_code 76 = .ok (.invokevirtual 193, 3) := by decide +kernel
theorem dModel_rankHere_79 : decode prog_14_method_43_code 79 = .ok (.ifCond .ne 12, 3) := by decide +kernel
theorem dModel_rankHere_82 : decode prog_14_method_43_code 82 = .ok (.aload_n 0, 1) := by decide +kernel
theorem dModel_rankHere_83 : decode prog_14_method_43_code 83 = .ok (.bipush 47, 2) := by decide +kernel
theorem dModel_rankHere_85 : decode prog_14_method_43_code 85 = .ok (.invokevirtual 193, 3) := by decide +kernel
theorem dModel_rankHere_88 : decode prog_14_method_43_code 88 = .ok (.ifCond .eq 8, 3) := by decide +kernel
theorem dModel_rankHere_91 : decode prog_14_method_43_code 91 = .ok (.bipush 6, 2) := by decide +kernel
theorem dModel_rankHere_93 : decode prog_14_method_43_code 93 = .ok (.goto 4, 3) := by decide +kernel
theorem dModel_rankHere_96 : decode prog_14_method_43_code 96 = .ok (.iconst 0, 1) := by decide +kernel
theorem dModel_rankHere_97 : decode prog_14_method_43_code 97 = .ok (.ireturn, 1) := by decide +kernel
theorem dModel_behind_0 : decode prog_14_method_44_code 0 = .ok (.aload_n 0, 1) := by decide +kernel
theorem dModel_behind_1 : decode prog_14_method_44_code 1 = .ok (.invokevirtual 342, 3) := by decide +kernel
theorem dModel_behind_4 : decode prog_14_method_44_code 4 = .ok (.istore_n 1, 1) := by decide +kernel
theorem dModel_behind_5 : decode prog_14_method_44_code 5 = .ok (.iload_n 1, 1) := by decide +kernel
theorem dModel_behind_6 : decode prog_14_method_44_code 6 = .ok (.iconst 4, 1) := by decide +kernel
theorem dModel_behind_7 : decode prog_14_method_44_code 7 = .ok (.if_icmp .ne 14, 3) := by decide +kernel
theorem dModel_behind_10 : decode prog_14_method_44_code 10 = .ok (.aload_n 0, 1) := by decide +kernel
theorem dModel_behind_11 : decode prog_14_method_44_code 11 = .ok (.invokevirtual 345, 3) := by decide +kernel
theorem dModel_behind_14 : decode prog_14_method_44_code 14 = .ok (.ifCond .eq 7, 3) := by decide +kernel
theorem dModel_behind_17 : decode prog_14_method_44_code 17 = .ok (.iconst 1, 1) := by decide +kernel
theorem dModel_behind_18 : decode prog_14_method_44_code 18 = .ok (.goto 4, 3) := by decide +kernel
theorem dModel_behind_21 : decode prog_14_method_44_code 21 = .ok (.iconst 0, 1) := by decide +kernel
theorem dModel_behind_22 : decode prog_14_method_44_code 22 = .ok (.istore_n 2, 1) := by decide +kernel
theorem dModel_behind_23 : decode prog_14_method_44_code 23 = .ok (.aload_n 0, 1) := by decide +kernel
theorem dModel_behind_24 : decode prog_14_method_44_code 24 = .ok (.getfield 315, 3) := by decide +kernel
theorem dModel_behind_27 : decode prog_14_method_44_code 27 = .ok (.aload_n 0, 1) := by decide +kernel
theorem dModel_behind_28 : decode prog_14_method_44_code 28 = .ok (.getfield 318, 3) := by decide +kernel
theorem dModel_behind_31 : decode prog_14_method_44_code 31 = .ok (.iconst 1, 1) := by decide +kernel
theorem dModel_behind_32 : decode prog_14_method_44_code 32 = .ok (.isub, 1) := by decide +kernel
theorem dModel_behind_33 : decode prog_14_method_44_code 33 = .ok (.iaload, 1) := by decide +kernel
theorem dModel_behind_34 : decode prog_14_method_44_code 34 = .ok (.bipush 6, 2) := by decide +kernel
theorem dModel_behind_36 : decode prog_14_method_44_code 36 = .ok (.if_icmp .gt 72, 3) := by decide +kernel
theorem dModel_behind_39 : decode prog_14_method_44_code 39 = .ok (.aload_n 0, 1) := by decide +kernel
theorem dModel_behind_40 : decode prog_14_method_44_code 40 = .ok (.getfield 315, 3) := by decide +kernel
theorem dModel_behind_43 : decode prog_14_method_44_code 43 = .ok (.aload_n 0, 1) := by decide +kernel
theorem dModel_behind_44 : decode prog_14_method_44_code 44 = .ok (.getfield 318, 3) := by decide +kernel
theorem dModel_behind_47 : decode prog_14_method_44_code 47 = .ok (.iconst 1, 1) := by decide +kernel
theorem dModel_behind_48 : decode prog_14_method_44_code 48 = .ok (.isub, 1) := by decide +kernel
theorem dModel_behind_49 : decode prog_14_method_44_code 49 = .ok (.iaload, 1) := by decide +kernel
theorem dModel_behind_50 : decode prog_14_method_44_code 50 = .ok (.iload_n 1, 1) := by decide +kernel
theorem dModel_behind_51 : decode prog_14_method_44_code 51 = .ok (.if_icmp .lt 57, 3) := by decide +kernel
theorem dModel_behind_54 : decode prog_14_method_44_code 54 = .ok (.iload_n 2, 1) := by decide +kernel
theorem dModel_behind_55 : decode prog_14_method_44_code 55 = .ok (.ifCond .ne 53, 3) := by decide +kernel
theorem dModel_behind_58 : decode prog_14_method_44_code 58 = .ok (.aload_n 0, 1) := by decide +kernel
theorem dModel_behind_59 : decode prog_14_method_44_code 59 = .ok (.dup, 1) := by decide +kernel
theorem dModel_behind_60 : decode prog_14_method_44_code 60 = .ok (.getfield 318, 3) := by decide +kernel
theorem dModel_behind_63 : decode prog_14_method_44_code 63 = .ok (.iconst 1, 1) := by decide +kernel
theorem dModel_behind_64 : decode prog_14_method_44_code 64 = .ok (.isub, 1) := by decide +kernel
theorem dModel_behind_65 : decode prog_14_method_44_code 65 = .ok (.putfield 318, 3) := by decide +kernel
theorem dModel_behind_68 : decode prog_14_method_44_code 68 = .ok (.aload_n 0, 1) := by decide +kernel
theorem dModel_behind_69 : decode prog_14_method_44_code 69 = .ok (.getfield 315, 3) := by decide +kernel
theorem dModel_behind_72 : decode prog_14_method_44_code 72 = .ok (.aload_n 0, 1) := by decide +kernel
theorem dModel_behind_73 : decode prog_14_method_44_code 73 = .ok (.getfield 318, 3) := by decide +kernel
theorem dModel_behind_76 : decode prog_14_method_44_code 76 = .ok (.iaload, 1) := by decide +kernel
theorem dModel_behind_77 : decode prog_14_method_44_code 77 = .ok (.iconst 3, 1) := by decide +kernel
theorem dModel_behind_78 : decode prog_14_method_44_code 78 = .ok (.if_icmp .ne 13, 3) := by decide +kernel
theorem dModel_behind_81 : decode prog_14_method_44_code 81 = .ok (.aload_n 0, 1) := by decide +kernel
theorem dModel_behind_82 : decode prog_14_method_44_code 82 = .ok (.dup, 1) := by decide +kernel
theorem dModel_behind_83 : decode prog_14_method_44_code 83 = .ok (.getfield 324, 3) := by decide +kernel
theorem dModel_behind_86 : decode prog_14_method_44_code 86 = .ok (.iconst 1, 1) := by decide +kernel
theorem dModel_behind_87 : decode prog_14_method_44_code 87 = .ok (.isub, 1) := by decide +kernel
theorem dModel_behind_88 : decode prog_14_method_44_code 88 = .ok (.putfield 324, 3) := by decide +kernel
theorem dModel_behind_91 : decode prog_14_method_44_code 91 = .ok (.aload_n 0, 1) := by decide +kernel
theorem dModel_behind_92 : decode prog_14_method_44_code 92 = .ok (.aload_n 0, 1) := by decide +kernel
theorem dModel_behind_93 : decode prog_14_method_44_code 93 = .ok (.getfield 321, 3) := by decide +kernel
theorem dModel_behind_96 : decode prog_14_method_44_code 96 = .ok (.aload_n 0, 1) := by decide +kernel
theorem dModel_behind_97 : decode prog_14_method_44_code 97 = .ok (.getfield 318, 3) := by decide +kernel
theorem dModel_behind_100 : decode prog_14_method_44_code 100 = .ok (.iaload, 1) := by decide +kernel
theorem dModel_behind_101 : decode prog_14_method_44_code 101 = .ok (.iconst 0, 1) := by decide +kernel
theorem dModel_behind_102 : decode prog_14_method_44_code 102 = .ok (.invokevirtual 339, 3) := by decide +kernel
theorem dModel_behind_105 : decode prog_14_method_44_code 105 = .ok (.goto (-82), 3) := by decide +kernel
theorem dModel_behind_108 : decode prog_14_method_44_code 108 = .ok (.iload_n 1, 1) := by decide +kernel
theorem dModel_behind_109 : decode prog_14_method_44_code 109 = .ok (.ifCond .le 46, 3) := by decide +kernel
theorem dModel_behind_112 : decode prog_14_method_44_code 112 = .ok (.iload_n 2, 1) := by decide +kernel
theorem dModel_behind_113 : decode prog_14_method_44_code 113 = .ok (.ifCond .ne 42, 3) := by decide +kernel
theorem dModel_behind_116 : decode prog_14_method_44_code 116 = .ok (.aload_n 0, 1) := by decide +kernel
theorem dModel_behind_117 : decode prog_14_method_44_code 117 = .ok (.iload_n 1, 1) := by decide +kernel
theorem dModel_behind_118 : decode prog_14_method_44_code 118 = .ok (.iload_n 1, 1) := by decide +kernel
theorem dModel_behind_119 : decode prog_14_method_44_code 119 = .ok (.iconst 2, 1) := by decide +kernel
theorem dModel_behind_120 : decode prog_14_method_44_code 120 = .ok (.if_icmp .ne 8, 3) := by decide +kernel
theorem dModel_behind_123 : decode prog_14_method_44_code 123 = .ok (.bipush 38, 2) := by decide +kernel
theorem dModel_behind_125 : decode prog_14_method_44_code 125 = .ok (.goto 21, 3) := by decide +kernel
theorem dModel_behind_128 : decode prog_14_method_44_code 128 = .ok (.iload_n 1, 1) := by decide +kernel
theorem dModel_behind_129 : decode prog_14_method_44_code 129 = .ok (.iconst 1, 1) := by decide +kernel
theorem dModel_behind_130 : decode prog_14_method_44_code 130 = .ok (.if_icmp .ne 8, 3) := by decide +kernel
theorem dModel_behind_133 : decode prog_14_method_44_code 133 = .ok (.bipush 124, 2) := by decide +kernel
theorem dModel_behind_135 : decode prog_14_method_44_code 135 = .ok (.goto 11, 3) := by decide +kernel
theorem dModel_behind_138 : decode prog_14_method_44_code 138 = .ok (.aload_n 0, 1) := by decide +kernel
theorem dModel_behind_139 : decode prog_14_method_44_code 139 = .ok (.aload_n 0, 1) := by decide +kernel
theorem dModel_behind_140 : decode prog_14_method_44_code 140 = .ok (.getfield 95, 3) := by decide +kernel
theorem dModel_behind_143 : decode prog_14_method_44_code 143 = .ok (.invokevirtual 81, 3) := by decide +kernel
theorem dModel_behind_146 : decode prog_14_method_44_code 146 = .ok (.invokevirtual 327, 3) := by decide +kernel
theorem dModel_behind_149 : decode prog_14_method_44_code 149 = .ok (.aload_n 0, 1) := by decide +kernel
theorem dModel_behind_150 : decode prog_14_method_44_code 150 = .ok (.invokevirtual 130, 3) := by decide +kernel
theorem dModel_behind_153 : decode prog_14_method_44_code 153 = .ok (.iconst 1, 1) := by decide +kernel
theorem dModel_behind_154 : decode prog_14_method_44_code 154 = .ok (.ireturn, 1) := by decide +kernel
theorem dModel_behind_155 : decode prog_14_method_44_code 155 = .ok (.iload_n 2, 1) := by decide +kernel
theorem dModel_behind_156 : decode prog_14_method_44_code 156 = .ok (.ifCond .eq 9, 3) := by decide +kernel
theorem dModel_behind_159 : decode prog_14_method_44_code 159 = .ok (.aload_n 0, 1) := by decide +kernel
theorem dModel_behind_160 : decode prog_14_method_44_code 160 = .ok (.invokevirtual 134, 3) := by decide +kernel
theorem dModel_behind_163 : decode prog_14_method_44_code 163 = .ok (.iconst 1, 1) := by decide +kernel
theorem dModel_behind_164 : decode prog_14_method_44_code 164 = .ok (.ireturn, 1) := by decide +kernel
theorem dModel_behind_165 : decode prog_14_method_44_code 165 = .ok (.aload_n 0, 1) := by decide +kernel
theorem dModel_behind_166 : decode prog_14_method_44_code 166 = .ok (.dup, 1) := by decide +kernel
theorem dModel_behind_167 : decode prog_14_method_44_code 167 = .ok (.getfield 318, 3) := by decide +kernel
theorem dModel_behind_170 : decode prog_14_method_44_code 170 = .ok (.iconst 1, 1) := by decide +kernel
theorem dModel_behind_171 : decode prog_14_method_44_code 171 = .ok (.isub, 1) := by decide +kernel
theorem dModel_behind_172 : decode prog_14_method_44_code 172 = .ok (.putfield 318, 3) := by decide +kernel
theorem dModel_behind_175 : decode prog_14_method_44_code 175 = .ok (.aload_n 0, 1) := by decide +kernel
theorem dModel_behind_176 : decode prog_14_method_44_code 176 = .ok (.getfield 315, 3) := by decide +kernel
theorem dModel_behind_179 : decode prog_14_method_44_code 179 = .ok (.aload_n 0, 1) := by decide +kernel
theorem dModel_behind_180 : decode prog_14_method_44_code 180 = .ok (.getfield 318, 3) := by decide +kernel
theorem dModel_behind_183 : decode prog_14_method_44_code 183 = .ok (.iaload, 1) := by decide +kernel
theorem dModel_behind_184 : decode prog_14_method_44_code 184 = .ok (.bipush 7, 2) := by decide +kernel
theorem dModel_behind_186 : decode prog_14_method_44_code 186 = .ok (.if_icmp .ne 23, 3) := by decide +kernel
theorem dModel_behind_189 : decode prog_14_method_44_code 189 = .ok (.aload_n 0, 1) := by decide +kernel
theorem dModel_behind_190 : decode prog_14_method_44_code 190 = .ok (.dup, 1) := by decide +kernel
theorem dModel_behind_191 : decode prog_14_method_44_code 191 = .ok (.getfield 324, 3) := by decide +kernel
theorem dModel_behind_194 : decode prog_14_method_44_code 194 = .ok (.iconst 1, 1) := by decide +kernel
theorem dModel_behind_195 : decode prog_14_method_44_code 195 = .ok (.isub, 1) := by decide +kernel
theorem dModel_behind_196 : decode prog_14_method_44_code 196 = .ok (.putfield 324, 3) := by decide +kernel
theorem dModel_behind_199 : decode prog_14_method_44_code 199 = .ok (.aload_n 0, 1) := by decide +kernel
theorem dModel_behind_200 : decode prog_14_method_44_code 200 = .ok (.aload_n 0, 1) := by decide +kernel
theorem dModel_behind_201 : decode prog_14_method_44_code 201 = .ok (.bipush 41, 2) := by decide +kernel
theorem dModel_behind_203 : decode prog_14_method_44_code 203 = .ok (.invokevirtual 193, 3) := by decide +kernel
theorem dModel_behind_206 : decode prog_14_method_44_code 206 = .ok (.invokevirtual 196, 3) := by decide +kernel
theorem dModel_behind_209 : decode prog_14_method_44_code 209 = .ok (.iconst 0, 1) := by decide +kernel
theorem dModel_behind_210 : decode prog_14_method_44_code 210 = .ok (.ireturn, 1) := by decide +kernel
theorem dModel_isCompared_0 : decode prog_14_method_45_code 0 = .ok (.aload_n 0, 1) := by decide +kernel
theorem dModel_isCompared_1 : decode prog_14_method_45_code 1 = .ok (.getfield 318, 3) := by decide +kernel
theorem dModel_isCompared_4 : decode prog_14_method_45_code 4 = .ok (.iconst 1, 1) := by decide +kernel
theorem dModel_isCompared_5 : decode prog_14_method_45_code 5 = .ok (.isub, 1) := by decide +kernel
theorem dModel_isCompared_6 : decode prog_14_method_45_code 6 = .ok (.istore_n 1, 1) := by decide +kernel
theorem dModel_isCompared_7 : decode prog_14_method_45_code 7 = .ok (.aload_n 0, 1) := by decide +kernel
theorem dModel_isCompared_8 : decode prog_14_method_45_code 8 = .ok (.getfield 315, 3) := by decide +kernel
theorem dModel_isCompared_11 : decode prog_14_method_45_code 11 = .ok (.iload_n 1, 1) := by decide +kernel
theorem dModel_isCompared_12 : decode prog_14_method_45_code 12 = .ok (.iaload, 1) := by decide +kernel
theorem dModel_isCompared_13 : decode prog_14_method_45_code 13 = .ok (.iconst 5, 1) := by decide +kernel
theorem dModel_isCompared_14 : decode prog_14_method_45_code 14 = .ok (.if_icmp .eq 14, 3) := by decide +kernel
theorem dModel_isCompared_17 : decode prog_14_method_45_code 17 = .ok (.aload_n 0, 1) := by decide +kernel
theorem dModel_isCompared_18 : decode prog_14_method_45_code 18 = .ok (.getfield 315, 3) := by decide +kernel
theorem dModel_isCompared_21 : decode prog_14_method_45_code 21 = .ok (.iload_n 1, 1) := by decide +kernel
theorem dModel_isCompared_22 : decode prog_14_method_45_code 22 = .ok (.iaload, 1) := by decide +kernel
theorem dModel_isCompared_23 : decode prog_14_method_45_code 23 = .ok (.bipush 6, 2) := by decide +kernel
theorem dModel_isCompared_25 : decode prog_14_method_45_code 25 = .ok (.if_icmp .ne 9, 3) := by decide +kernel
theorem dModel_isCompared_28 : decode prog_14_method_45_code 28 = .ok (.iinc 1 (-1), 3) := by decide +kernel
theorem dModel_isCompared_31 : decode prog_14_method_45_code 31 = .ok (.goto (-24), 3) := by decide +kernel
theorem dModel_isCompared_34 : decode prog_14_method_45_code 34 = .ok (.aload_n 0, 1) := by decide +kernel
theorem dModel_isCompared_35 : decode prog_14_method_45_code 35 = .ok (.getfield 315, 3) := by decide +kernel
theorem dModel_isCompared_38 : decode prog_14_method_45_code 38 = .ok (.iload_n 1, 1) := by decide +kernel
theorem dModel_isCompared_39 : decode prog_14_method_45_code 39 = .ok (.iaload, 1) := by decide +kernel
theorem dModel_isCompared_40 : decode prog_14_method_45_code 40 = .ok (.iconst 4, 1) := by decide +kernel
theorem dModel_isCompared_41 : decode prog_14_method_45_code 41 = .ok (.if_icmp .ne 7, 3) := by decide +kernel
theorem dModel_isCompared_44 : decode prog_14_method_45_code 44 = .ok (.iconst 1, 1) := by decide +kernel
theorem dModel_isCompared_45 : decode prog_14_method_45_code 45 = .ok (.goto 4, 3) := by decide +kernel
theorem dModel_isCompared_48 : decode prog_14_method_45_code 48 = .ok (.iconst 0, 1) := by decide +kernel
theorem dModel_isCompared_49 : decode prog_14_method_45_code 49 = .ok (.ireturn, 1) := by decide +kernel
theorem dModel_term_0 : decode prog_14_method_46_code 0 = .ok (.iload_n 1, 1) := by decide +kernel
theorem dModel_term_1 : decode prog_14_method_46_code 1 = .ok (.lookupswitch 144 #[(68, 129), (78, 91), (97, 134), (100, 114), (107, 139), (109, 101), (110, 124), (115, 119), (119, 109), (121, 93)], 91) := by decide +kernel
theorem dModel_term_92 : decode prog_14_method_46_code 92 = .ok (.iload_n 2, 1) := by decide +kernel
theorem dModel_term_93 : decode prog_14_method_46_code 93 = .ok (.ireturn, 1) := by decide +kernel
theorem dModel_term_94 : decode prog_14_method_46_code 94 = .ok (.aload_n 0, 1) := by decide +kernel
theorem dModel_term_95 : decode prog_14_method_46_code 95 = .ok (.getfield 348, 3) := by decide +kernel
theorem dModel_term_98 : decode prog_14_method_46_code 98 = .ok (.bipush 12, 2) := by decide +kernel
theorem dModel_term_100 : decode prog_14_method_46_code 100 = .ok (.idiv, 1) := by decide +kernel
theorem dModel_term_101 : decode prog_14_method_46_code 101 = .ok (.ireturn, 1) := by decide +kernel
theorem dModel_term_102 : decode prog_14_method_46_code 102 = .ok (.aload_n 0, 1) := by decide +kernel
theorem dModel_term_103 : decode prog_14_method_46_code 103 = .ok (.getfield 348, 3) := by decide +kernel
theorem dModel_term_106 : decode prog_14_method_46_code 106 = .ok (.bipush 12, 2) := by decide +kernel
theorem dModel_term_108 : decode prog_14_method_46_code 108 = .ok (.irem, 1) := by decide +kernel
theorem dModel_term_109 : decode prog_14_method_46_code 109 = .ok (.ireturn, 1) := by decide +kernel
theorem dModel_term_110 : decode prog_14_method_46_code 110 = .ok (.aload_n 0, 1) := by decide +kernel
theorem dModel_term_111 : decode prog_14_method_46_code 111 = .ok (.invokevirtual 351, 3) := by decide +kernel
theorem dModel_term_114 : decode prog_14_method_46_code 114 = .ok (.ireturn, 1) := by decide +kernel
theorem dModel_term_115 : decode prog_14_method_46_code 115 = .ok (.aload_n 0, 1) := by decide +kernel
theorem dModel_term_116 : decode prog_14_method_46_code 116 = .ok (.invokevirtual 354, 3) := by decide +kernel
theorem dModel_term_119 : decode prog_14_method_46_code 119 = .ok (.ireturn, 1) := by decide +kernel
theorem dModel_term_120 : decode prog_14_method_46_code 120 = .ok (.aload_n 0, 1) := by decide +kernel
theorem dModel_term_121 : decode prog_14_method_46_code 121 = .ok (.getfield 357, 3) := by decide +kernel
theorem dModel_term_124 : decode prog_14_method_46_code 124 = .ok (.ireturn, 1) := by decide +kernel
theorem dModel_term_125 : decode prog_14_method_46_code 125 = .ok (.aload_n 0, 1) := by decide +kernel
theorem dModel_term_126 : decode prog_14_method_46_code 126 = .ok (.getfield 360, 3) := by decide +kernel
theorem dModel_term_129 : decode prog_14_method_46_code 129 = .ok (.ireturn, 1) := by decide +kernel
theorem dModel_term_130 : decode prog_14_method_46_code 130 = .ok (.aload_n 0, 1) := by decide +kernel
theorem dModel_term_131 : decode prog_14_method_46_code 131 = .ok (.getfield 363, 3) := by decide +kernel
theorem dModel_term_134 : decode prog_14_method_46_code 134 = .ok (.ireturn, 1) := by decide +kernel
theorem dModel_term_135 : decode prog_14_method_46_code 135 = .ok (.aload_n 0, 1) := by decide +kernel
theorem dModel_term_136 : decode prog_14_method_46_code 136 = .ok (.getfield 366, 3) := by decide +kernel
theorem dModel_term_139 : decode prog_14_method_46_code 139 = .ok (.ireturn, 1) := by decide +kernel
theorem dModel_term_140 : decode prog_14_method_46_code 140 = .ok (.aload_n 0, 1) := by decide +kernel
theorem dModel_term_141 : decode prog_14_method_46_code 141 = .ok (.getfield 369, 3) := by decide +kernel
theorem dModel_term_144 : decode prog_14_method_46_code 144 = .ok (.ireturn, 1) := by decide +kernel
theorem dModel_term_145 : decode prog_14_method_46_code 145 = .ok (.aload_n 0, 1) := by decide +kernel
theorem dModel_term_146 : decode prog_14_method_46_code 146 = .ok (.getfield 372, 3) := by decide +kernel
theorem dModel_term_149 : decode prog_14_method_46_code 149 = .ok (.ireturn, 1) := by decide +kernel
theorem dModel_two_0 : decode prog_14_method_47_code 0 = .ok (.iload_n 0, 1) := by decide +kernel
theorem dModel_two_1 : decode prog_14_method_47_code 1 = .ok (.tableswitch 186 38 62 #[172, 186, 186, 186, 123, 115, 186, 119, 186, 127, 186, 186, 186, 186, 186, 186, 186, 186, 186, 186, 186, 186, 139, 161, 150], 115) := by decide +kernel
theorem dModel_two_116 : decode prog_14_method_47_code 116 = .ok (.iload_n 1, 1) := by decide +kernel
theorem dModel_two_117 : decode prog_14_method_47_code 117 = .ok (.iload_n 2, 1) := by decide +kernel
theorem dModel_two_118 : decode prog_14_method_47_code 118 = .ok (.iadd, 1) := by decide +kernel
theorem dModel_two_119 : decode prog_14_method_47_code 119 = .ok (.ireturn, 1) := by decide +kernel
theorem dModel_two_120 : decode prog_14_method_47_code 120 = .ok (.iload_n 1, 1) := by decide +kernel
theorem dModel_two_121 : decode prog_14_method_47_code 121 = .ok (.iload_n 2, 1) := by decide +kernel
theorem dModel_two_122 : decode prog_14_method_47_code 122 = .ok (.isub, 1) := by decide +kernel
theorem dModel_two_123 : decode prog_14_method_47_code 123 = .ok (.ireturn, 1) := by decide +kernel
theorem dModel_two_124 : decode prog_14_method_47_code 124 = .ok (.iload_n 1, 1) := by decide +kernel
theorem dModel_two_125 : decode prog_14_method_47_code 125 = .ok (.iload_n 2, 1) := by decide +kernel
theorem dModel_two_126 : decode prog_14_method_47_code 126 = .ok (.imul, 1) := by decide +kernel
theorem dModel_two_127 : decode prog_14_method_47_code 127 = .ok (.ireturn, 1) := by decide +kernel
theorem dModel_two_128 : decode prog_14_method_47_code 128 = .ok (.iload_n 2, 1) := by decide +kernel
theorem dModel_two_129 : decode prog_14_method_47_code 129 = .ok (.ifCond .ne 7, 3) := by decide +kernel
theorem dModel_two_132 : decode prog_14_method_47_code 132 = .ok (.iconst 0, 1) := by decide +kernel
theorem dModel_two_133 : decode prog_14_method_47_code 133 = .ok (.goto 6, 3) := by decide +kernel
theorem dModel_two_136 : decode prog_14_method_47_code 136 = .ok (.iload_n 1, 1) := by decide +kernel
theorem dModel_two_137 : decode prog_14_method_47_code 137 = .ok (.iload_n 2, 1) := by decide +kernel
theorem dModel_two_138 : decode prog_14_method_47_code 138 = .ok (.idiv, 1) := by decide +kernel
theorem dModel_two_139 : decode prog_14_method_47_code 139 = .ok (.ireturn, 1) := by decide +kernel
theorem dModel_two_140 : decode prog_14_method_47_code 140 = .ok (.iload_n 1, 1) := by decide +kernel
theorem dModel_two_141 : decode prog_14_method_47_code 141 = .ok (.iload_n 2, 1) := by decide +kernel
theorem dModel_two_142 : decode prog_14_method_47_code 142 = .ok (.if_icmp .ge 7, 3) := by decide +kernel
theorem dModel_two_145 : decode prog_14_method_47_code 145 = .ok (.iconst 1, 1) := by decide +kernel
theorem dModel_two_146 : decode prog_14_method_47_code 146 = .ok (.goto 4, 3) := by decide +kernel
theorem dModel_two_149 : decode prog_14_method_47_code 149 = .ok (.iconst 0, 1) := by decide +kernel
theorem dModel_two_150 : decode prog_14_method_47_code 150 = .ok (.ireturn, 1) := by decide +kernel
theorem dModel_two_151 : decode prog_14_method_47_code 151 = .ok (.iload_n 1, 1) := by decide +kernel
theorem dModel_two_152 : decode prog_14_method_47_code 152 = .ok (.iload_n 2, 1) := by decide +kernel
theorem dModel_two_153 : decode prog_14_method_47_code 153 = .ok (.if_icmp .le 7, 3) := by decide +kernel
theorem dModel_two_156 : decode prog_14_method_47_code 156 = .ok (.iconst 1, 1) := by decide +kernel
theorem dModel_two_157 : decode prog_14_method_47_code 157 = .ok (.goto 4, 3) := by decide +kernel
theorem dModel_two_160 : decode prog_14_method_47_code 160 = .ok (.iconst 0, 1) := by decide +kernel
theorem dModel_two_161 : decode prog_14_method_47_code 161 = .ok (.ireturn, 1) := by decide +kernel
theorem dModel_two_162 : decode prog_14_method_47_code 162 = .ok (.iload_n 1, 1) := by decide +kernel
theorem dModel_two_163 : decode prog_14_method_47_code 163 = .ok (.iload_n 2, 1) := by decide +kernel
theorem dModel_two_164 : decode prog_14_method_47_code 164 = .ok (.if_icmp .ne 7, 3) := by decide +kernel
theorem dModel_two_167 : decode prog_14_method_47_code 167 = .ok (.iconst 1, 1) := by decide +kernel
theorem dModel_two_168 : decode prog_14_method_47_code 168 = .ok (.goto 4, 3) := by decide +kernel
theorem dModel_two_171 : decode prog_14_method_47_code 171 = .ok (.iconst 0, 1) := by decide +kernel
theorem dModel_two_172 : decode prog_14_method_47_code 172 = .ok (.ireturn, 1) := by decide +kernel
theorem dModel_two_173 : decode prog_14_method_47_code 173 = .ok (.iload_n 1, 1) := by decide +kernel
theorem dModel_two_174 : decode prog_14_method_47_code 174 = .ok (.ifCond .eq 11, 3) := by decide +kernel
theorem dModel_two_177 : decode prog_14_method_47_code 177 = .ok (.iload_n 2, 1) := by decide +kernel
theorem dModel_two_178 : decode prog_14_method_47_code 178 = .ok (.ifCond .eq 7, 3) := by decide +kernel
theorem dModel_two_181 : decode prog_14_method_47_code 181 = .ok (.iconst 1, 1) := by decide +kernel
theorem dModel_two_182 : decode prog_14_method_47_code 182 = .ok (.goto 4, 3) := by decide +kernel
theorem dModel_two_185 : decode prog_14_method_47_code 185 = .ok (.iconst 0, 1) := by decide +kernel
theorem dModel_two_186 : decode prog_14_method_47_code 186 = .ok (.ireturn, 1) := by decide +kernel
theorem dModel_two_187 : decode prog_14_method_47_code 187 = .ok (.iload_n 1, 1) := by decide +kernel
theorem dModel_two_188 : decode prog_14_method_47_code 188 = .ok (.ifCond .ne 7, 3) := by decide +kernel
theorem dModel_two_191 : decode prog_14_method_47_code 191 = .ok (.iload_n 2, 1) := by decide +kernel
theorem dModel_two_192 : decode prog_14_method_47_code 192 = .ok (.ifCond .eq 7, 3) := by decide +kernel
theorem dModel_two_195 : decode prog_14_method_47_code 195 = .ok (.iconst 1, 1) := by decide +kernel
theorem dModel_two_196 : decode prog_14_method_47_code 196 = .ok (.goto 4, 3) := by decide +kernel
theorem dModel_two_199 : decode prog_14_method_47_code 199 = .ok (.iconst 0, 1) := by decide +kernel
theorem dModel_two_200 : decode prog_14_method_47_code 200 = .ok (.ireturn, 1) := by decide +kernel
theorem dModel_told_0 : decode prog_14_method_48_code 0 = .ok (.bipush 10, 2) := by decide +kernel
theorem dModel_told_2 : decode prog_14_method_48_code 2 = .ok (.iload_n 1, 1) := by decide +kernel
theorem dModel_told_3 : decode prog_14_method_48_code 3 = .ok (.imul, 1) := by decide +kernel
theorem dModel_told_4 : decode prog_14_method_48_code 4 = .ok (.iload_n 2, 1) := by decide +kernel
theorem dModel_told_5 : decode prog_14_method_48_code 5 = .ok (.iadd, 1) := by decide +kernel
theorem dModel_told_6 : decode prog_14_method_48_code 6 = .ok (.istore_n 3, 1) := by decide +kernel
theorem dModel_told_7 : decode prog_14_method_48_code 7 = .ok (.aload_n 0, 1) := by decide +kernel
theorem dModel_told_8 : decode prog_14_method_48_code 8 = .ok (.getfield 285, 3) := by decide +kernel
theorem dModel_told_11 : decode prog_14_method_48_code 11 = .ok (.iload_n 3, 1) := by decide +kernel
theorem dModel_told_12 : decode prog_14_method_48_code 12 = .ok (.iaload, 1) := by decide +kernel
theorem dModel_told_13 : decode prog_14_method_48_code 13 = .ok (.ifCond .ge 5, 3) := by decide +kernel
theorem dModel_told_16 : decode prog_14_method_48_code 16 = .ok (.iconst 0, 1) := by decide +kernel
theorem dModel_told_17 : decode prog_14_method_48_code 17 = .ok (.ireturn, 1) := by decide +kernel
theorem dModel_told_18 : decode prog_14_method_48_code 18 = .ok (.iconst 0, 1) := by decide +kernel
theorem dModel_told_19 : decode prog_14_method_48_code 19 = .ok (.istore 4, 2) := by decide +kernel
theorem dModel_told_21 : decode prog_14_method_48_code 21 = .ok (.sipush 700, 3) := by decide +kernel
theorem dModel_told_24 : decode prog_14_method_48_code 24 = .ok (.iload_n 1, 1) := by decide +kernel
theorem dModel_told_25 : decode prog_14_method_48_code 25 = .ok (.imul, 1) := by decide +kernel
theorem dModel_told_26 : decode prog_14_method_48_code 26 = .ok (.aload_n 0, 1) := by decide +kernel
theorem dModel_told_27 : decode prog_14_method_48_code 27 = .ok (.getfield 285, 3) := by decide +kernel
theorem dModel_told_30 : decode prog_14_method_48_code 30 = .ok (.iload_n 3, 1) := by decide +kernel
theorem dModel_told_31 : decode prog_14_method_48_code 31 = .ok (.iaload, 1) := by decide +kernel
theorem dModel_told_32 : decode prog_14_method_48_code 32 = .ok (.iadd, 1) := by decide +kernel
theorem dModel_told_33 : decode prog_14_method_48_code 33 = .ok (.istore 5, 2) := by decide +kernel
theorem dModel_told_35 : decode prog_14_method_48_code 35 = .ok (.iload 5, 2) := by decide +kernel
theorem dModel_told_37 : decode prog_14_method_48_code 37 = .ok (.sipush 700, 3) := by decide +kernel
theorem dModel_told_40 : decode prog_14_method_48_code 40 = .ok (.iload_n 1, 1) := by decide +kernel
theorem dModel_told_41 : decode prog_14_method_48_code 41 = .ok (.imul, 1) := by decide +kernel
theorem dModel_told_42 : decode prog_14_method_48_code 42 = .ok (.aload_n 0, 1) := by decide +kernel
theorem dModel_told_43 : decode prog_14_method_48_code 43 = .ok (.getfield 300, 3) := by decide +kernel
theorem dModel_told_46 : decode prog_14_method_48_code 46 = .ok (.iload_n 3, 1) := by decide +kernel
theorem dModel_told_47 : decode prog_14_method_48_code 47 = .ok (.iaload, 1) := by decide +kernel
theorem dModel_told_48 : decode prog_14_method_48_code 48 = .ok (.iadd, 1) := by decide +kernel
theorem dModel_told_49 : decode prog_14_method_48_code 49 = .ok (.if_icmp .ge 141, 3) := by decide +kernel
theorem dModel_told_52 : decode prog_14_method_48_code 52 = .ok (.aload_n 0, 1) := by decide +kernel
theorem dModel_told_53 : decode prog_14_method_48_code 53 = .ok (.getfield 303, 3) := by decide +kernel
theorem dModel_told_56 : decode prog_14_method_48_code 56 = .ok (.iload 5, 2) := by decide +kernel
theorem dModel_told_58 : decode prog_14_method_48_code 58 = .ok (.iaload, 1) := by decide +kernel
theorem dModel_told_59 : decode prog_14_method_48_code 59 = .ok (.istore 6, 2) := by decide +kernel
theorem dModel_told_61 : decode prog_14_method_48_code 61 = .ok (.iload 6, 2) := by decide +kernel
theorem dModel_told_63 : decode prog_14_method_48_code 63 = .ok (.bipush 126, 2) := by decide +kernel
theorem dModel_told_65 : decode prog_14_method_48_code 65 = .ok (.if_icmp .ne 32, 3) := by decide +kernel
theorem dModel_told_68 : decode prog_14_method_48_code 68 = .ok (.aload_n 0, 1) := by decide +kernel
theorem dModel_told_69 : decode prog_14_method_48_code 69 = .ok (.getfield 375, 3) := by decide +kernel
theorem dModel_told_72 : decode prog_14_method_48_code 72 = .ok (.iload 4, 2) := by decide +kernel
theorem dModel_told_74 : decode prog_14_method_48_code 74 = .ok (.iconst 1, 1) := by decide +kernel
theorem dModel_told_75 : decode prog_14_method_48_code 75 = .ok (.isub, 1) := by decide +kernel
theorem dModel_told_76 : decode prog_14_method_48_code 76 = .ok (.aload_n 0, 1) := by decide +kernel
theorem dModel_told_77 : decode prog_14_method_48_code 77 = .ok (.getfield 375, 3) := by decide +kernel
theorem dModel_told_80 : decode prog_14_method_48_code 80 = .ok (.iload 4, 2) := by decide +kernel
theorem dModel_told_82 : decode prog_14_method_48_code 82 = .ok (.iconst 1, 1) := by decide +kernel
theorem dModel_told_83 : decode prog_14_method_48_code 83 = .ok (.isub, 1) := by decide +kernel
theorem dModel_told_84 : decode prog_14_method_48_code 84 = .ok (.iaload, 1) := by decide +kernel
theorem dModel_told_85 : decode prog_14_method_48_code 85 = .ok (.ifCond .ne 7, 3) := by decide +kernel
theorem dModel_told_88 : decode prog_14_method_48_code 88 = .ok (.iconst 1, 1) := by decide +kernel
theorem dModel_told_89 : decode prog_14_method_48_code 89 = .ok (.goto 4, 3) := by decide +kernel
theorem dModel_told_92 : decode prog_14_method_48_code 92 = .ok (.iconst 0, 1) := by decide +kernel
theorem dModel_told_93 : decode prog_14_method_48_code 93 = .ok (.iastore, 1) := by decide +kernel
theorem dModel_told_94 : decode prog_14_method_48_code 94 = .ok (.goto 90, 3) := by decide +kernel
theorem dModel_told_97 : decode prog_14_method_48_code 97 = .ok (.iload 6, 2) := by decide +kernel
theorem dModel_told_99 : decode prog_14_method_48_code 99 = .ok (.bipush 97, 2) := by decide +kernel
theorem dModel_told_101 : decode prog_14_method_48_code 101 = .ok (.if_icmp .lt 10, 3) := by decide +kernel
theorem dModel_told_104 : decode prog_14_method_48_code 104 = .ok (.iload 6, 2) := by decide +kernel
theorem dModel_told_106 : decode prog_14_method_48_code 106 = .ok (.bipush 122, 2) := by decide +kernel
theorem dModel_told_108 : decode prog_14_method_48_code 108 = .ok (.if_icmp .le 17, 3) := by decide +kernel
theorem dModel_told_111 : decode prog_14_method_48_code 111 = .ok (.iload 6, 2) := by decide +kernel
theorem dModel_told_113 : decode prog_14_method_48_code 113 = .ok (.bipush 78, 2) := by decide +kernel
theorem dModel_told_115 : decode prog_14_method_48_code 115 = .ok (.if_icmp .eq 10, 3) := by decide +kernel
theorem dModel_told_118 : decode prog_14_method_48_code 118 = .ok (.iload 6, 2) := by decide +kernel
theorem dModel_told_120 : decode prog_14_method_48_code 120 = .ok (.bipush 68, 2) := by decide +kernel
theorem dModel_told_122 : decode prog_14_method_48_code 122 = .ok (.if_icmp .ne 29, 3) := by decide +kernel
theorem dModel_told_125 : decode prog_14_method_48_code 125 = .ok (.aload_n 0, 1) := by decide +kernel
theorem dModel_told_126 : decode prog_14_method_48_code 126 = .ok (.getfield 375, 3) := by decide +kernel
theorem dModel_told_129 : decode prog_14_method_48_code 129 = .ok (.iload 4, 2) := by decide +kernel
theorem dModel_told_131 : decode prog_14_method_48_code 131 = .ok (.aload_n 0, 1) := by decide +kernel
theorem dModel_told_132 : decode prog_14_method_48_code 132 = .ok (.iload 6, 2) := by decide +kernel
theorem dModel_told_134 : decode prog_14_method_48_code 134 = .ok (.aload_n 0, 1) := by decide +kernel
theorem dModel_told_135 : decode prog_14_method_48_code 135 = .ok (.getfield 306, 3) := by decide +kernel
theorem dModel_told_138 : decode prog_14_method_48_code 138 = .ok (.iload 5, 2) := by decide +kernel
theorem dModel_told_140 : decode prog_14_method_48_code 140 = .ok (.iaload, 1) := by decide +kernel
theorem dModel_told_141 : decode prog_14_method_48_code 141 = .ok (.invokevirtual 377, 3) := by decide +kernel
theorem dModel_told_144 : decode prog_14_method_48_code 144 = .ok (.iastore, 1) := by decide +kernel
theorem dModel_told_145 : decode prog_14_method_48_code 145 = .ok (.iinc 4 1, 3) := by decide +kernel
theorem dModel_told_148 : decode prog_14_method_48_code 148 = .ok (.goto 36, 3) := by decide +kernel
theorem dModel_told_151 : decode prog_14_method_48_code 151 = .ok (.iinc 4 (-1), 3) := by decide +kernel
theorem dModel_told_154 : decode prog_14_method_48_code 154 = .ok (.aload_n 0, 1) := by decide +kernel
theorem dModel_told_155 : decode prog_14_method_48_code 155 = .ok (.getfield 375, 3) := by decide +kernel
theorem dModel_told_158 : decode prog_14_method_48_code 158 = .ok (.iload 4, 2) := by decide +kernel
theorem dModel_told_160 : decode prog_14_method_48_code 160 = .ok (.iconst 1, 1) := by decide +kernel
theorem dModel_told_161 : decode prog_14_method_48_code 161 = .ok (.isub, 1) := by decide +kernel
theorem dModel_told_162 : decode prog_14_method_48_code 162 = .ok (.iload 6, 2) := by decide +kernel
theorem dModel_told_164 : decode prog_14_method_48_code 164 = .ok (.aload_n 0, 1) := by decide +kernel
theorem dModel_told_165 : decode prog_14_method_48_code 165 = .ok (.getfield 375, 3) := by decide +kernel
theorem dModel_told_168 : decode prog_14_method_48_code 168 = .ok (.iload 4, 2) := by decide +kernel
theorem dModel_told_170 : decode prog_14_method_48_code 170 = .ok (.iconst 1, 1) := by decide +kernel
theorem dModel_told_171 : decode prog_14_method_48_code 171 = .ok (.isub, 1) := by decide +kernel
theorem dModel_told_172 : decode prog_14_method_48_code 172 = .ok (.iaload, 1) := by decide +kernel
theorem dModel_told_173 : decode prog_14_method_48_code 173 = .ok (.aload_n 0, 1) := by decide +kernel
theorem dModel_told_174 : decode prog_14_method_48_code 174 = .ok (.getfield 375, 3) := by decide +kernel
theorem dModel_told_177 : decode prog_14_method_48_code 177 = .ok (.iload 4, 2) := by decide +kernel
theorem dModel_told_179 : decode prog_14_method_48_code 179 = .ok (.iaload, 1) := by decide +kernel
theorem dModel_told_180 : decode prog_14_method_48_code 180 = .ok (.invokestatic 380, 3) := by decide +kernel
theorem dModel_told_183 : decode prog_14_method_48_code 183 = .ok (.iastore, 1) := by decide +kernel
theorem dModel_told_184 : decode prog_14_method_48_code 184 = .ok (.iinc 5 1, 3) := by decide +kernel
theorem dModel_told_187 : decode prog_14_method_48_code 187 = .ok (.goto (-152), 3) := by decide +kernel
theorem dModel_told_190 : decode prog_14_method_48_code 190 = .ok (.aload_n 0, 1) := by decide +kernel
theorem dModel_told_191 : decode prog_14_method_48_code 191 = .ok (.getfield 375, 3) := by decide +kernel
theorem dModel_told_194 : decode prog_14_method_48_code 194 = .ok (.iconst 0, 1) := by decide +kernel
theorem dModel_told_195 : decode prog_14_method_48_code 195 = .ok (.iaload, 1) := by decide +kernel
theorem dModel_told_196 : decode prog_14_method_48_code 196 = .ok (.ireturn, 1) := by decide +kernel
theorem dModel_bounded_0 : decode prog_14_method_49_code 0 = .ok (.aload_n 0, 1) := by decide +kernel
theorem dModel_bounded_1 : decode prog_14_method_49_code 1 = .ok (.iload_n 1, 1) := by decide +kernel
theorem dModel_bounded_2 : decode prog_14_method_49_code 2 = .ok (.iload_n 2, 1) := by decide +kernel
theorem dModel_bounded_3 : decode prog_14_method_49_code 3 = .ok (.invokevirtual 384, 3) := by decide +kernel
theorem dModel_bounded_6 : decode prog_14_method_49_code 6 = .ok (.istore_n 3, 1) := by decide +kernel
theorem dModel_bounded_7 : decode prog_14_method_49_code 7 = .ok (.iload_n 2, 1) := by decide +kernel
theorem dModel_bounded_8 : decode prog_14_method_49_code 8 = .ok (.iconst 4, 1) := by decide +kernel
theorem dModel_bounded_9 : decode prog_14_method_49_code 9 = .ok (.if_icmp .ne 8, 3) := by decide +kernel
theorem dModel_bounded_12 : decode prog_14_method_49_code 12 = .ok (.bipush 100, 2) := by decide +kernel
theorem dModel_bounded_14 : decode prog_14_method_49_code 14 = .ok (.goto 6, 3) := by decide +kernel
theorem dModel_bounded_17 : decode prog_14_method_49_code 17 = .ok (.sipush 9999, 3) := by decide +kernel
theorem dModel_bounded_20 : decode prog_14_method_49_code 20 = .ok (.istore 4, 2) := by decide +kernel
theorem dModel_bounded_22 : decode prog_14_method_49_code 22 = .ok (.iload_n 3, 1) := by decide +kernel
theorem dModel_bounded_23 : decode prog_14_method_49_code 23 = .ok (.ifCond .ge 7, 3) := by decide +kernel
theorem dModel_bounded_26 : decode prog_14_method_49_code 26 = .ok (.iconst 0, 1) := by decide +kernel
theorem dModel_bounded_27 : decode prog_14_method_49_code 27 = .ok (.goto 15, 3) := by decide +kernel
theorem dModel_bounded_30 : decode prog_14_method_49_code 30 = .ok (.iload_n 3, 1) := by decide +kernel
theorem dModel_bounded_31 : decode prog_14_method_49_code 31 = .ok (.iload 4, 2) := by decide +kernel
theorem dModel_bounded_33 : decode prog_14_method_49_code 33 = .ok (.if_icmp .le 8, 3) := by decide +kernel
theorem dModel_bounded_36 : decode prog_14_method_49_code 36 = .ok (.iload 4, 2) := by decide +kernel
theorem dModel_bounded_38 : decode prog_14_method_49_code 38 = .ok (.goto 4, 3) := by decide +kernel
theorem dModel_bounded_41 : decode prog_14_method_49_code 41 = .ok (.iload_n 3, 1) := by decide +kernel
theorem dModel_bounded_42 : decode prog_14_method_49_code 42 = .ok (.ireturn, 1) := by decide +kernel
theorem dModel_merchant_0 : decode prog_14_method_50_code 0 = .ok (.iload_n 1, 1) := by decide +kernel
theorem dModel_merchant_1 : decode prog_14_method_50_code 1 = .ok (.ifCond .lt 19, 3) := by decide +kernel
theorem dModel_merchant_4 : decode prog_14_method_50_code 4 = .ok (.iload_n 1, 1) := by decide +kernel
theorem dModel_merchant_5 : decode prog_14_method_50_code 5 = .ok (.sipush 30000, 3) := by decide +kernel
theorem dModel_merchant_8 : decode prog_14_method_50_code 8 = .ok (.if_icmp .gt 12, 3) := by decide +kernel
theorem dModel_merchant_11 : decode prog_14_method_50_code 11 = .ok (.aload_n 0, 1) := by decide +kernel
theorem dModel_merchant_12 : decode prog_14_method_50_code 12 = .ok (.getfield 387, 3) := by decide +kernel
theorem dModel_merchant_15 : decode prog_14_method_50_code 15 = .ok (.bipush 6, 2) := by decide +kernel
theorem dModel_merchant_17 : decode prog_14_method_50_code 17 = .ok (.if_icmp .ne 5, 3) := by decide +kernel
theorem dModel_merchant_20 : decode prog_14_method_50_code 20 = .ok (.iconst (-1), 1) := by decide +kernel
theorem dModel_merchant_21 : decode prog_14_method_50_code 21 = .ok (.ireturn, 1) := by decide +kernel
theorem dModel_merchant_22 : decode prog_14_method_50_code 22 = .ok (.aload_n 0, 1) := by decide +kernel
theorem dModel_merchant_23 : decode prog_14_method_50_code 23 = .ok (.iconst 0, 1) := by decide +kernel
theorem dModel_merchant_24 : decode prog_14_method_50_code 24 = .ok (.putfield 172, 3) := by decide +kernel
theorem dModel_merchant_27 : decode prog_14_method_50_code 27 = .ok (.aload_n 0, 1) := by decide +kernel
theorem dModel_merchant_28 : decode prog_14_method_50_code 28 = .ok (.getfield 390, 3) := by decide +kernel
theorem dModel_merchant_31 : decode prog_14_method_50_code 31 = .ok (.aload_n 0, 1) := by decide +kernel
theorem dModel_merchant_32 : decode prog_14_method_50_code 32 = .ok (.getfield 387, 3) := by decide +kernel
theorem dModel_merchant_35 : decode prog_14_method_50_code 35 = .ok (.iload_n 1, 1) := by decide +kernel
theorem dModel_merchant_36 : decode prog_14_method_50_code 36 = .ok (.iastore, 1) := by decide +kernel
theorem dModel_merchant_37 : decode prog_14_method_50_code 37 = .ok (.aload_n 0, 1) := by decide +kernel
theorem dModel_merchant_38 : decode prog_14_method_50_code 38 = .ok (.dup, 1) := by decide +kernel
theorem dModel_merchant_39 : decode prog_14_method_50_code 39 = .ok (.getfield 387, 3) := by decide +kernel
theorem dModel_merchant_42 : decode prog_14_method_50_code 42 = .ok (.iconst 1, 1) := by decide +kernel
theorem dModel_merchant_43 : decode prog_14_method_50_code 43 = .ok (.iadd, 1) := by decide +kernel
theorem dModel_merchant_44 : decode prog_14_method_50_code 44 = .ok (.putfield 387, 3) := by decide +kernel
theorem dModel_merchant_47 : decode prog_14_method_50_code 47 = .ok (.aload_n 0, 1) := by decide +kernel
theorem dModel_merchant_48 : decode prog_14_method_50_code 48 = .ok (.getfield 387, 3) := by decide +kernel
theorem dModel_merchant_51 : decode prog_14_method_50_code 51 = .ok (.iconst 1, 1) := by decide +kernel
theorem dModel_merchant_52 : decode prog_14_method_50_code 52 = .ok (.isub, 1) := by decide +kernel
theorem dModel_merchant_53 : decode prog_14_method_50_code 53 = .ok (.ireturn, 1) := by decide +kernel
theorem dModel_isIn_0 : decode prog_14_method_51_code 0 = .ok (.iload_n 0, 1) := by decide +kernel
theorem dModel_isIn_1 : decode prog_14_method_51_code 1 = .ok (.iload_n 1, 1) := by decide +kernel
theorem dModel_isIn_2 : decode prog_14_method_51_code 2 = .ok (.if_icmp .lt 12, 3) := by decide +kernel
theorem dModel_isIn_5 : decode prog_14_method_51_code 5 = .ok (.iload_n 0, 1) := by decide +kernel
theorem dModel_isIn_6 : decode prog_14_method_51_code 6 = .ok (.iload_n 2, 1) := by decide +kernel
theorem dModel_isIn_7 : decode prog_14_method_51_code 7 = .ok (.if_icmp .gt 7, 3) := by decide +kernel
theorem dModel_isIn_10 : decode prog_14_method_51_code 10 = .ok (.iconst 1, 1) := by decide +kernel
theorem dModel_isIn_11 : decode prog_14_method_51_code 11 = .ok (.goto 4, 3) := by decide +kernel
theorem dModel_isIn_14 : decode prog_14_method_51_code 14 = .ok (.iconst 0, 1) := by decide +kernel
theorem dModel_isIn_15 : decode prog_14_method_51_code 15 = .ok (.ireturn, 1) := by decide +kernel
theorem dModel_costs_0 : decode prog_14_method_52_code 0 = .ok (.iload_n 1, 1) := by decide +kernel
theorem dModel_costs_1 : decode prog_14_method_52_code 1 = .ok (.iconst 0, 1) := by decide +kernel
theorem dModel_costs_2 : decode prog_14_method_52_code 2 = .ok (.bipush 99, 2) := by decide +kernel
theorem dModel_costs_4 : decode prog_14_method_52_code 4 = .ok (.invokestatic 393, 3) := by decide +kernel
theorem dModel_costs_7 : decode prog_14_method_52_code 7 = .ok (.ifCond .eq 47, 3) := by decide +kernel
theorem dModel_costs_10 : decode prog_14_method_52_code 10 = .ok (.iload_n 2, 1) := by decide +kernel
theorem dModel_costs_11 : decode prog_14_method_52_code 11 = .ok (.iconst 1, 1) := by decide +kernel
theorem dModel_costs_12 : decode prog_14_method_52_code 12 = .ok (.bipush 50, 2) := by decide +kernel
theorem dModel_costs_14 : decode prog_14_method_52_code 14 = .ok (.invokestatic 393, 3) := by decide +kernel
theorem dModel_costs_17 : decode prog_14_method_52_code 17 = .ok (.ifCond .eq 37, 3) := by decide +kernel
theorem dModel_costs_20 : decode prog_14_method_52_code 20 = .ok (.iload_n 3, 1) := by decide +kernel
theorem dModel_costs_21 : decode prog_14_method_52_code 21 = .ok (.iconst 0, 1) := by decide +kernel
theorem dModel_costs_22 : decode prog_14_method_52_code 22 = .ok (.bipush 99, 2) := by decide +kernel
theorem dModel_costs_24 : decode prog_14_method_52_code 24 = .ok (.invokestatic 393, 3) := by decide +kernel
theorem dModel_costs_27 : decode prog_14_method_52_code 27 = .ok (.ifCond .eq 27, 3) := by decide +kernel
theorem dModel_costs_30 : decode prog_14_method_52_code 30 = .ok (.iload 4, 2) := by decide +kernel
theorem dModel_costs_32 : decode prog_14_method_52_code 32 = .ok (.iconst 0, 1) := by decide +kernel
theorem dModel_costs_33 : decode prog_14_method_52_code 33 = .ok (.sipush 9999, 3) := by decide +kernel
theorem dModel_costs_36 : decode prog_14_method_52_code 36 = .ok (.invokestatic 393, 3) := by decide +kernel
theorem dModel_costs_39 : decode prog_14_method_52_code 39 = .ok (.ifCond .eq 15, 3) := by decide +kernel
theorem dModel_costs_42 : decode prog_14_method_52_code 42 = .ok (.iload 5, 2) := by decide +kernel
theorem dModel_costs_44 : decode prog_14_method_52_code 44 = .ok (.iconst 0, 1) := by decide +kernel
theorem dModel_costs_45 : decode prog_14_method_52_code 45 = .ok (.sipush 999, 3) := by decide +kernel
theorem dModel_costs_48 : decode prog_14_method_52_code 48 = .ok (.invokestatic 393, 3) := by decide +kernel
theorem dModel_costs_51 : decode prog_14_method_52_code 51 = .ok (.ifCond .ne 5, 3) := by decide +kernel
theorem dModel_costs_54 : decode prog_14_method_52_code 54 = .ok (.iconst 0, 1) := by decide +kernel
theorem dModel_costs_55 : decode prog_14_method_52_code 55 = .ok (.ireturn, 1) := by decide +kernel
theorem dModel_costs_56 : decode prog_14_method_52_code 56 = .ok (.aload_n 0, 1) := by decide +kernel
theorem dModel_costs_57 : decode prog_14_method_52_code 57 = .ok (.iconst 0, 1) := by decide +kernel
theorem dModel_costs_58 : decode prog_14_method_52_code 58 = .ok (.putfield 172, 3) := by decide +kernel
theorem dModel_costs_61 : decode prog_14_method_52_code 61 = .ok (.aload_n 0, 1) := by decide +kernel
theorem dModel_costs_62 : decode prog_14_method_52_code 62 = .ok (.iload_n 1, 1) := by decide +kernel
theorem dModel_costs_63 : decode prog_14_method_52_code 63 = .ok (.putfield 397, 3) := by decide +kernel
theorem dModel_costs_66 : decode prog_14_method_52_code 66 = .ok (.aload_n 0, 1) := by decide +kernel
theorem dModel_costs_67 : decode prog_14_method_52_code 67 = .ok (.iload_n 2, 1) := by decide +kernel
theorem dModel_costs_68 : decode prog_14_method_52_code 68 = .ok (.putfield 400, 3) := by decide +kernel
theorem dModel_costs_71 : decode prog_14_method_52_code 71 = .ok (.aload_n 0, 1) := by decide +kernel
theorem dModel_costs_72 : decode prog_14_method_52_code 72 = .ok (.iload_n 3, 1) := by decide +kernel
theorem dModel_costs_73 : decode prog_14_method_52_code 73 = .ok (.putfield 403, 3) := by decide +kernel
theorem dModel_costs_76 : decode prog_14_method_52_code 76 = .ok (.aload_n 0, 1) := by decide +kernel
theorem dModel_costs_77 : decode prog_14_method_52_code 77 = .ok (.iload 4, 2) := by decide +kernel
theorem dModel_costs_79 : decode prog_14_method_52_code 79 = .ok (.putfield 406, 3) := by decide +kernel
theorem dModel_costs_82 : decode prog_14_method_52_code 82 = .ok (.aload_n 0, 1) := by decide +kernel
theorem dModel_costs_83 : decode prog_14_method_52_code 83 = .ok (.iload 5, 2) := by decide +kernel
theorem dModel_costs_85 : decode prog_14_method_52_code 85 = .ok (.putfield 409, 3) := by decide +kernel
theorem dModel_costs_88 : decode prog_14_method_52_code 88 = .ok (.iconst 1, 1) := by decide +kernel
theorem dModel_costs_89 : decode prog_14_method_52_code 89 = .ok (.ireturn, 1) := by decide +kernel
theorem dModel_fact_0 : decode prog_14_method_53_code 0 = .ok (.aload_n 0, 1) := by decide +kernel
theorem dModel_fact_1 : decode prog_14_method_53_code 1 = .ok (.getfield 169, 3) := by decide +kernel
theorem dModel_fact_4 : decode prog_14_method_53_code 4 = .ok (.bipush 40, 2) := by decide +kernel
theorem dModel_fact_6 : decode prog_14_method_53_code 6 = .ok (.if_icmp .ne 5, 3) := by decide +kernel
theorem dModel_fact_9 : decode prog_14_method_53_code 9 = .ok (.iconst (-1), 1) := by decide +kernel
theorem dModel_fact_10 : decode prog_14_method_53_code 10 = .ok (.ireturn, 1) := by decide +kernel
theorem dModel_fact_11 : decode prog_14_method_53_code 11 = .ok (.aload_n 0, 1) := by decide +kernel
theorem dModel_fact_12 : decode prog_14_method_53_code 12 = .ok (.getfield 412, 3) := by decide +kernel
theorem dModel_fact_15 : decode prog_14_method_53_code 15 = .ok (.aload_n 0, 1) := by decide +kernel
theorem dModel_fact_16 : decode prog_14_method_53_code 16 = .ok (.getfield 169, 3) := by decide +kernel
theorem dModel_fact_19 : decode prog_14_method_53_code 19 = .ok (.iload_n 1, 1) := by decide +kernel
theorem dModel_fact_20 : decode prog_14_method_53_code 20 = .ok (.iastore, 1) := by decide +kernel
theorem dModel_fact_21 : decode prog_14_method_53_code 21 = .ok (.aload_n 0, 1) := by decide +kernel
theorem dModel_fact_22 : decode prog_14_method_53_code 22 = .ok (.getfield 415, 3) := by decide +kernel
theorem dModel_fact_25 : decode prog_14_method_53_code 25 = .ok (.aload_n 0, 1) := by decide +kernel
theorem dModel_fact_26 : decode prog_14_method_53_code 26 = .ok (.getfield 169, 3) := by decide +kernel
theorem dModel_fact_29 : decode prog_14_method_53_code 29 = .ok (.iload_n 2, 1) := by decide +kernel
theorem dModel_fact_30 : decode prog_14_method_53_code 30 = .ok (.iastore, 1) := by decide +kernel
theorem dModel_fact_31 : decode prog_14_method_53_code 31 = .ok (.aload_n 0, 1) := by decide +kernel
theorem dModel_fact_32 : decode prog_14_method_53_code 32 = .ok (.getfield 418, 3) := by decide +kernel
theorem dModel_fact_35 : decode prog_14_method_53_code 35 = .ok (.aload_n 0, 1) := by decide +kernel
theorem dModel_fact_36 : decode prog_14_method_53_code 36 = .ok (.getfield 169, 3) := by decide +kernel
theorem dModel_fact_39 : decode prog_14_method_53_code 39 = .ok (.iload_n 3, 1) := by decide +kernel
theorem dModel_fact_40 : decode prog_14_method_53_code 40 = .ok (.iastore, 1) := by decide +kernel
theorem dModel_fact_41 : decode prog_14_method_53_code 41 = .ok (.aload_n 0, 1) := by decide +kernel
theorem dModel_fact_42 : decode prog_14_method_53_code 42 = .ok (.getfield 421, 3) := by decide +kernel
theorem dModel_fact_45 : decode prog_14_method_53_code 45 = .ok (.aload_n 0, 1) := by decide +kernel
theorem dModel_fact_46 : decode prog_14_method_53_code 46 = .ok (.getfield 169, 3) := by decide +kernel
theorem dModel_fact_49 : decode prog_14_method_53_code 49 = .ok (.iload 4, 2) := by decide +kernel
theorem dModel_fact_51 : decode prog_14_method_53_code 51 = .ok (.iastore, 1) := by decide +kernel
theorem dModel_fact_52 : decode prog_14_method_53_code 52 = .ok (.aload_n 0, 1) := by decide +kernel
theorem dModel_fact_53 : decode prog_14_method_53_code 53 = .ok (.getfield 424, 3) := by decide +kernel
theorem dModel_fact_56 : decode prog_14_method_53_code 56 = .ok (.aload_n 0, 1) := by decide +kernel
theorem dModel_fact_57 : decode prog_14_method_53_code 57 = .ok (.getfield 169, 3) := by decide +kernel
theorem dModel_fact_60 : decode prog_14_method_53_code 60 = .ok (.aload_n 0, 1) := by decide +kernel
theorem dModel_fact_61 : decode prog_14_method_53_code 61 = .ok (.getfield 427, 3) := by decide +kernel
theorem dModel_fact_64 : decode prog_14_method_53_code 64 = .ok (.iastore, 1) := by decide +kernel
theorem dModel_fact_65 : decode prog_14_method_53_code 65 = .ok (.aload_n 0, 1) := by decide +kernel
theorem dModel_fact_66 : decode prog_14_method_53_code 66 = .ok (.getfield 430, 3) := by decide +kernel
theorem dModel_fact_69 : decode prog_14_method_53_code 69 = .ok (.aload_n 0, 1) := by decide +kernel
theorem dModel_fact_70 : decode prog_14_method_53_code 70 = .ok (.getfield 169, 3) := by decide +kernel
theorem dModel_fact_73 : decode prog_14_method_53_code 73 = .ok (.iconst (-1), 1) := by decide +kernel
theorem dModel_fact_74 : decode prog_14_method_53_code 74 = .ok (.iastore, 1) := by decide +kernel
theorem dModel_fact_75 : decode prog_14_method_53_code 75 = .ok (.aload_n 0, 1) := by decide +kernel
theorem dModel_fact_76 : decode prog_14_method_53_code 76 = .ok (.dup, 1) := by decide +kernel
theorem dModel_fact_77 : decode prog_14_method_53_code 77 = .ok (.getfield 169, 3) := by decide +kernel
theorem dModel_fact_80 : decode prog_14_method_53_code 80 = .ok (.iconst 1, 1) := by decide +kernel
theorem dModel_fact_81 : decode prog_14_method_53_code 81 = .ok (.iadd, 1) := by decide +kernel
theorem dModel_fact_82 : decode prog_14_method_53_code 82 = .ok (.putfield 169, 3) := by decide +kernel
theorem dModel_fact_85 : decode prog_14_method_53_code 85 = .ok (.aload_n 0, 1) := by decide +kernel
theorem dModel_fact_86 : decode prog_14_method_53_code 86 = .ok (.getfield 169, 3) := by decide +kernel
theorem dModel_fact_89 : decode prog_14_method_53_code 89 = .ok (.iconst 1, 1) := by decide +kernel
theorem dModel_fact_90 : decode prog_14_method_53_code 90 = .ok (.isub, 1) := by decide +kernel
theorem dModel_fact_91 : decode prog_14_method_53_code 91 = .ok (.ireturn, 1) := by decide +kernel
theorem dModel_isMonth_0 : decode prog_14_method_54_code 0 = .ok (.iload_n 0, 1) := by decide +kernel
theorem dModel_isMonth_1 : decode prog_14_method_54_code 1 = .ok (.iconst 0, 1) := by decide +kernel
theorem dModel_isMonth_2 : decode prog_14_method_54_code 2 = .ok (.sipush 239, 3) := by decide +kernel
theorem dModel_isMonth_5 : decode prog_14_method_54_code 5 = .ok (.invokestatic 393, 3) := by decide +kernel
theorem dModel_isMonth_8 : decode prog_14_method_54_code 8 = .ok (.ireturn, 1) := by decide +kernel
theorem dModel_weather_0 : decode prog_14_method_55_code 0 = .ok (.iload_n 1, 1) := by decide +kernel
theorem dModel_weather_1 : decode prog_14_method_55_code 1 = .ok (.iconst 0, 1) := by decide +kernel
theorem dModel_weather_2 : decode prog_14_method_55_code 2 = .ok (.aload_n 0, 1) := by decide +kernel
theorem dModel_weather_3 : decode prog_14_method_55_code 3 = .ok (.invokevirtual 433, 3) := by decide +kernel
theorem dModel_weather_6 : decode prog_14_method_55_code 6 = .ok (.iconst 1, 1) := by decide +kernel
theorem dModel_weather_7 : decode prog_14_method_55_code 7 = .ok (.isub, 1) := by decide +kernel
theorem dModel_weather_8 : decode prog_14_method_55_code 8 = .ok (.invokestatic 393, 3) := by decide +kernel
theorem dModel_weather_11 : decode prog_14_method_55_code 11 = .ok (.ifCond .eq 32, 3) := by decide +kernel
theorem dModel_weather_14 : decode prog_14_method_55_code 14 = .ok (.iload_n 2, 1) := by decide +kernel
theorem dModel_weather_15 : decode prog_14_method_55_code 15 = .ok (.invokestatic 436, 3) := by decide +kernel
theorem dModel_weather_18 : decode prog_14_method_55_code 18 = .ok (.ifCond .eq 25, 3) := by decide +kernel
theorem dModel_weather_21 : decode prog_14_method_55_code 21 = .ok (.iload_n 3, 1) := by decide +kernel
theorem dModel_weather_22 : decode prog_14_method_55_code 22 = .ok (.iconst 0, 1) := by decide +kernel
theorem dModel_weather_23 : decode prog_14_method_55_code 23 = .ok (.sipush 300, 3) := by decide +kernel
theorem dModel_weather_26 : decode prog_14_method_55_code 26 = .ok (.invokestatic 393, 3) := by decide +kernel
theorem dModel_weather_29 : decode prog_14_method_55_code 29 = .ok (.ifCond .eq 14, 3) := by decide +kernel
theorem dModel_weather_32 : decode prog_14_method_55_code 32 = .ok (.aload_n 0, 1) := by decide +kernel
theorem dModel_weather_33 : decode prog_14_method_55_code 33 = .ok (.iconst 0, 1) := by decide +kernel
theorem dModel_weather_34 : decode prog_14_method_55_code 34 = .ok (.iload_n 1, 1) := by decide +kernel
theorem dModel_weather_35 : decode prog_14_method_55_code 35 = .ok (.iload_n 2, 1) := by decide +kernel
theorem dModel_weather_36 : decode prog_14_method_55_code 36 = .ok (.iload_n 3, 1) := by decide +kernel
theorem dModel_weather_37 : decode prog_14_method_55_code 37 = .ok (.invokevirtual 439, 3) := by decide +kernel
theorem dModel_weather_40 : decode prog_14_method_55_code 40 = .ok (.goto 4, 3) := by decide +kernel
theorem dModel_weather_43 : decode prog_14_method_55_code 43 = .ok (.iconst (-1), 1) := by decide +kernel
theorem dModel_weather_44 : decode prog_14_method_55_code 44 = .ok (.ireturn, 1) := by decide +kernel
theorem dModel_forged_0 : decode prog_14_method_56_code 0 = .ok (.iload_n 1, 1) := by decide +kernel
theorem dModel_forged_1 : decode prog_14_method_56_code 1 = .ok (.iconst 0, 1) := by decide +kernel
theorem dModel_forged_2 : decode prog_14_method_56_code 2 = .ok (.sipush 1999, 3) := by decide +kernel
theorem dModel_forged_5 : decode prog_14_method_56_code 5 = .ok (.invokestatic 393, 3) := by decide +kernel
theorem dModel_forged_8 : decode prog_14_method_56_code 8 = .ok (.ifCond .eq 21, 3) := by decide +kernel
theorem dModel_forged_11 : decode prog_14_method_56_code 11 = .ok (.iload_n 2, 1) := by decide +kernel
theorem dModel_forged_12 : decode prog_14_method_56_code 12 = .ok (.invokestatic 436, 3) := by decide +kernel
theorem dModel_forged_15 : decode prog_14_method_56_code 15 = .ok (.ifCond .eq 14, 3) := by decide +kernel
theorem dModel_forged_18 : decode prog_14_method_56_code 18 = .ok (.aload_n 0, 1) := by decide +kernel
theorem dModel_forged_19 : decode prog_14_method_56_code 19 = .ok (.iconst 1, 1) := by decide +kernel
theorem dModel_forged_20 : decode prog_14_method_56_code 20 = .ok (.iload_n 1, 1) := by decide +kernel
theorem dModel_forged_21 : decode prog_14_method_56_code 21 = .ok (.iload_n 2, 1) := by decide +kernel
theorem dModel_forged_22 : decode prog_14_method_56_code 22 = .ok (.iconst 0, 1) := by decide +kernel
theorem dModel_forged_23 : decode prog_14_method_56_code 23 = .ok (.invokevirtual 439, 3) := by decide +kernel
theorem dModel_forged_26 : decode prog_14_method_56_code 26 = .ok (.goto 4, 3) := by decide +kernel
theorem dModel_forged_29 : decode prog_14_method_56_code 29 = .ok (.iconst (-1), 1) := by decide +kernel
theorem dModel_forged_30 : decode prog_14_method_56_code 30 = .ok (.ireturn, 1) := by decide +kernel
theorem dModel_dead_0 : decode prog_14_method_57_code 0 = .ok (.iload_n 1, 1) := by decide +kernel
theorem dModel_dead_1 : decode prog_14_method_57_code 1 = .ok (.iconst 0, 1) := by decide +kernel
theorem dModel_dead_2 : decode prog_14_method_57_code 2 = .ok (.aload_n 0, 1) := by decide +kernel
theorem dModel_dead_3 : decode prog_14_method_57_code 3 = .ok (.getfield 387, 3) := by decide +kernel
theorem dModel_dead_6 : decode prog_14_method_57_code 6 = .ok (.iconst 1, 1) := by decide +kernel
theorem dModel_dead_7 : decode prog_14_method_57_code 7 = .ok (.isub, 1) := by decide +kernel
theorem dModel_dead_8 : decode prog_14_method_57_code 8 = .ok (.invokestatic 393, 3) := by decide +kernel
theorem dModel_dead_11 : decode prog_14_method_57_code 11 = .ok (.ifCond .eq 40, 3) := by decide +kernel
theorem dModel_dead_14 : decode prog_14_method_57_code 14 = .ok (.iload_n 2, 1) := by decide +kernel
theorem dModel_dead_15 : decode prog_14_method_57_code 15 = .ok (.invokestatic 436, 3) := by decide +kernel
theorem dModel_dead_18 : decode prog_14_method_57_code 18 = .ok (.ifCond .eq 33, 3) := by decide +kernel
theorem dModel_dead_21 : decode prog_14_method_57_code 21 = .ok (.iload_n 3, 1) := by decide +kernel
theorem dModel_dead_22 : decode prog_14_method_57_code 22 = .ok (.iconst (-1), 1) := by decide +kernel
theorem dModel_dead_23 : decode prog_14_method_57_code 23 = .ok (.aload_n 0, 1) := by decide +kernel
theorem dModel_dead_24 : decode prog_14_method_57_code 24 = .ok (.getfield 387, 3) := by decide +kernel
theorem dModel_dead_27 : decode prog_14_method_57_code 27 = .ok (.iconst 1, 1) := by decide +kernel
theorem dModel_dead_28 : decode prog_14_method_57_code 28 = .ok (.isub, 1) := by decide +kernel
theorem dModel_dead_29 : decode prog_14_method_57_code 29 = .ok (.invokestatic 393, 3) := by decide +kernel
theorem dModel_dead_32 : decode prog_14_method_57_code 32 = .ok (.ifCond .eq 19, 3) := by decide +kernel
theorem dModel_dead_35 : decode prog_14_method_57_code 35 = .ok (.iload_n 3, 1) := by decide +kernel
theorem dModel_dead_36 : decode prog_14_method_57_code 36 = .ok (.iload_n 1, 1) := by decide +kernel
theorem dModel_dead_37 : decode prog_14_method_57_code 37 = .ok (.if_icmp .eq 14, 3) := by decide +kernel
theorem dModel_dead_40 : decode prog_14_method_57_code 40 = .ok (.aload_n 0, 1) := by decide +kernel
theorem dModel_dead_41 : decode prog_14_method_57_code 41 = .ok (.iconst 2, 1) := by decide +kernel
theorem dModel_dead_42 : decode prog_14_method_57_code 42 = .ok (.iload_n 1, 1) := by decide +kernel
theorem dModel_dead_43 : decode prog_14_method_57_code 43 = .ok (.iload_n 2, 1) := by decide +kernel
theorem dModel_dead_44 : decode prog_14_method_57_code 44 = .ok (.iload_n 3, 1) := by decide +kernel
theorem dModel_dead_45 : decode prog_14_method_57_code 45 = .ok (.invokevirtual 439, 3) := by decide +kernel
theorem dModel_dead_48 : decode prog_14_method_57_code 48 = .ok (.goto 4, 3) := by decide +kernel
theorem dModel_dead_51 : decode prog_14_method_57_code 51 = .ok (.iconst (-1), 1) := by decide +kernel
theorem dModel_dead_52 : decode prog_14_method_57_code 52 = .ok (.ireturn, 1) := by decide +kernel
theorem dModel_untell_0 : decode prog_14_method_58_code 0 = .ok (.iload_n 1, 1) := by decide +kernel
theorem dModel_untell_1 : decode prog_14_method_58_code 1 = .ok (.ifCond .lt 20, 3) := by decide +kernel
theorem dModel_untell_4 : decode prog_14_method_58_code 4 = .ok (.iload_n 1, 1) := by decide +kernel
theorem dModel_untell_5 : decode prog_14_method_58_code 5 = .ok (.aload_n 0, 1) := by decide +kernel
theorem dModel_untell_6 : decode prog_14_method_58_code 6 = .ok (.getfield 169, 3) := by decide +kernel
theorem dModel_untell_9 : decode prog_14_method_58_code 9 = .ok (.if_icmp .ge 12, 3) := by decide +kernel
theorem dModel_untell_12 : decode prog_14_method_58_code 12 = .ok (.aload_n 0, 1) := by decide +kernel
theorem dModel_untell_13 : decode prog_14_method_58_code 13 = .ok (.getfield 430, 3) := by decide +kernel
theorem dModel_untell_16 : decode prog_14_method_58_code 16 = .ok (.iload_n 1, 1) := by decide +kernel
theorem dModel_untell_17 : decode prog_14_method_58_code 17 = .ok (.iaload, 1) := by decide +kernel
theorem dModel_untell_18 : decode prog_14_method_58_code 18 = .ok (.ifCond .lt 5, 3) := by decide +kernel
theorem dModel_untell_21 : decode prog_14_method_58_code 21 = .ok (.iconst 0, 1) := by decide +kernel
theorem dModel_untell_22 : decode prog_14_method_58_code 22 = .ok (.ireturn, 1) := by decide +kernel
theorem dModel_untell_23 : decode prog_14_method_58_code 23 = .ok (.aload_n 0, 1) := by decide +kernel
theorem dModel_untell_24 : decode prog_14_method_58_code 24 = .ok (.getfield 430, 3) := by decide +kernel
theorem dModel_untell_27 : decode prog_14_method_58_code 27 = .ok (.iload_n 1, 1) := by decide +kernel
theorem dModel_untell_28 : decode prog_14_method_58_code 28 = .ok (.aload_n 0, 1) := by decide +kernel
theorem dModel_untell_29 : decode prog_14_method_58_code 29 = .ok (.getfield 427, 3) := by decide +kernel
theorem dModel_untell_32 : decode prog_14_method_58_code 32 = .ok (.iastore, 1) := by decide +kernel
theorem dModel_untell_33 : decode prog_14_method_58_code 33 = .ok (.iconst 1, 1) := by decide +kernel
theorem dModel_untell_34 : decode prog_14_method_58_code 34 = .ok (.ireturn, 1) := by decide +kernel
theorem dModel_later_0 : decode prog_14_method_59_code 0 = .ok (.iload_n 1, 1) := by decide +kernel
theorem dModel_later_1 : decode prog_14_method_59_code 1 = .ok (.ifCond .lt 22, 3) := by decide +kernel
theorem dModel_later_4 : decode prog_14_method_59_code 4 = .ok (.iload_n 1, 1) := by decide +kernel
theorem dModel_later_5 : decode prog_14_method_59_code 5 = .ok (.sipush 1000, 3) := by decide +kernel
theorem dModel_later_8 : decode prog_14_method_59_code 8 = .ok (.if_icmp .gt 15, 3) := by decide +kernel
theorem dModel_later_11 : decode prog_14_method_59_code 11 = .ok (.aload_n 0, 1) := by decide +kernel
theorem dModel_later_12 : decode prog_14_method_59_code 12 = .ok (.getfield 427, 3) := by decide +kernel
theorem dModel_later_15 : decode prog_14_method_59_code 15 = .ok (.iload_n 1, 1) := by decide +kernel
theorem dModel_later_16 : decode prog_14_method_59_code 16 = .ok (.iadd, 1) := by decide +kernel
theorem dModel_later_17 : decode prog_14_method_59_code 17 = .ok (.ldc_w 443, 3) := by decide +kernel
theorem dModel_later_20 : decode prog_14_method_59_code 20 = .ok (.if_icmp .le 5, 3) := by decide +kernel
theorem dModel_later_23 : decode prog_14_method_59_code 23 = .ok (.iconst (-1), 1) := by decide +kernel
theorem dModel_later_24 : decode prog_14_method_59_code 24 = .ok (.ireturn, 1) := by decide +kernel
theorem dModel_later_25 : decode prog_14_method_59_code 25 = .ok (.aload_n 0, 1) := by decide +kernel
theorem dModel_later_26 : decode prog_14_method_59_code 26 = .ok (.dup, 1) := by decide +kernel
theorem dModel_later_27 : decode prog_14_method_59_code 27 = .ok (.getfield 427, 3) := by decide +kernel
theorem dModel_later_30 : decode prog_14_method_59_code 30 = .ok (.iload_n 1, 1) := by decide +kernel
theorem dModel_later_31 : decode prog_14_method_59_code 31 = .ok (.iadd, 1) := by decide +kernel
theorem dModel_later_32 : decode prog_14_method_59_code 32 = .ok (.putfield 427, 3) := by decide +kernel
theorem dModel_later_35 : decode prog_14_method_59_code 35 = .ok (.aload_n 0, 1) := by decide +kernel
theorem dModel_later_36 : decode prog_14_method_59_code 36 = .ok (.getfield 427, 3) := by decide +kernel
theorem dModel_later_39 : decode prog_14_method_59_code 39 = .ok (.ireturn, 1) := by decide +kernel
theorem dModel_counts_0 : decode prog_14_method_60_code 0 = .ok (.aload_n 0, 1) := by decide +kernel
theorem dModel_counts_1 : decode prog_14_method_60_code 1 = .ok (.getfield 412, 3) := by decide +kernel
theorem dModel_counts_4 : decode prog_14_method_60_code 4 = .ok (.iload_n 1, 1) := by decide +kernel
theorem dModel_counts_5 : decode prog_14_method_60_code 5 = .ok (.iaload, 1) := by decide +kernel
theorem dModel_counts_6 : decode prog_14_method_60_code 6 = .ok (.iload_n 2, 1) := by decide +kernel
theorem dModel_counts_7 : decode prog_14_method_60_code 7 = .ok (.if_icmp .ne 42, 3) := by decide +kernel
theorem dModel_counts_10 : decode prog_14_method_60_code 10 = .ok (.aload_n 0, 1) := by decide +kernel
theorem dModel_counts_11 : decode prog_14_method_60_code 11 = .ok (.getfield 424, 3) := by decide +kernel
theorem dModel_counts_14 : decode prog_14_method_60_code 14 = .ok (.iload_n 1, 1) := by decide +kernel
theorem dModel_counts_15 : decode prog_14_method_60_code 15 = .ok (.iaload, 1) := by decide +kernel
theorem dModel_counts_16 : decode prog_14_method_60_code 16 = .ok (.aload_n 0, 1) := by decide +kernel
theorem dModel_counts_17 : decode prog_14_method_60_code 17 = .ok (.getfield 444, 3) := by decide +kernel
theorem dModel_counts_20 : decode prog_14_method_60_code 20 = .ok (.if_icmp .gt 29, 3) := by decide +kernel
theorem dModel_counts_23 : decode prog_14_method_60_code 23 = .ok (.aload_n 0, 1) := by decide +kernel
theorem dModel_counts_24 : decode prog_14_method_60_code 24 = .ok (.getfield 430, 3) := by decide +kernel
theorem dModel_counts_27 : decode prog_14_method_60_code 27 = .ok (.iload_n 1, 1) := by decide +kernel
theorem dModel_counts_28 : decode prog_14_method_60_code 28 = .ok (.iaload, 1) := by decide +kernel
theorem dModel_counts_29 : decode prog_14_method_60_code 29 = .ok (.ifCond .lt 16, 3) := by decide +kernel
theorem dModel_counts_32 : decode prog_14_method_60_code 32 = .ok (.aload_n 0, 1) := by decide +kernel
theorem dModel_counts_33 : decode prog_14_method_60_code 33 = .ok (.getfield 430, 3) := by decide +kernel
theorem dModel_counts_36 : decode prog_14_method_60_code 36 = .ok (.iload_n 1, 1) := by decide +kernel
theorem dModel_counts_37 : decode prog_14_method_60_code 37 = .ok (.iaload, 1) := by decide +kernel
theorem dModel_counts_38 : decode prog_14_method_60_code 38 = .ok (.aload_n 0, 1) := by decide +kernel
theorem dModel_counts_39 : decode prog_14_method_60_code 39 = .ok (.getfield 444, 3) := by decide +kernel
theorem dModel_counts_42 : decode prog_14_method_60_code 42 = .ok (.if_icmp .le 7, 3) := by decide +kernel
theorem dModel_counts_45 : decode prog_14_method_60_code 45 = .ok (.iconst 1, 1) := by decide +kernel
theorem dModel_counts_46 : decode prog_14_method_60_code 46 = .ok (.goto 4, 3) := by decide +kernel
theorem dModel_counts_49 : decode prog_14_method_60_code 49 = .ok (.iconst 0, 1) := by decide +kernel
theorem dModel_counts_50 : decode prog_14_method_60_code 50 = .ok (.ireturn, 1) := by decide +kernel
theorem dModel_waits_0 : decode prog_14_method_61_code 0 = .ok (.aload_n 0, 1) := by decide +kernel
theorem dModel_waits_1 : decode prog_14_method_61_code 1 = .ok (.getfield 447, 3) := by decide +kernel
theorem dModel_waits_4 : decode prog_14_method_61_code 4 = .ok (.iload_n 1, 1) := by decide +kernel
theorem dModel_waits_5 : decode prog_14_method_61_code 5 = .ok (.iaload, 1) := by decide +kernel
theorem dModel_waits_6 : decode prog_14_method_61_code 6 = .ok (.ifCond .ge 16, 3) := by decide +kernel
theorem dModel_waits_9 : decode prog_14_method_61_code 9 = .ok (.aload_n 0, 1) := by decide +kernel
theorem dModel_waits_10 : decode prog_14_method_61_code 10 = .ok (.getfield 450, 3) := by decide +kernel
theorem dModel_waits_13 : decode prog_14_method_61_code 13 = .ok (.iload_n 1, 1) := by decide +kernel
theorem dModel_waits_14 : decode prog_14_method_61_code 14 = .ok (.baload, 1) := by decide +kernel
theorem dModel_waits_15 : decode prog_14_method_61_code 15 = .ok (.ifCond .ne 7, 3) := by decide +kernel
theorem dModel_waits_18 : decode prog_14_method_61_code 18 = .ok (.iconst 1, 1) := by decide +kernel
theorem dModel_waits_19 : decode prog_14_method_61_code 19 = .ok (.goto 4, 3) := by decide +kernel
theorem dModel_waits_22 : decode prog_14_method_61_code 22 = .ok (.iconst 0, 1) := by decide +kernel
theorem dModel_waits_23 : decode prog_14_method_61_code 23 = .ok (.ireturn, 1) := by decide +kernel
theorem dModel_waitingAt_0 : decode prog_14_method_62_code 0 = .ok (.iconst 0, 1) := by decide +kernel
theorem dModel_waitingAt_1 : decode prog_14_method_62_code 1 = .ok (.istore_n 2, 1) := by decide +kernel
theorem dModel_waitingAt_2 : decode prog_14_method_62_code 2 = .ok (.iconst 0, 1) := by decide +kernel
theorem dModel_waitingAt_3 : decode prog_14_method_62_code 3 = .ok (.istore_n 3, 1) := by decide +kernel
theorem dModel_waitingAt_4 : decode prog_14_method_62_code 4 = .ok (.iload_n 3, 1) := by decide +kernel
theorem dModel_waitingAt_5 : decode prog_14_method_62_code 5 = .ok (.aload_n 0, 1) := by decide +kernel
theorem dModel_waitingAt_6 : decode prog_14_method_62_code 6 = .ok (.getfield 454, 3) := by decide +kernel
theorem dModel_waitingAt_9 : decode prog_14_method_62_code 9 = .ok (.if_icmp .ge 36, 3) := by decide +kernel
theorem dModel_waitingAt_12 : decode prog_14_method_62_code 12 = .ok (.aload_n 0, 1) := by decide +kernel
theorem dModel_waitingAt_13 : decode prog_14_method_62_code 13 = .ok (.getfield 457, 3) := by decide +kernel
theorem dModel_waitingAt_16 : decode prog_14_method_62_code 16 = .ok (.iload_n 3, 1) := by decide +kernel
theorem dModel_waitingAt_17 : decode prog_14_method_62_code 17 = .ok (.iaload, 1) := by decide +kernel
theorem dModel_waitingAt_18 : decode prog_14_method_62_code 18 = .ok (.iload_n 1, 1) := by decide +kernel
theorem dModel_waitingAt_19 : decode prog_14_method_62_code 19 = .ok (.if_icmp .ne 20, 3) := by decide +kernel
theorem dModel_waitingAt_22 : decode prog_14_method_62_code 22 = .ok (.aload_n 0, 1) := by decide +kernel
theorem dModel_waitingAt_23 : decode prog_14_method_62_code 23 = .ok (.iload_n 3, 1) := by decide +kernel
theorem dModel_waitingAt_24 : decode prog_14_method_62_code 24 = .ok (.invokevirtual 460, 3) := by decide +kernel
theorem dModel_waitingAt_27 : decode prog_14_method_62_code 27 = .ok (.ifCond .eq 12, 3) := by decide +kernel
theorem dModel_waitingAt_30 : decode prog_14_method_62_code 30 = .ok (.iload_n 2, 1) := by decide +kernel
theorem dModel_waitingAt_31 : decode prog_14_method_62_code 31 = .ok (.aload_n 0, 1) := by decide +kernel
theorem dModel_waitingAt_32 : decode prog_14_method_62_code 32 = .ok (.getfield 463, 3) := by decide +kernel
theorem dModel_waitingAt_35 : decode prog_14_method_62_code 35 = .ok (.iload_n 3, 1) := by decide +kernel
theorem dModel_waitingAt_36 : decode prog_14_method_62_code 36 = .ok (.iaload, 1) := by decide +kernel
theorem dModel_waitingAt_37 : decode prog_14_method_62_code 37 = .ok (.iadd, 1) := by decide +kernel
theorem dModel_waitingAt_38 : decode prog_14_method_62_code 38 = .ok (.istore_n 2, 1) := by decide +kernel
theorem dModel_waitingAt_39 : decode prog_14_method_62_code 39 = .ok (.iinc 3 1, 3) := by decide +kernel
theorem dModel_waitingAt_42 : decode prog_14_method_62_code 42 = .ok (.goto (-38), 3) := by decide +kernel
theorem dModel_waitingAt_45 : decode prog_14_method_62_code 45 = .ok (.iload_n 2, 1) := by decide +kernel
theorem dModel_waitingAt_46 : decode prog_14_method_62_code 46 = .ok (.ireturn, 1) := by decide +kernel
theorem dModel_waitingAll_0 : decode prog_14_method_63_code 0 = .ok (.iconst 0, 1) := by decide +kernel
theorem dModel_waitingAll_1 : decode prog_14_method_63_code 1 = .ok (.istore_n 1, 1) := by decide +kernel
theorem dModel_waitingAll_2 : decode prog_14_method_63_code 2 = .ok (.iconst 0, 1) := by decide +kernel
theorem dModel_waitingAll_3 : decode prog_14_method_63_code 3 = .ok (.istore_n 2, 1) := by decide +kernel
theorem dModel_waitingAll_4 : decode prog_14_method_63_code 4 = .ok (.iload_n 2, 1) := by decide +kernel
theorem dModel_waitingAll_5 : decode prog_14_method_63_code 5 = .ok (.aload_n 0, 1) := by decide +kernel
theorem dModel_waitingAll_6 : decode prog_14_method_63_code 6 = .ok (.invokevirtual 433, 3) := by decide +kernel
theorem dModel_waitingAll_9 : decode prog_14_method_63_code 9 = .ok (.if_icmp .ge 17, 3) := by decide +kernel
theorem dModel_waitingAll_12 : decode prog_14_method_63_code 12 = .ok (.iload_n 1, 1) := by decide +kernel
theorem dModel_waitingAll_13 : decode prog_14_method_63_code 13 = .ok (.aload_n 0, 1) := by decide +kernel
theorem dModel_waitingAll_14 : decode prog_14_method_63_code 14 = .ok (.iload_n 2, 1) := by decide +kernel
theorem dModel_waitingAll_15 : decode prog_14_method_63_code 15 = .ok (.invokevirtual 466, 3) := by decide +kernel
theorem dModel_waitingAll_18 : decode prog_14_method_63_code 18 = .ok (.iadd, 1) := by decide +kernel
theorem dModel_waitingAll_19 : decode prog_14_method_63_code 19 = .ok (.istore_n 1, 1) := by decide +kernel
theorem dModel_waitingAll_20 : decode prog_14_method_63_code 20 = .ok (.iinc 2 1, 3) := by decide +kernel
theorem dModel_waitingAll_23 : decode prog_14_method_63_code 23 = .ok (.goto (-19), 3) := by decide +kernel
theorem dModel_waitingAll_26 : decode prog_14_method_63_code 26 = .ok (.iload_n 1, 1) := by decide +kernel
theorem dModel_waitingAll_27 : decode prog_14_method_63_code 27 = .ok (.ireturn, 1) := by decide +kernel
theorem dModel_madeAll_0 : decode prog_14_method_64_code 0 = .ok (.iconst 0, 1) := by decide +kernel
theorem dModel_madeAll_1 : decode prog_14_method_64_code 1 = .ok (.istore_n 1, 1) := by decide +kernel
theorem dModel_madeAll_2 : decode prog_14_method_64_code 2 = .ok (.iconst 0, 1) := by decide +kernel
theorem dModel_madeAll_3 : decode prog_14_method_64_code 3 = .ok (.istore_n 2, 1) := by decide +kernel
theorem dModel_madeAll_4 : decode prog_14_method_64_code 4 = .ok (.iload_n 2, 1) := by decide +kernel
theorem dModel_madeAll_5 : decode prog_14_method_64_code 5 = .ok (.aload_n 0, 1) := by decide +kernel
theorem dModel_madeAll_6 : decode prog_14_method_64_code 6 = .ok (.invokevirtual 433, 3) := by decide +kernel
theorem dModel_madeAll_9 : decode prog_14_method_64_code 9 = .ok (.if_icmp .ge 18, 3) := by decide +kernel
theorem dModel_madeAll_12 : decode prog_14_method_64_code 12 = .ok (.iload_n 1, 1) := by decide +kernel
theorem dModel_madeAll_13 : decode prog_14_method_64_code 13 = .ok (.aload_n 0, 1) := by decide +kernel
theorem dModel_madeAll_14 : decode prog_14_method_64_code 14 = .ok (.getfield 469, 3) := by decide +kernel
theorem dModel_madeAll_17 : decode prog_14_method_64_code 17 = .ok (.iload_n 2, 1) := by decide +kernel
theorem dModel_madeAll_18 : decode prog_14_method_64_code 18 = .ok (.iaload, 1) := by decide +kernel
theorem dModel_madeAll_19 : decode prog_14_method_64_code 19 = .ok (.iadd, 1) := by decide +kernel
theorem dModel_madeAll_20 : decode prog_14_method_64_code 20 = .ok (.istore_n 1, 1) := by decide +kernel
theorem dModel_madeAll_21 : decode prog_14_method_64_code 21 = .ok (.iinc 2 1, 3) := by decide +kernel
theorem dModel_madeAll_24 : decode prog_14_method_64_code 24 = .ok (.goto (-20), 3) := by decide +kernel
theorem dModel_madeAll_27 : decode prog_14_method_64_code 27 = .ok (.iload_n 1, 1) := by decide +kernel
theorem dModel_madeAll_28 : decode prog_14_method_64_code 28 = .ok (.ireturn, 1) := by decide +kernel
theorem dModel_priceOf_0 : decode prog_14_method_65_code 0 = .ok (.aload_n 0, 1) := by decide +kernel
theorem dModel_priceOf_1 : decode prog_14_method_65_code 1 = .ok (.getfield 257, 3) := by decide +kernel
theorem dModel_priceOf_4 : decode prog_14_method_65_code 4 = .ok (.iconst 5, 1) := by decide +kernel
theorem dModel_priceOf_5 : decode prog_14_method_65_code 5 = .ok (.aload_n 0, 1) := by decide +kernel
theorem dModel_priceOf_6 : decode prog_14_method_65_code 6 = .ok (.getfield 147, 3) := by decide +kernel
theorem dModel_priceOf_9 : decode prog_14_method_65_code 9 = .ok (.imul, 1) := by decide +kernel
theorem dModel_priceOf_10 : decode prog_14_method_65_code 10 = .ok (.iload_n 1, 1) := by decide +kernel
theorem dModel_priceOf_11 : decode prog_14_method_65_code 11 = .ok (.iadd, 1) := by decide +kernel
theorem dModel_priceOf_12 : decode prog_14_method_65_code 12 = .ok (.iaload, 1) := by decide +kernel
theorem dModel_priceOf_13 : decode prog_14_method_65_code 13 = .ok (.istore_n 2, 1) := by decide +kernel
theorem dModel_priceOf_14 : decode prog_14_method_65_code 14 = .ok (.aload_n 0, 1) := by decide +kernel
theorem dModel_priceOf_15 : decode prog_14_method_65_code 15 = .ok (.getfield 260, 3) := by decide +kernel
theorem dModel_priceOf_18 : decode prog_14_method_65_code 18 = .ok (.iconst 5, 1) := by decide +kernel
theorem dModel_priceOf_19 : decode prog_14_method_65_code 19 = .ok (.aload_n 0, 1) := by decide +kernel
theorem dModel_priceOf_20 : decode prog_14_method_65_code 20 = .ok (.getfield 147, 3) := by decide +kernel
theorem dModel_priceOf_23 : decode prog_14_method_65_code 23 = .ok (.imul, 1) := by decide +kernel
theorem dModel_priceOf_24 : decode prog_14_method_65_code 24 = .ok (.iload_n 1, 1) := by decide +kernel
theorem dModel_priceOf_25 : decode prog_14_method_65_code 25 = .ok (.iadd, 1) := by decide +kernel
theorem dModel_priceOf_26 : decode prog_14_method_65_code 26 = .ok (.iaload, 1) := by decide +kernel
theorem dModel_priceOf_27 : decode prog_14_method_65_code 27 = .ok (.istore_n 3, 1) := by decide +kernel
theorem dModel_priceOf_28 : decode prog_14_method_65_code 28 = .ok (.iload_n 2, 1) := by decide +kernel
theorem dModel_priceOf_29 : decode prog_14_method_65_code 29 = .ok (.ifCond .ne 5, 3) := by decide +kernel
theorem dModel_priceOf_32 : decode prog_14_method_65_code 32 = .ok (.iload_n 3, 1) := by decide +kernel
theorem dModel_priceOf_33 : decode prog_14_method_65_code 33 = .ok (.ireturn, 1) := by decide +kernel
theorem dModel_priceOf_34 : decode prog_14_method_65_code 34 = .ok (.iload_n 3, 1) := by decide +kernel
theorem dModel_priceOf_35 : decode prog_14_method_65_code 35 = .ok (.i2l, 1) := by decide +kernel
theorem dModel_priceOf_36 : decode prog_14_method_65_code 36 = .ok (.ldc2_w 472, 3) := by decide +kernel
theorem dModel_priceOf_39 : decode prog_14_method_65_code 39 = .ok (.iload_n 2, 1) := by decide +kernel
theorem dModel_priceOf_40 : decode prog_14_method_65_code 40 = .ok (.i2l, 1) := by decide +kernel
theorem dModel_priceOf_41 : decode prog_14_method_65_code 41 = .ok (.lmul, 1) := by decide +kernel
theorem dModel_priceOf_42 : decode prog_14_method_65_code 42 = .ok (.aload_n 0, 1) := by decide +kernel
theorem dModel_priceOf_43 : decode prog_14_method_65_code 43 = .ok (.getfield 474, 3) := by decide +kernel
theorem dModel_priceOf_46 : decode prog_14_method_65_code 46 = .ok (.iload_n 1, 1) := by decide +kernel
theorem dModel_priceOf_47 : decode prog_14_method_65_code 47 = .ok (.iaload, 1) := by decide +kernel
theorem dModel_priceOf_48 : decode prog_14_method_65_code 48 = .ok (.i2l, 1) := by decide +kernel
theorem dModel_priceOf_49 : decode prog_14_method_65_code 49 = .ok (.lsub, 1) := by decide +kernel
theorem dModel_priceOf_50 : decode prog_14_method_65_code 50 = .ok (.lmul, 1) := by decide +kernel
theorem dModel_priceOf_51 : decode prog_14_method_65_code 51 = .ok (.iload_n 2, 1) := by decide +kernel
theorem dModel_priceOf_52 : decode prog_14_method_65_code 52 = .ok (.i2l, 1) := by decide +kernel
theorem dModel_priceOf_53 : decode prog_14_method_65_code 53 = .ok (.ldiv, 1) := by decide +kernel
theorem dModel_priceOf_54 : decode prog_14_method_65_code 54 = .ok (.lstore 4, 2) := by decide +kernel
theorem dModel_priceOf_56 : decode prog_14_method_65_code 56 = .ok (.lload 4, 2) := by decide +kernel
theorem dModel_priceOf_58 : decode prog_14_method_65_code 58 = .ok (.iload_n 3, 1) := by decide +kernel
theorem dModel_priceOf_59 : decode prog_14_method_65_code 59 = .ok (.iconst 4, 1) := by decide +kernel
theorem dModel_priceOf_60 : decode prog_14_method_65_code 60 = .ok (.idiv, 1) := by decide +kernel
theorem dModel_priceOf_61 : decode prog_14_method_65_code 61 = .ok (.i2l, 1) := by decide +kernel
theorem dModel_priceOf_62 : decode prog_14_method_65_code 62 = .ok (.lcmp, 1) := by decide +kernel
theorem dModel_priceOf_63 : decode prog_14_method_65_code 63 = .ok (.ifCond .ge 9, 3) := by decide +kernel
theorem dModel_priceOf_66 : decode prog_14_method_65_code 66 = .ok (.iload_n 3, 1) := by decide +kernel
theorem dModel_priceOf_67 : decode prog_14_method_65_code 67 = .ok (.iconst 4, 1) := by decide +kernel
theorem dModel_priceOf_68 : decode prog_14_method_65_code 68 = .ok (.idiv, 1) := by decide +kernel
theorem dModel_priceOf_69 : decode prog_14_method_65_code 69 = .ok (.goto 6, 3) := by decide +kernel
theorem dModel_priceOf_72 : decode prog_14_method_65_code 72 = .ok (.lload 4, 2) := by decide +kernel
theorem dModel_priceOf_74 : decode prog_14_method_65_code 74 = .ok (.l2i, 1) := by decide +kernel
theorem dModel_priceOf_75 : decode prog_14_method_65_code 75 = .ok (.ireturn, 1) := by decide +kernel
theorem dModel_monthsOf_0 : decode prog_14_method_66_code 0 = .ok (.iload_n 0, 1) := by decide +kernel
theorem dModel_monthsOf_1 : decode prog_14_method_66_code 1 = .ok (.bipush 29, 2) := by decide +kernel
theorem dModel_monthsOf_3 : decode prog_14_method_66_code 3 = .ok (.iadd, 1) := by decide +kernel
theorem dModel_monthsOf_4 : decode prog_14_method_66_code 4 = .ok (.bipush 30, 2) := by decide +kernel
theorem dModel_monthsOf_6 : decode prog_14_method_66_code 6 = .ok (.idiv, 1) := by decide +kernel
theorem dModel_monthsOf_7 : decode prog_14_method_66_code 7 = .ok (.ireturn, 1) := by decide +kernel
theorem dModel_atLeastOne_0 : decode prog_14_method_67_code 0 = .ok (.iload_n 0, 1) := by decide +kernel
theorem dModel_atLeastOne_1 : decode prog_14_method_67_code 1 = .ok (.iconst 1, 1) := by decide +kernel
theorem dModel_atLeastOne_2 : decode prog_14_method_67_code 2 = .ok (.if_icmp .ge 7, 3) := by decide +kernel
theorem dModel_atLeastOne_5 : decode prog_14_method_67_code 5 = .ok (.iconst 1, 1) := by decide +kernel
theorem dModel_atLeastOne_6 : decode prog_14_method_67_code 6 = .ok (.goto 4, 3) := by decide +kernel
theorem dModel_atLeastOne_9 : decode prog_14_method_67_code 9 = .ok (.iload_n 0, 1) := by decide +kernel
theorem dModel_atLeastOne_10 : decode prog_14_method_67_code 10 = .ok (.ireturn, 1) := by decide +kernel
theorem dModel_aTwelfth_0 : decode prog_14_method_68_code 0 = .ok (.iconst 0, 1) := by decide +kernel
theorem dModel_aTwelfth_1 : decode prog_14_method_68_code 1 = .ok (.istore_n 2, 1) := by decide +kernel
theorem dModel_aTwelfth_2 : decode prog_14_method_68_code 2 = .ok (.iconst 0, 1) := by decide +kernel
theorem dModel_aTwelfth_3 : decode prog_14_method_68_code 3 = .ok (.istore_n 3, 1) := by decide +kernel
theorem dModel_aTwelfth_4 : decode prog_14_method_68_code 4 = .ok (.iload_n 3, 1) := by decide +kernel
theorem dModel_aTwelfth_5 : decode prog_14_method_68_code 5 = .ok (.bipush 12, 2) := by decide +kernel
theorem dModel_aTwelfth_7 : decode prog_14_method_68_code 7 = .ok (.if_icmp .ge 30, 3) := by decide +kernel
theorem dModel_aTwelfth_10 : decode prog_14_method_68_code 10 = .ok (.iload_n 2, 1) := by decide +kernel
theorem dModel_aTwelfth_11 : decode prog_14_method_68_code 11 = .ok (.aload_n 0, 1) := by decide +kernel
theorem dModel_aTwelfth_12 : decode prog_14_method_68_code 12 = .ok (.getfield 245, 3) := by decide +kernel
theorem dModel_aTwelfth_15 : decode prog_14_method_68_code 15 = .ok (.bipush 12, 2) := by decide +kernel
theorem dModel_aTwelfth_17 : decode prog_14_method_68_code 17 = .ok (.iconst 3, 1) := by decide +kernel
theorem dModel_aTwelfth_18 : decode prog_14_method_68_code 18 = .ok (.aload_n 0, 1) := by decide +kernel
theorem dModel_aTwelfth_19 : decode prog_14_method_68_code 19 = .ok (.getfield 147, 3) := by decide +kernel
theorem dModel_aTwelfth_22 : decode prog_14_method_68_code 22 = .ok (.imul, 1) := by decide +kernel
theorem dModel_aTwelfth_23 : decode prog_14_method_68_code 23 = .ok (.iload_n 1, 1) := by decide +kernel
theorem dModel_aTwelfth_24 : decode prog_14_method_68_code 24 = .ok (.iadd, 1) := by decide +kernel
theorem dModel_aTwelfth_25 : decode prog_14_method_68_code 25 = .ok (.imul, 1) := by decide +kernel
theorem dModel_aTwelfth_26 : decode prog_14_method_68_code 26 = .ok (.iload_n 3, 1) := by decide +kernel
theorem dModel_aTwelfth_27 : decode prog_14_method_68_code 27 = .ok (.iadd, 1) := by decide +kernel
theorem dModel_aTwelfth_28 : decode prog_14_method_68_code 28 = .ok (.iaload, 1) := by decide +kernel
theorem dModel_aTwelfth_29 : decode prog_14_method_68_code 29 = .ok (.iadd, 1) := by decide +kernel
theorem dModel_aTwelfth_30 : decode prog_14_method_68_code 30 = .ok (.istore_n 2, 1) := by decide +kernel
theorem dModel_aTwelfth_31 : decode prog_14_method_68_code 31 = .ok (.iinc 3 1, 3) := by decide +kernel
theorem dModel_aTwelfth_34 : decode prog_14_method_68_code 34 = .ok (.goto (-30), 3) := by decide +kernel
theorem dModel_aTwelfth_37 : decode prog_14_method_68_code 37 = .ok (.iload_n 2, 1) := by decide +kernel
theorem dModel_aTwelfth_38 : decode prog_14_method_68_code 38 = .ok (.bipush 12, 2) := by decide +kernel
theorem dModel_aTwelfth_40 : decode prog_14_method_68_code 40 = .ok (.idiv, 1) := by decide +kernel
theorem dModel_aTwelfth_41 : decode prog_14_method_68_code 41 = .ok (.invokestatic 477, 3) := by decide +kernel
theorem dModel_aTwelfth_44 : decode prog_14_method_68_code 44 = .ok (.ireturn, 1) := by decide +kernel
theorem dModel_worthOf_0 : decode prog_14_method_69_code 0 = .ok (.aload_n 0, 1) := by decide +kernel
theorem dModel_worthOf_1 : decode prog_14_method_69_code 1 = .ok (.iconst (-1), 1) := by decide +kernel
theorem dModel_worthOf_2 : decode prog_14_method_69_code 2 = .ok (.putfield 480, 3) := by decide +kernel
theorem dModel_worthOf_5 : decode prog_14_method_69_code 5 = .ok (.ldc2_w 483, 3) := by decide +kernel
theorem dModel_worthOf_8 : decode prog_14_method_69_code 8 = .ok (.lstore_n 2, 1) := by decide +kernel
theorem dModel_worthOf_9 : decode prog_14_method_69_code 9 = .ok (.aload_n 0, 1) := by decide +kernel
theorem dModel_worthOf_10 : decode prog_14_method_69_code 10 = .ok (.iload_n 1, 1) := by decide +kernel
theorem dModel_worthOf_11 : decode prog_14_method_69_code 11 = .ok (.invokevirtual 466, 3) := by decide +kernel
theorem dModel_worthOf_14 : decode prog_14_method_69_code 14 = .ok (.aload_n 0, 1) := by decide +kernel
theorem dModel_worthOf_15 : decode prog_14_method_69_code 15 = .ok (.iload_n 1, 1) := by decide +kernel
theorem dModel_worthOf_16 : decode prog_14_method_69_code 16 = .ok (.invokevirtual 485, 3) := by decide +kernel
theorem dModel_worthOf_19 : decode prog_14_method_69_code 19 = .ok (.idiv, 1) := by decide +kernel
theorem dModel_worthOf_20 : decode prog_14_method_69_code 20 = .ok (.i2l, 1) := by decide +kernel
theorem dModel_worthOf_21 : decode prog_14_method_69_code 21 = .ok (.lstore 4, 2) := by decide +kernel
theorem dModel_worthOf_23 : decode prog_14_method_69_code 23 = .ok (.iconst 0, 1) := by decide +kernel
theorem dModel_worthOf_24 : decode prog_14_method_69_code 24 = .ok (.istore 6, 2) := by decide +kernel
theorem dModel_worthOf_26 : decode prog_14_method_69_code 26 = .ok (.iload 6, 2) := by decide +kernel
theorem dModel_worthOf_28 : decode prog_14_method_69_code 28 = .ok (.aload_n 0, 1) := by decide +kernel
theorem dModel_worthOf_29 : decode prog_14_method_69_code 29 = .ok (.invokevirtual 488, 3) := by decide +kernel
theorem dModel_worthOf_32 : decode prog_14_method_69_code 32 = .ok (.if_icmp .ge 144, 3) := by decide +kernel
theorem dModel_worthOf_35 : decode prog_14_method_69_code 35 = .ok (.aload_n 0, 1) := by decide +kernel
theorem dModel_worthOf_36 : decode prog_14_method_69_code 36 = .ok (.getfield 269, 3) := by decide +kernel
theorem dModel_worthOf_39 : decode prog_14_method_69_code 39 = .ok (.bipush 16, 2) := by decide +kernel
theorem dModel_worthOf_41 : decode prog_14_method_69_code 41 = .ok (.aload_n 0, 1) := by decide +kernel
theorem dModel_worthOf_42 : decode prog_14_method_69_code 42 = .ok (.iload_n 1, 1) := by decide +kernel
theorem dModel_worthOf_43 : decode prog_14_method_69_code 43 = .ok (.invokevirtual 491, 3) := by decide +kernel
theorem dModel_worthOf_46 : decode prog_14_method_69_code 46 = .ok (.imul, 1) := by decide +kernel
theorem dModel_worthOf_47 : decode prog_14_method_69_code 47 = .ok (.aload_n 0, 1) := by decide +kernel
theorem dModel_worthOf_48 : decode prog_14_method_69_code 48 = .ok (.iload 6, 2) := by decide +kernel
theorem dModel_worthOf_50 : decode prog_14_method_69_code 50 = .ok (.invokevirtual 494, 3) := by decide +kernel
theorem dModel_worthOf_53 : decode prog_14_method_69_code 53 = .ok (.iadd, 1) := by decide +kernel
theorem dModel_worthOf_54 : decode prog_14_method_69_code 54 = .ok (.iaload, 1) := by decide +kernel
theorem dModel_worthOf_55 : decode prog_14_method_69_code 55 = .ok (.istore 7, 2) := by decide +kernel
theorem dModel_worthOf_57 : decode prog_14_method_69_code 57 = .ok (.aload_n 0, 1) := by decide +kernel
theorem dModel_worthOf_58 : decode prog_14_method_69_code 58 = .ok (.getfield 248, 3) := by decide +kernel
theorem dModel_worthOf_61 : decode prog_14_method_69_code 61 = .ok (.iconst 3, 1) := by decide +kernel
theorem dModel_worthOf_62 : decode prog_14_method_69_code 62 = .ok (.aload_n 0, 1) := by decide +kernel
theorem dModel_worthOf_63 : decode prog_14_method_69_code 63 = .ok (.getfield 147, 3) := by decide +kernel
theorem dModel_worthOf_66 : decode prog_14_method_69_code 66 = .ok (.imul, 1) := by decide +kernel
theorem dModel_worthOf_67 : decode prog_14_method_69_code 67 = .ok (.iload_n 1, 1) := by decide +kernel
theorem dModel_worthOf_68 : decode prog_14_method_69_code 68 = .ok (.iadd, 1) := by decide +kernel
theorem dModel_worthOf_69 : decode prog_14_method_69_code 69 = .ok (.iaload, 1) := by decide +kernel
theorem dModel_worthOf_70 : decode prog_14_method_69_code 70 = .ok (.aload_n 0, 1) := by decide +kernel
theorem dModel_worthOf_71 : decode prog_14_method_69_code 71 = .ok (.getfield 254, 3) := by decide +kernel
theorem dModel_worthOf_74 : decode prog_14_method_69_code 74 = .ok (.iconst 5, 1) := by decide +kernel
theorem dModel_worthOf_75 : decode prog_14_method_69_code 75 = .ok (.aload_n 0, 1) := by decide +kernel
theorem dModel_worthOf_76 : decode prog_14_method_69_code 76 = .ok (.getfield 147, 3) := by decide +kernel
theorem dModel_worthOf_79 : decode prog_14_method_69_code 79 = .ok (.imul, 1) := by decide +kernel
theorem dModel_worthOf_80 : decode prog_14_method_69_code 80 = .ok (.iload 6, 2) := by decide +kernel
theorem dModel_worthOf_82 : decode prog_14_method_69_code 82 = .ok (.iadd, 1) := by decide +kernel
theorem dModel_worthOf_83 : decode prog_14_method_69_code 83 = .ok (.iaload, 1) := by decide +kernel
theorem dModel_worthOf_84 : decode prog_14_method_69_code 84 = .ok (.ishr, 1) := by decide +kernel
theorem dModel_worthOf_85 : decode prog_14_method_69_code 85 = .ok (.iconst 1, 1) := by decide +kernel
theorem dModel_worthOf_86 : decode prog_14_method_69_code 86 = .ok (.iand, 1) := by decide +kernel
theorem dModel_worthOf_87 : decode prog_14_method_69_code 87 = .ok (.ifCond .eq 83, 3) := by decide +kernel
theorem dModel_worthOf_90 : decode prog_14_method_69_code 90 = .ok (.iload 7, 2) := by decide +kernel
theorem dModel_worthOf_92 : decode prog_14_method_69_code 92 = .ok (.ldc_w 272, 3) := by decide +kernel
theorem dModel_worthOf_95 : decode prog_14_method_69_code 95 = .ok (.if_icmp .lt 6, 3) := by decide +kernel
theorem dModel_worthOf_98 : decode prog_14_method_69_code 98 = .ok (.goto 72, 3) := by decide +kernel
theorem dModel_worthOf_101 : decode prog_14_method_69_code 101 = .ok (.aload_n 0, 1) := by decide +kernel
theorem dModel_worthOf_102 : decode prog_14_method_69_code 102 = .ok (.iload 6, 2) := by decide +kernel
theorem dModel_worthOf_104 : decode prog_14_method_69_code 104 = .ok (.invokevirtual 497, 3) := by decide +kernel
theorem dModel_worthOf_107 : decode prog_14_method_69_code 107 = .ok (.i2l, 1) := by decide +kernel
theorem dModel_worthOf_108 : decode prog_14_method_69_code 108 = .ok (.aload_n 0, 1) := by decide +kernel
theorem dModel_worthOf_109 : decode prog_14_method_69_code 109 = .ok (.getfield 500, 3) := by decide +kernel
theorem dModel_worthOf_112 : decode prog_14_method_69_code 112 = .ok (.i2l, 1) := by decide +kernel
theorem dModel_worthOf_113 : decode prog_14_method_69_code 113 = .ok (.lsub, 1) := by decide +kernel
theorem dModel_worthOf_114 : decode prog_14_method_69_code 114 = .ok (.iload 7, 2) := by decide +kernel
theorem dModel_worthOf_116 : decode prog_14_method_69_code 116 = .ok (.aload_n 0, 1) := by decide +kernel
theorem dModel_worthOf_117 : decode prog_14_method_69_code 117 = .ok (.getfield 397, 3) := by decide +kernel
theorem dModel_worthOf_120 : decode prog_14_method_69_code 120 = .ok (.imul, 1) := by decide +kernel
theorem dModel_worthOf_121 : decode prog_14_method_69_code 121 = .ok (.bipush 10, 2) := by decide +kernel
theorem dModel_worthOf_123 : decode prog_14_method_69_code 123 = .ok (.idiv, 1) := by decide +kernel
theorem dModel_worthOf_124 : decode prog_14_method_69_code 124 = .ok (.i2l, 1) := by decide +kernel
theorem dModel_worthOf_125 : decode prog_14_method_69_code 125 = .ok (.lsub, 1) := by decide +kernel
theorem dModel_worthOf_126 : decode prog_14_method_69_code 126 = .ok (.aload_n 0, 1) := by decide +kernel
theorem dModel_worthOf_127 : decode prog_14_method_69_code 127 = .ok (.getfield 403, 3) := by decide +kernel
theorem dModel_worthOf_130 : decode prog_14_method_69_code 130 = .ok (.i2l, 1) := by decide +kernel
theorem dModel_worthOf_131 : decode prog_14_method_69_code 131 = .ok (.iload 7, 2) := by decide +kernel
theorem dModel_worthOf_133 : decode prog_14_method_69_code 133 = .ok (.invokestatic 503, 3) := by decide +kernel
theorem dModel_worthOf_136 : decode prog_14_method_69_code 136 = .ok (.i2l, 1) := by decide +kernel
theorem dModel_worthOf_137 : decode prog_14_method_69_code 137 = .ok (.lload 4, 2) := by decide +kernel
theorem dModel_worthOf_139 : decode prog_14_method_69_code 139 = .ok (.ladd, 1) := by decide +kernel
theorem dModel_worthOf_140 : decode prog_14_method_69_code 140 = .ok (.lmul, 1) := by decide +kernel
theorem dModel_worthOf_141 : decode prog_14_method_69_code 141 = .ok (.lsub, 1) := by decide +kernel
theorem dModel_worthOf_142 : decode prog_14_method_69_code 142 = .ok (.lstore 8, 2) := by decide +kernel
theorem dModel_worthOf_144 : decode prog_14_method_69_code 144 = .ok (.aload_n 0, 1) := by decide +kernel
theorem dModel_worthOf_145 : decode prog_14_method_69_code 145 = .ok (.getfield 480, 3) := by decide +kernel
theorem dModel_worthOf_148 : decode prog_14_method_69_code 148 = .ok (.ifCond .lt 13, 3) := by decide +kernel
theorem dModel_worthOf_151 : decode prog_14_method_69_code 151 = .ok (.lload 8, 2) := by decide +kernel
theorem dModel_worthOf_153 : decode prog_14_method_69_code 153 = .ok (.lload_n 2, 1) := by decide +kernel
theorem dModel_worthOf_154 : decode prog_14_method_69_code 154 = .ok (.lcmp, 1) := by decide +kernel
theorem dModel_worthOf_155 : decode prog_14_method_69_code 155 = .ok (.ifCond .gt 6, 3) := by decide +kernel
theorem dModel_worthOf_158 : decode prog_14_method_69_code 158 = .ok (.goto 12, 3) := by decide +kernel
theorem dModel_worthOf_161 : decode prog_14_method_69_code 161 = .ok (.lload 8, 2) := by decide +kernel
theorem dModel_worthOf_163 : decode prog_14_method_69_code 163 = .ok (.lstore_n 2, 1) := by decide +kernel
theorem dModel_worthOf_164 : decode prog_14_method_69_code 164 = .ok (.aload_n 0, 1) := by decide +kernel
theorem dModel_worthOf_165 : decode prog_14_method_69_code 165 = .ok (.iload 6, 2) := by decide +kernel
theorem dModel_worthOf_167 : decode prog_14_method_69_code 167 = .ok (.putfield 480, 3) := by decide +kernel
theorem dModel_worthOf_170 : decode prog_14_method_69_code 170 = .ok (.iinc 6 1, 3) := by decide +kernel
theorem dModel_worthOf_173 : decode prog_14_method_69_code 173 = .ok (.goto (-147), 3) := by decide +kernel
theorem dModel_worthOf_176 : decode prog_14_method_69_code 176 = .ok (.lload_n 2, 1) := by decide +kernel
theorem dModel_worthOf_177 : decode prog_14_method_69_code 177 = .ok (.lreturn, 1) := by decide +kernel
theorem dModel_bestPan_0 : decode prog_14_method_70_code 0 = .ok (.iconst (-1), 1) := by decide +kernel
theorem dModel_bestPan_1 : decode prog_14_method_70_code 1 = .ok (.istore_n 1, 1) := by decide +kernel
theorem dModel_bestPan_2 : decode prog_14_method_70_code 2 = .ok (.aload_n 0, 1) := by decide +kernel
theorem dModel_bestPan_3 : decode prog_14_method_70_code 3 = .ok (.ldc2_w 483, 3) := by decide +kernel
theorem dModel_bestPan_6 : decode prog_14_method_70_code 6 = .ok (.putfield 506, 3) := by decide +kernel
theorem dModel_bestPan_9 : decode prog_14_method_70_code 9 = .ok (.iconst 0, 1) := by decide +kernel
theorem dModel_bestPan_10 : decode prog_14_method_70_code 10 = .ok (.istore_n 2, 1) := by decide +kernel
theorem dModel_bestPan_11 : decode prog_14_method_70_code 11 = .ok (.iload_n 2, 1) := by decide +kernel
theorem dModel_bestPan_12 : decode prog_14_method_70_code 12 = .ok (.aload_n 0, 1) := by decide +kernel
theorem dModel_bestPan_13 : decode prog_14_method_70_code 13 = .ok (.invokevirtual 433, 3) := by decide +kernel
theorem dModel_bestPan_16 : decode prog_14_method_70_code 16 = .ok (.if_icmp .ge 45, 3) := by decide +kernel
theorem dModel_bestPan_19 : decode prog_14_method_70_code 19 = .ok (.aload_n 0, 1) := by decide +kernel
theorem dModel_bestPan_20 : decode prog_14_method_70_code 20 = .ok (.iload_n 2, 1) := by decide +kernel
theorem dModel_bestPan_21 : decode prog_14_method_70_code 21 = .ok (.invokevirtual 509, 3) := by decide +kernel
theorem dModel_bestPan_24 : decode prog_14_method_70_code 24 = .ok (.lstore_n 3, 1) := by decide +kernel
theorem dModel_bestPan_25 : decode prog_14_method_70_code 25 = .ok (.aload_n 0, 1) := by decide +kernel
theorem dModel_bestPan_26 : decode prog_14_method_70_code 26 = .ok (.getfield 480, 3) := by decide +kernel
theorem dModel_bestPan_29 : decode prog_14_method_70_code 29 = .ok (.ifCond .lt 26, 3) := by decide +kernel
theorem dModel_bestPan_32 : decode prog_14_method_70_code 32 = .ok (.iload_n 1, 1) := by decide +kernel
theorem dModel_bestPan_33 : decode prog_14_method_70_code 33 = .ok (.ifCond .lt 15, 3) := by decide +kernel
theorem dModel_bestPan_36 : decode prog_14_method_70_code 36 = .ok (.lload_n 3, 1) := by decide +kernel
theorem dModel_bestPan_37 : decode prog_14_method_70_code 37 = .ok (.aload_n 0, 1) := by decide +kernel
theorem dModel_bestPan_38 : decode prog_14_method_70_code 38 = .ok (.getfield 506, 3) := by decide +kernel
theorem dModel_bestPan_41 : decode prog_14_method_70_code 41 = .ok (.lcmp, 1) := by decide +kernel
theorem dModel_bestPan_42 : decode prog_14_method_70_code 42 = .ok (.ifCond .gt 6, 3) := by decide +kernel
theorem dModel_bestPan_45 : decode prog_14_method_70_code 45 = .ok (.goto 10, 3) := by decide +kernel
theorem dModel_bestPan_48 : decode prog_14_method_70_code 48 = .ok (.iload_n 2, 1) := by decide +kernel
theorem dModel_bestPan_49 : decode prog_14_method_70_code 49 = .ok (.istore_n 1, 1) := by decide +kernel
theorem dModel_bestPan_50 : decode prog_14_method_70_code 50 = .ok (.aload_n 0, 1) := by decide +kernel
theorem dModel_bestPan_51 : decode prog_14_method_70_code 51 = .ok (.lload_n 3, 1) := by decide +kernel
theorem dModel_bestPan_52 : decode prog_14_method_70_code 52 = .ok (.putfield 506, 3) := by decide +kernel
theorem dModel_bestPan_55 : decode prog_14_method_70_code 55 = .ok (.iinc 2 1, 3) := by decide +kernel
theorem dModel_bestPan_58 : decode prog_14_method_70_code 58 = .ok (.goto (-47), 3) := by decide +kernel
theorem dModel_bestPan_61 : decode prog_14_method_70_code 61 = .ok (.iload_n 1, 1) := by decide +kernel
theorem dModel_bestPan_62 : decode prog_14_method_70_code 62 = .ok (.ireturn, 1) := by decide +kernel
theorem dModel_rateFor_0 : decode prog_14_method_71_code 0 = .ok (.aload_n 0, 1) := by decide +kernel
theorem dModel_rateFor_1 : decode prog_14_method_71_code 1 = .ok (.aload_n 0, 1) := by decide +kernel
theorem dModel_rateFor_2 : decode prog_14_method_71_code 2 = .ok (.getfield 513, 3) := by decide +kernel
theorem dModel_rateFor_5 : decode prog_14_method_71_code 5 = .ok (.iload_n 1, 1) := by decide +kernel
theorem dModel_rateFor_6 : decode prog_14_method_71_code 6 = .ok (.iaload, 1) := by decide +kernel
theorem dModel_rateFor_7 : decode prog_14_method_71_code 7 = .ok (.putfield 357, 3) := by decide +kernel
theorem dModel_rateFor_10 : decode prog_14_method_71_code 10 = .ok (.aload_n 0, 1) := by decide +kernel
theorem dModel_rateFor_11 : decode prog_14_method_71_code 11 = .ok (.getfield 236, 3) := by decide +kernel
theorem dModel_rateFor_14 : decode prog_14_method_71_code 14 = .ok (.iconst 3, 1) := by decide +kernel
theorem dModel_rateFor_15 : decode prog_14_method_71_code 15 = .ok (.aload_n 0, 1) := by decide +kernel
theorem dModel_rateFor_16 : decode prog_14_method_71_code 16 = .ok (.getfield 147, 3) := by decide +kernel
theorem dModel_rateFor_19 : decode prog_14_method_71_code 19 = .ok (.imul, 1) := by decide +kernel
theorem dModel_rateFor_20 : decode prog_14_method_71_code 20 = .ok (.iload_n 1, 1) := by decide +kernel
theorem dModel_rateFor_21 : decode prog_14_method_71_code 21 = .ok (.iadd, 1) := by decide +kernel
theorem dModel_rateFor_22 : decode prog_14_method_71_code 22 = .ok (.iaload, 1) := by decide +kernel
theorem dModel_rateFor_23 : decode prog_14_method_71_code 23 = .ok (.istore_n 3, 1) := by decide +kernel
theorem dModel_rateFor_24 : decode prog_14_method_71_code 24 = .ok (.aload_n 0, 1) := by decide +kernel
theorem dModel_rateFor_25 : decode prog_14_method_71_code 25 = .ok (.iload_n 3, 1) := by decide +kernel
theorem dModel_rateFor_26 : decode prog_14_method_71_code 26 = .ok (.ifCond .ne 9, 3) := by decide +kernel
theorem dModel_rateFor_29 : decode prog_14_method_71_code 29 = .ok (.sipush 9999, 3) := by decide +kernel
theorem dModel_rateFor_32 : decode prog_14_method_71_code 32 = .ok (.goto 11, 3) := by decide +kernel
theorem dModel_rateFor_35 : decode prog_14_method_71_code 35 = .ok (.aload_n 0, 1) := by decide +kernel
theorem dModel_rateFor_36 : decode prog_14_method_71_code 36 = .ok (.getfield 513, 3) := by decide +kernel
theorem dModel_rateFor_39 : decode prog_14_method_71_code 39 = .ok (.iload_n 1, 1) := by decide +kernel
theorem dModel_rateFor_40 : decode prog_14_method_71_code 40 = .ok (.iaload, 1) := by decide +kernel
theorem dModel_rateFor_41 : decode prog_14_method_71_code 41 = .ok (.iload_n 3, 1) := by decide +kernel
theorem dModel_rateFor_42 : decode prog_14_method_71_code 42 = .ok (.idiv, 1) := by decide +kernel
theorem dModel_rateFor_43 : decode prog_14_method_71_code 43 = .ok (.putfield 360, 3) := by decide +kernel
theorem dModel_rateFor_46 : decode prog_14_method_71_code 46 = .ok (.aload_n 0, 1) := by decide +kernel
theorem dModel_rateFor_47 : decode prog_14_method_71_code 47 = .ok (.iload_n 2, 1) := by decide +kernel
theorem dModel_rateFor_48 : decode prog_14_method_71_code 48 = .ok (.putfield 363, 3) := by decide +kernel
theorem dModel_rateFor_51 : decode prog_14_method_71_code 51 = .ok (.aload_n 0, 1) := by decide +kernel
theorem dModel_rateFor_52 : decode prog_14_method_71_code 52 = .ok (.aload_n 0, 1) := by decide +kernel
theorem dModel_rateFor_53 : decode prog_14_method_71_code 53 = .ok (.getfield 516, 3) := by decide +kernel
theorem dModel_rateFor_56 : decode prog_14_method_71_code 56 = .ok (.iconst 0, 1) := by decide +kernel
theorem dModel_rateFor_57 : decode prog_14_method_71_code 57 = .ok (.invokevirtual 519, 3) := by decide +kernel
theorem dModel_rateFor_60 : decode prog_14_method_71_code 60 = .ok (.ireturn, 1) := by decide +kernel
theorem dModel_isDead_0 : decode prog_14_method_72_code 0 = .ok (.aload_n 0, 1) := by decide +kernel
theorem dModel_isDead_1 : decode prog_14_method_72_code 1 = .ok (.getfield 522, 3) := by decide +kernel
theorem dModel_isDead_4 : decode prog_14_method_72_code 4 = .ok (.iload_n 1, 1) := by decide +kernel
theorem dModel_isDead_5 : decode prog_14_method_72_code 5 = .ok (.iaload, 1) := by decide +kernel
theorem dModel_isDead_6 : decode prog_14_method_72_code 6 = .ok (.aload_n 0, 1) := by decide +kernel
theorem dModel_isDead_7 : decode prog_14_method_72_code 7 = .ok (.getfield 348, 3) := by decide +kernel
theorem dModel_isDead_10 : decode prog_14_method_72_code 10 = .ok (.if_icmp .gt 7, 3) := by decide +kernel
theorem dModel_isDead_13 : decode prog_14_method_72_code 13 = .ok (.iconst 1, 1) := by decide +kernel
theorem dModel_isDead_14 : decode prog_14_method_72_code 14 = .ok (.goto 4, 3) := by decide +kernel
theorem dModel_isDead_17 : decode prog_14_method_72_code 17 = .ok (.iconst 0, 1) := by decide +kernel
theorem dModel_isDead_18 : decode prog_14_method_72_code 18 = .ok (.ireturn, 1) := by decide +kernel
theorem dModel_give_0 : decode prog_14_method_73_code 0 = .ok (.iload_n 3, 1) := by decide +kernel
theorem dModel_give_1 : decode prog_14_method_73_code 1 = .ok (.ifCond .ne 4, 3) := by decide +kernel
theorem dModel_give_4 : decode prog_14_method_73_code 4 = .ok (.return_, 1) := by decide +kernel
theorem dModel_give_5 : decode prog_14_method_73_code 5 = .ok (.aload_n 0, 1) := by decide +kernel
theorem dModel_give_6 : decode prog_14_method_73_code 6 = .ok (.getfield 454, 3) := by decide +kernel
theorem dModel_give_9 : decode prog_14_method_73_code 9 = .ok (.istore 6, 2) := by decide +kernel
theorem dModel_give_11 : decode prog_14_method_73_code 11 = .ok (.aload_n 0, 1) := by decide +kernel
theorem dModel_give_12 : decode prog_14_method_73_code 12 = .ok (.getfield 525, 3) := by decide +kernel
theorem dModel_give_15 : decode prog_14_method_73_code 15 = .ok (.iload 6, 2) := by decide +kernel
theorem dModel_give_17 : decode prog_14_method_73_code 17 = .ok (.iload_n 1, 1) := by decide +kernel
theorem dModel_give_18 : decode prog_14_method_73_code 18 = .ok (.iastore, 1) := by decide +kernel
theorem dModel_give_19 : decode prog_14_method_73_code 19 = .ok (.aload_n 0, 1) := by decide +kernel
theorem dModel_give_20 : decode prog_14_method_73_code 20 = .ok (.getfield 457, 3) := by decide +kernel
theorem dModel_give_23 : decode prog_14_method_73_code 23 = .ok (.iload 6, 2) := by decide +kernel
theorem dModel_give_25 : decode prog_14_method_73_code 25 = .ok (.iload_n 2, 1) := by decide +kernel
theorem dModel_give_26 : decode prog_14_method_73_code 26 = .ok (.iastore, 1) := by decide +kernel
theorem dModel_give_27 : decode prog_14_method_73_code 27 = .ok (.aload_n 0, 1) := by decide +kernel
theorem dModel_give_28 : decode prog_14_method_73_code 28 = .ok (.getfield 463, 3) := by decide +kernel
theorem dModel_give_31 : decode prog_14_method_73_code 31 = .ok (.iload 6, 2) := by decide +kernel
theorem dModel_give_33 : decode prog_14_method_73_code 33 = .ok (.iload_n 3, 1) := by decide +kernel
theorem dModel_give_34 : decode prog_14_method_73_code 34 = .ok (.iastore, 1) := by decide +kernel
theorem dModel_give_35 : decode prog_14_method_73_code 35 = .ok (.aload_n 0, 1) := by decide +kernel
theorem dModel_give_36 : decode prog_14_method_73_code 36 = .ok (.getfield 528, 3) := by decide +kernel
theorem dModel_give_39 : decode prog_14_method_73_code 39 = .ok (.iload 6, 2) := by decide +kernel
theorem dModel_give_41 : decode prog_14_method_73_code 41 = .ok (.aload_n 0, 1) := by decide +kernel
theorem dModel_give_42 : decode prog_14_method_73_code 42 = .ok (.getfield 348, 3) := by decide +kernel
theorem dModel_give_45 : decode prog_14_method_73_code 45 = .ok (.iastore, 1) := by decide +kernel
theorem dModel_give_46 : decode prog_14_method_73_code 46 = .ok (.aload_n 0, 1) := by decide +kernel
theorem dModel_give_47 : decode prog_14_method_73_code 47 = .ok (.getfield 531, 3) := by decide +kernel
theorem dModel_give_50 : decode prog_14_method_73_code 50 = .ok (.iload 6, 2) := by decide +kernel
theorem dModel_give_52 : decode prog_14_method_73_code 52 = .ok (.iload 4, 2) := by decide +kernel
theorem dModel_give_54 : decode prog_14_method_73_code 54 = .ok (.iastore, 1) := by decide +kernel
theorem dModel_give_55 : decode prog_14_method_73_code 55 = .ok (.aload_n 0, 1) := by decide +kernel
theorem dModel_give_56 : decode prog_14_method_73_code 56 = .ok (.getfield 447, 3) := by decide +kernel
theorem dModel_give_59 : decode prog_14_method_73_code 59 = .ok (.iload 6, 2) := by decide +kernel
theorem dModel_give_61 : decode prog_14_method_73_code 61 = .ok (.iconst (-1), 1) := by decide +kernel
theorem dModel_give_62 : decode prog_14_method_73_code 62 = .ok (.iastore, 1) := by decide +kernel
theorem dModel_give_63 : decode prog_14_method_73_code 63 = .ok (.aload_n 0, 1) := by decide +kernel
theorem dModel_give_64 : decode prog_14_method_73_code 64 = .ok (.getfield 534, 3) := by decide +kernel
theorem dModel_give_67 : decode prog_14_method_73_code 67 = .ok (.iload 6, 2) := by decide +kernel
theorem dModel_give_69 : decode prog_14_method_73_code 69 = .ok (.iload 5, 2) := by decide +kernel
theorem dModel_give_71 : decode prog_14_method_73_code 71 = .ok (.bastore, 1) := by decide +kernel
theorem dModel_give_72 : decode prog_14_method_73_code 72 = .ok (.aload_n 0, 1) := by decide +kernel
theorem dModel_give_73 : decode prog_14_method_73_code 73 = .ok (.getfield 450, 3) := by decide +kernel
theorem dModel_give_76 : decode prog_14_method_73_code 76 = .ok (.iload 6, 2) := by decide +kernel
theorem dModel_give_78 : decode prog_14_method_73_code 78 = .ok (.iconst 0, 1) := by decide +kernel
theorem dModel_give_79 : decode prog_14_method_73_code 79 = .ok (.bastore, 1) := by decide +kernel
theorem dModel_give_80 : decode prog_14_method_73_code 80 = .ok (.aload_n 0, 1) := by decide +kernel
theorem dModel_give_81 : decode prog_14_method_73_code 81 = .ok (.dup, 1) := by decide +kernel
theorem dModel_give_82 : decode prog_14_method_73_code 82 = .ok (.getfield 454, 3) := by decide +kernel
theorem dModel_give_85 : decode prog_14_method_73_code 85 = .ok (.iconst 1, 1) := by decide +kernel
theorem dModel_give_86 : decode prog_14_method_73_code 86 = .ok (.iadd, 1) := by decide +kernel
theorem dModel_give_87 : decode prog_14_method_73_code 87 = .ok (.putfield 454, 3) := by decide +kernel
theorem dModel_give_90 : decode prog_14_method_73_code 90 = .ok (.aload_n 0, 1) := by decide +kernel
theorem dModel_give_91 : decode prog_14_method_73_code 91 = .ok (.iload 6, 2) := by decide +kernel
theorem dModel_give_93 : decode prog_14_method_73_code 93 = .ok (.invokevirtual 537, 3) := by decide +kernel
theorem dModel_give_96 : decode prog_14_method_73_code 96 = .ok (.return_, 1) := by decide +kernel
theorem dModel_forge_0 : decode prog_14_method_74_code 0 = .ok (.iconst 0, 1) := by decide +kernel
theorem dModel_forge_1 : decode prog_14_method_74_code 1 = .ok (.istore_n 2, 1) := by decide +kernel
theorem dModel_forge_2 : decode prog_14_method_74_code 2 = .ok (.iload_n 2, 1) := by decide +kernel
theorem dModel_forge_3 : decode prog_14_method_74_code 3 = .ok (.aload_n 0, 1) := by decide +kernel
theorem dModel_forge_4 : decode prog_14_method_74_code 4 = .ok (.getfield 169, 3) := by decide +kernel
theorem dModel_forge_7 : decode prog_14_method_74_code 7 = .ok (.if_icmp .ge 57, 3) := by decide +kernel
theorem dModel_forge_10 : decode prog_14_method_74_code 10 = .ok (.aload_n 0, 1) := by decide +kernel
theorem dModel_forge_11 : decode prog_14_method_74_code 11 = .ok (.iload_n 2, 1) := by decide +kernel
theorem dModel_forge_12 : decode prog_14_method_74_code 12 = .ok (.iconst 1, 1) := by decide +kernel
theorem dModel_forge_13 : decode prog_14_method_74_code 13 = .ok (.invokevirtual 541, 3) := by decide +kernel
theorem dModel_forge_16 : decode prog_14_method_74_code 16 = .ok (.ifCond .eq 42, 3) := by decide +kernel
theorem dModel_forge_19 : decode prog_14_method_74_code 19 = .ok (.aload_n 0, 1) := by decide +kernel
theorem dModel_forge_20 : decode prog_14_method_74_code 20 = .ok (.getfield 415, 3) := by decide +kernel
theorem dModel_forge_23 : decode prog_14_method_74_code 23 = .ok (.iload_n 2, 1) := by decide +kernel
theorem dModel_forge_24 : decode prog_14_method_74_code 24 = .ok (.iaload, 1) := by decide +kernel
theorem dModel_forge_25 : decode prog_14_method_74_code 25 = .ok (.iload_n 1, 1) := by decide +kernel
theorem dModel_forge_26 : decode prog_14_method_74_code 26 = .ok (.if_icmp .ne 32, 3) := by decide +kernel
theorem dModel_forge_29 : decode prog_14_method_74_code 29 = .ok (.aload_n 0, 1) := by decide +kernel
theorem dModel_forge_30 : decode prog_14_method_74_code 30 = .ok (.getfield 418, 3) := by decide +kernel
theorem dModel_forge_33 : decode prog_14_method_74_code 33 = .ok (.iload_n 2, 1) := by decide +kernel
theorem dModel_forge_34 : decode prog_14_method_74_code 34 = .ok (.iaload, 1) := by decide +kernel
theorem dModel_forge_35 : decode prog_14_method_74_code 35 = .ok (.aload_n 0, 1) := by decide +kernel
theorem dModel_forge_36 : decode prog_14_method_74_code 36 = .ok (.getfield 348, 3) := by decide +kernel
theorem dModel_forge_39 : decode prog_14_method_74_code 39 = .ok (.if_icmp .gt 19, 3) := by decide +kernel
theorem dModel_forge_42 : decode prog_14_method_74_code 42 = .ok (.aload_n 0, 1) := by decide +kernel
theorem dModel_forge_43 : decode prog_14_method_74_code 43 = .ok (.getfield 447, 3) := by decide +kernel
theorem dModel_forge_46 : decode prog_14_method_74_code 46 = .ok (.iload_n 1, 1) := by decide +kernel
theorem dModel_forge_47 : decode prog_14_method_74_code 47 = .ok (.iaload, 1) := by decide +kernel
theorem dModel_forge_48 : decode prog_14_method_74_code 48 = .ok (.ifCond .ge 10, 3) := by decide +kernel
theorem dModel_forge_51 : decode prog_14_method_74_code 51 = .ok (.aload_n 0, 1) := by decide +kernel
theorem dModel_forge_52 : decode prog_14_method_74_code 52 = .ok (.getfield 450, 3) := by decide +kernel
theorem dModel_forge_55 : decode prog_14_method_74_code 55 = .ok (.iload_n 1, 1) := by decide +kernel
theorem dModel_forge_56 : decode prog_14_method_74_code 56 = .ok (.iconst 1, 1) := by decide +kernel
theorem dModel_forge_57 : decode prog_14_method_74_code 57 = .ok (.bastore, 1) := by decide +kernel
theorem dModel_forge_58 : decode prog_14_method_74_code 58 = .ok (.iinc 2 1, 3) := by decide +kernel
theorem dModel_forge_61 : decode prog_14_method_74_code 61 = .ok (.goto (-59), 3) := by decide +kernel
theorem dModel_forge_64 : decode prog_14_method_74_code 64 = .ok (.return_, 1) := by decide +kernel
theorem dModel_send_0 : decode prog_14_method_75_code 0 = .ok (.aload_n 0, 1) := by decide +kernel
theorem dModel_send_1 : decode prog_14_method_75_code 1 = .ok (.getfield 545, 3) := by decide +kernel
theorem dModel_send_4 : decode prog_14_method_75_code 4 = .ok (.aload_n 0, 1) := by decide +kernel
theorem dModel_send_5 : decode prog_14_method_75_code 5 = .ok (.getfield 548, 3) := by decide +kernel
theorem dModel_send_8 : decode prog_14_method_75_code 8 = .ok (.iload_n 1, 1) := by decide +kernel
theorem dModel_send_9 : decode prog_14_method_75_code 9 = .ok (.iastore, 1) := by decide +kernel
theorem dModel_send_10 : decode prog_14_method_75_code 10 = .ok (.aload_n 0, 1) := by decide +kernel
theorem dModel_send_11 : decode prog_14_method_75_code 11 = .ok (.getfield 551, 3) := by decide +kernel
theorem dModel_send_14 : decode prog_14_method_75_code 14 = .ok (.aload_n 0, 1) := by decide +kernel
theorem dModel_send_15 : decode prog_14_method_75_code 15 = .ok (.getfield 548, 3) := by decide +kernel
theorem dModel_send_18 : decode prog_14_method_75_code 18 = .ok (.aload_n 0, 1) := by decide +kernel
theorem dModel_send_19 : decode prog_14_method_75_code 19 = .ok (.getfield 348, 3) := by decide +kernel
theorem dModel_send_22 : decode prog_14_method_75_code 22 = .ok (.iload_n 2, 1) := by decide +kernel
theorem dModel_send_23 : decode prog_14_method_75_code 23 = .ok (.invokestatic 503, 3) := by decide +kernel
theorem dModel_send_26 : decode prog_14_method_75_code 26 = .ok (.invokestatic 477, 3) := by decide +kernel
theorem dModel_send_29 : decode prog_14_method_75_code 29 = .ok (.iadd, 1) := by decide +kernel
theorem dModel_send_30 : decode prog_14_method_75_code 30 = .ok (.iastore, 1) := by decide +kernel
theorem dModel_send_31 : decode prog_14_method_75_code 31 = .ok (.aload_n 0, 1) := by decide +kernel
theorem dModel_send_32 : decode prog_14_method_75_code 32 = .ok (.getfield 554, 3) := by decide +kernel
theorem dModel_send_35 : decode prog_14_method_75_code 35 = .ok (.aload_n 0, 1) := by decide +kernel
theorem dModel_send_36 : decode prog_14_method_75_code 36 = .ok (.getfield 548, 3) := by decide +kernel
theorem dModel_send_39 : decode prog_14_method_75_code 39 = .ok (.iload_n 3, 1) := by decide +kernel
theorem dModel_send_40 : decode prog_14_method_75_code 40 = .ok (.bastore, 1) := by decide +kernel
theorem dModel_send_41 : decode prog_14_method_75_code 41 = .ok (.aload_n 0, 1) := by decide +kernel
theorem dModel_send_42 : decode prog_14_method_75_code 42 = .ok (.getfield 557, 3) := by decide +kernel
theorem dModel_send_45 : decode prog_14_method_75_code 45 = .ok (.aload_n 0, 1) := by decide +kernel
theorem dModel_send_46 : decode prog_14_method_75_code 46 = .ok (.getfield 548, 3) := by decide +kernel
theorem dModel_send_49 : decode prog_14_method_75_code 49 = .ok (.iload 4, 2) := by decide +kernel
theorem dModel_send_51 : decode prog_14_method_75_code 51 = .ok (.iastore, 1) := by decide +kernel
theorem dModel_send_52 : decode prog_14_method_75_code 52 = .ok (.aload_n 0, 1) := by decide +kernel
theorem dModel_send_53 : decode prog_14_method_75_code 53 = .ok (.getfield 560, 3) := by decide +kernel
theorem dModel_send_56 : decode prog_14_method_75_code 56 = .ok (.aload_n 0, 1) := by decide +kernel
theorem dModel_send_57 : decode prog_14_method_75_code 57 = .ok (.getfield 548, 3) := by decide +kernel
theorem dModel_send_60 : decode prog_14_method_75_code 60 = .ok (.iload 5, 2) := by decide +kernel
theorem dModel_send_62 : decode prog_14_method_75_code 62 = .ok (.iastore, 1) := by decide +kernel
theorem dModel_send_63 : decode prog_14_method_75_code 63 = .ok (.aload_n 0, 1) := by decide +kernel
theorem dModel_send_64 : decode prog_14_method_75_code 64 = .ok (.getfield 563, 3) := by decide +kernel
theorem dModel_send_67 : decode prog_14_method_75_code 67 = .ok (.aload_n 0, 1) := by decide +kernel
theorem dModel_send_68 : decode prog_14_method_75_code 68 = .ok (.getfield 548, 3) := by decide +kernel
theorem dModel_send_71 : decode prog_14_method_75_code 71 = .ok (.iload 6, 2) := by decide +kernel
theorem dModel_send_73 : decode prog_14_method_75_code 73 = .ok (.iastore, 1) := by decide +kernel
theorem dModel_send_74 : decode prog_14_method_75_code 74 = .ok (.aload_n 0, 1) := by decide +kernel
theorem dModel_send_75 : decode prog_14_method_75_code 75 = .ok (.getfield 566, 3) := by decide +kernel
theorem dModel_send_78 : decode prog_14_method_75_code 78 = .ok (.aload_n 0, 1) := by decide +kernel
theorem dModel_send_79 : decode prog_14_method_75_code 79 = .ok (.getfield 548, 3) := by decide +kernel
theorem dModel_send_82 : decode prog_14_method_75_code 82 = .ok (.iload 7, 2) := by decide +kernel
theorem dModel_send_84 : decode prog_14_method_75_code 84 = .ok (.iastore, 1) := by decide +kernel
theorem dModel_send_85 : decode prog_14_method_75_code 85 = .ok (.aload_n 0, 1) := by decide +kernel
theorem dModel_send_86 : decode prog_14_method_75_code 86 = .ok (.getfield 569, 3) := by decide +kernel
theorem dModel_send_89 : decode prog_14_method_75_code 89 = .ok (.aload_n 0, 1) := by decide +kernel
theorem dModel_send_90 : decode prog_14_method_75_code 90 = .ok (.getfield 548, 3) := by decide +kernel
theorem dModel_send_93 : decode prog_14_method_75_code 93 = .ok (.iload_n 2, 1) := by decide +kernel
theorem dModel_send_94 : decode prog_14_method_75_code 94 = .ok (.iastore, 1) := by decide +kernel
theorem dModel_send_95 : decode prog_14_method_75_code 95 = .ok (.aload_n 0, 1) := by decide +kernel
theorem dModel_send_96 : decode prog_14_method_75_code 96 = .ok (.dup, 1) := by decide +kernel
theorem dModel_send_97 : decode prog_14_method_75_code 97 = .ok (.getfield 548, 3) := by decide +kernel
theorem dModel_send_100 : decode prog_14_method_75_code 100 = .ok (.iconst 1, 1) := by decide +kernel
theorem dModel_send_101 : decode prog_14_method_75_code 101 = .ok (.iadd, 1) := by decide +kernel
theorem dModel_send_102 : decode prog_14_method_75_code 102 = .ok (.putfield 548, 3) := by decide +kernel
theorem dModel_send_105 : decode prog_14_method_75_code 105 = .ok (.return_, 1) := by decide +kernel
theorem dModel_beginMonth_0 : decode prog_14_method_76_code 0 = .ok (.iconst 0, 1) := by decide +kernel
theorem dModel_beginMonth_1 : decode prog_14_method_76_code 1 = .ok (.istore_n 1, 1) := by decide +kernel
theorem dModel_beginMonth_2 : decode prog_14_method_76_code 2 = .ok (.iload_n 1, 1) := by decide +kernel
theorem dModel_beginMonth_3 : decode prog_14_method_76_code 3 = .ok (.aload_n 0, 1) := by decide +kernel
theorem dModel_beginMonth_4 : decode prog_14_method_76_code 4 = .ok (.getfield 387, 3) := by decide +kernel
theorem dModel_beginMonth_7 : decode prog_14_method_76_code 7 = .ok (.if_icmp .ge 27, 3) := by decide +kernel
theorem dModel_beginMonth_10 : decode prog_14_method_76_code 10 = .ok (.aload_n 0, 1) := by decide +kernel
theorem dModel_beginMonth_11 : decode prog_14_method_76_code 11 = .ok (.getfield 522, 3) := by decide +kernel
theorem dModel_beginMonth_14 : decode prog_14_method_76_code 14 = .ok (.iload_n 1, 1) := by decide +kernel
theorem dModel_beginMonth_15 : decode prog_14_method_76_code 15 = .ok (.iaload, 1) := by decide +kernel
theorem dModel_beginMonth_16 : decode prog_14_method_76_code 16 = .ok (.aload_n 0, 1) := by decide +kernel
theorem dModel_beginMonth_17 : decode prog_14_method_76_code 17 = .ok (.getfield 348, 3) := by decide +kernel
theorem dModel_beginMonth_20 : decode prog_14_method_76_code 20 = .ok (.if_icmp .ne 8, 3) := by decide +kernel
theorem dModel_beginMonth_23 : decode prog_14_method_76_code 23 = .ok (.aload_n 0, 1) := by decide +kernel
theorem dModel_beginMonth_24 : decode prog_14_method_76_code 24 = .ok (.iload_n 1, 1) := by decide +kernel
theorem dModel_beginMonth_25 : decode prog_14_method_76_code 25 = .ok (.invokevirtual 572, 3) := by decide +kernel
theorem dModel_beginMonth_28 : decode prog_14_method_76_code 28 = .ok (.iinc 1 1, 3) := by decide +kernel
theorem dModel_beginMonth_31 : decode prog_14_method_76_code 31 = .ok (.goto (-29), 3) := by decide +kernel
theorem dModel_beginMonth_34 : decode prog_14_method_76_code 34 = .ok (.iconst 0, 1) := by decide +kernel
theorem dModel_beginMonth_35 : decode prog_14_method_76_code 35 = .ok (.istore_n 1, 1) := by decide +kernel
theorem dModel_beginMonth_36 : decode prog_14_method_76_code 36 = .ok (.iload_n 1, 1) := by decide +kernel
theorem dModel_beginMonth_37 : decode prog_14_method_76_code 37 = .ok (.aload_n 0, 1) := by decide +kernel
theorem dModel_beginMonth_38 : decode prog_14_method_76_code 38 = .ok (.getfield 454, 3) := by decide +kernel
theorem dModel_beginMonth_41 : decode prog_14_method_76_code 41 = .ok (.if_icmp .ge 14, 3) := by decide +kernel
theorem dModel_beginMonth_44 : decode prog_14_method_76_code 44 = .ok (.aload_n 0, 1) := by decide +kernel
theorem dModel_beginMonth_45 : decode prog_14_method_76_code 45 = .ok (.iload_n 1, 1) := by decide +kernel
theorem dModel_beginMonth_46 : decode prog_14_method_76_code 46 = .ok (.invokevirtual 537, 3) := by decide +kernel
theorem dModel_beginMonth_49 : decode prog_14_method_76_code 49 = .ok (.iinc 1 1, 3) := by decide +kernel
theorem dModel_beginMonth_52 : decode prog_14_method_76_code 52 = .ok (.goto (-16), 3) := by decide +kernel
theorem dModel_beginMonth_55 : decode prog_14_method_76_code 55 = .ok (.return_, 1) := by decide +kernel
theorem dModel_bury_0 : decode prog_14_method_77_code 0 = .ok (.aload_n 0, 1) := by decide +kernel
theorem dModel_bury_1 : decode prog_14_method_77_code 1 = .ok (.getfield 575, 3) := by decide +kernel
theorem dModel_bury_4 : decode prog_14_method_77_code 4 = .ok (.iload_n 1, 1) := by decide +kernel
theorem dModel_bury_5 : decode prog_14_method_77_code 5 = .ok (.iaload, 1) := by decide +kernel
theorem dModel_bury_6 : decode prog_14_method_77_code 6 = .ok (.ifCond .lt 30, 3) := by decide +kernel
theorem dModel_bury_9 : decode prog_14_method_77_code 9 = .ok (.aload_n 0, 1) := by decide +kernel
theorem dModel_bury_10 : decode prog_14_method_77_code 10 = .ok (.getfield 522, 3) := by decide +kernel
theorem dModel_bury_13 : decode prog_14_method_77_code 13 = .ok (.aload_n 0, 1) := by decide +kernel
theorem dModel_bury_14 : decode prog_14_method_77_code 14 = .ok (.getfield 575, 3) := by decide +kernel
theorem dModel_bury_17 : decode prog_14_method_77_code 17 = .ok (.iload_n 1, 1) := by decide +kernel
theorem dModel_bury_18 : decode prog_14_method_77_code 18 = .ok (.iaload, 1) := by decide +kernel
theorem dModel_bury_19 : decode prog_14_method_77_code 19 = .ok (.iaload, 1) := by decide +kernel
theorem dModel_bury_20 : decode prog_14_method_77_code 20 = .ok (.aload_n 0, 1) := by decide +kernel
theorem dModel_bury_21 : decode prog_14_method_77_code 21 = .ok (.getfield 348, 3) := by decide +kernel
theorem dModel_bury_24 : decode prog_14_method_77_code 24 = .ok (.if_icmp .le 12, 3) := by decide +kernel
theorem dModel_bury_27 : decode prog_14_method_77_code 27 = .ok (.aload_n 0, 1) := by decide +kernel
theorem dModel_bury_28 : decode prog_14_method_77_code 28 = .ok (.getfield 575, 3) := by decide +kernel
theorem dModel_bury_31 : decode prog_14_method_77_code 31 = .ok (.iload_n 1, 1) := by decide +kernel
theorem dModel_bury_32 : decode prog_14_method_77_code 32 = .ok (.iaload, 1) := by decide +kernel
theorem dModel_bury_33 : decode prog_14_method_77_code 33 = .ok (.goto 4, 3) := by decide +kernel
theorem dModel_bury_36 : decode prog_14_method_77_code 36 = .ok (.iconst (-1), 1) := by decide +kernel
theorem dModel_bury_37 : decode prog_14_method_77_code 37 = .ok (.istore_n 2, 1) := by decide +kernel
theorem dModel_bury_38 : decode prog_14_method_77_code 38 = .ok (.iload_n 2, 1) := by decide +kernel
theorem dModel_bury_39 : decode prog_14_method_77_code 39 = .ok (.ifCond .lt 21, 3) := by decide +kernel
theorem dModel_bury_42 : decode prog_14_method_77_code 42 = .ok (.aload_n 0, 1) := by decide +kernel
theorem dModel_bury_43 : decode prog_14_method_77_code 43 = .ok (.getfield 578, 3) := by decide +kernel
theorem dModel_bury_46 : decode prog_14_method_77_code 46 = .ok (.iload_n 2, 1) := by decide +kernel
theorem dModel_bury_47 : decode prog_14_method_77_code 47 = .ok (.dup2, 1) := by decide +kernel
theorem dModel_bury_48 : decode prog_14_method_77_code 48 = .ok (.laload, 1) := by decide +kernel
theorem dModel_bury_49 : decode prog_14_method_77_code 49 = .ok (.aload_n 0, 1) := by decide +kernel
theorem dModel_bury_50 : decode prog_14_method_77_code 50 = .ok (.getfield 578, 3) := by decide +kernel
theorem dModel_bury_53 : decode prog_14_method_77_code 53 = .ok (.iload_n 1, 1) := by decide +kernel
theorem dModel_bury_54 : decode prog_14_method_77_code 54 = .ok (.laload, 1) := by decide +kernel
theorem dModel_bury_55 : decode prog_14_method_77_code 55 = .ok (.ladd, 1) := by decide +kernel
theorem dModel_bury_56 : decode prog_14_method_77_code 56 = .ok (.lastore, 1) := by decide +kernel
theorem dModel_bury_57 : decode prog_14_method_77_code 57 = .ok (.goto 18, 3) := by decide +kernel
theorem dModel_bury_60 : decode prog_14_method_77_code 60 = .ok (.aload_n 0, 1) := by decide +kernel
theorem dModel_bury_61 : decode prog_14_method_77_code 61 = .ok (.dup, 1) := by decide +kernel
theorem dModel_bury_62 : decode prog_14_method_77_code 62 = .ok (.getfield 581, 3) := by decide +kernel
theorem dModel_bury_65 : decode prog_14_method_77_code 65 = .ok (.aload_n 0, 1) := by decide +kernel
theorem dModel_bury_66 : decode prog_14_method_77_code 66 = .ok (.getfield 578, 3) := by decide +kernel
theorem dModel_bury_69 : decode prog_14_method_77_code 69 = .ok (.iload_n 1, 1) := by decide +kernel
theorem dModel_bury_70 : decode prog_14_method_77_code 70 = .ok (.laload, 1) := by decide +kernel
theorem dModel_bury_71 : decode prog_14_method_77_code 71 = .ok (.ladd, 1) := by decide +kernel
theorem dModel_bury_72 : decode prog_14_method_77_code 72 = .ok (.putfield 581, 3) := by decide +kernel
theorem dModel_bury_75 : decode prog_14_method_77_code 75 = .ok (.aload_n 0, 1) := by decide +kernel
theorem dModel_bury_76 : decode prog_14_method_77_code 76 = .ok (.getfield 578, 3) := by decide +kernel
theorem dModel_bury_79 : decode prog_14_method_77_code 79 = .ok (.iload_n 1, 1) := by decide +kernel
theorem dModel_bury_80 : decode prog_14_method_77_code 80 = .ok (.lconst 0, 1) := by decide +kernel
theorem dModel_bury_81 : decode prog_14_method_77_code 81 = .ok (.lastore, 1) := by decide +kernel
theorem dModel_bury_82 : decode prog_14_method_77_code 82 = .ok (.iconst 0, 1) := by decide +kernel
theorem dModel_bury_83 : decode prog_14_method_77_code 83 = .ok (.istore_n 3, 1) := by decide +kernel
theorem dModel_bury_84 : decode prog_14_method_77_code 84 = .ok (.iload_n 3, 1) := by decide +kernel
theorem dModel_bury_85 : decode prog_14_method_77_code 85 = .ok (.aload_n 0, 1) := by decide +kernel
theorem dModel_bury_86 : decode prog_14_method_77_code 86 = .ok (.getfield 454, 3) := by decide +kernel
theorem dModel_bury_89 : decode prog_14_method_77_code 89 = .ok (.if_icmp .ge 52, 3) := by decide +kernel
theorem dModel_bury_92 : decode prog_14_method_77_code 92 = .ok (.aload_n 0, 1) := by decide +kernel
theorem dModel_bury_93 : decode prog_14_method_77_code 93 = .ok (.getfield 525, 3) := by decide +kernel
theorem dModel_bury_96 : decode prog_14_method_77_code 96 = .ok (.iload_n 3, 1) := by decide +kernel
theorem dModel_bury_97 : decode prog_14_method_77_code 97 = .ok (.iaload, 1) := by decide +kernel
theorem dModel_bury_98 : decode prog_14_method_77_code 98 = .ok (.iload_n 1, 1) := by decide +kernel
theorem dModel_bury_99 : decode prog_14_method_77_code 99 = .ok (.if_icmp .ne 36, 3) := by decide +kernel
theorem dModel_bury_102 : decode prog_14_method_77_code 102 = .ok (.aload_n 0, 1) := by decide +kernel
theorem dModel_bury_103 : decode prog_14_method_77_code 103 = .ok (.iload_n 3, 1) := by decide +kernel
theorem dModel_bury_104 : decode prog_14_method_77_code 104 = .ok (.invokevirtual 460, 3) := by decide +kernel
theorem dModel_bury_107 : decode prog_14_method_77_code 107 = .ok (.ifCond .ne 6, 3) := by decide +kernel
theorem dModel_bury_110 : decode prog_14_method_77_code 110 = .ok (.goto 25, 3) := by decide +kernel
theorem dModel_bury_113 : decode prog_14_method_77_code 113 = .ok (.aload_n 0, 1) := by decide +kernel
theorem dModel_bury_114 : decode prog_14_method_77_code 114 = .ok (.getfield 525, 3) := by decide +kernel
theorem dModel_bury_117 : decode prog_14_method_77_code 117 = .ok (.iload_n 3, 1) := by decide +kernel
theorem dModel_bury_118 : decode prog_14_method_77_code 118 = .ok (.iload_n 2, 1) := by decide +kernel
theorem dModel_bury_119 : decode prog_14_method_77_code 119 = .ok (.iastore, 1) := by decide +kernel
theorem dModel_bury_120 : decode prog_14_method_77_code 120 = .ok (.aload_n 0, 1) := by decide +kernel
theorem dModel_bury_121 : decode prog_14_method_77_code 121 = .ok (.getfield 450, 3) := by decide +kernel
theorem dModel_bury_124 : decode prog_14_method_77_code 124 = .ok (.iload_n 3, 1) := by decide +kernel
theorem dModel_bury_125 : decode prog_14_method_77_code 125 = .ok (.iload_n 2, 1) := by decide +kernel
theorem dModel_bury_126 : decode prog_14_method_77_code 126 = .ok (.ifCond .ge 7, 3) := by decide +kernel
theorem dModel_bury_129 : decode prog_14_method_77_code 129 = .ok (.iconst 1, 1) := by decide +kernel
theorem dModel_bury_130 : decode prog_14_method_77_code 130 = .ok (.goto 4, 3) := by decide +kernel
theorem dModel_bury_133 : decode prog_14_method_77_code 133 = .ok (.iconst 0, 1) := by decide +kernel
theorem dModel_bury_134 : decode prog_14_method_77_code 134 = .ok (.bastore, 1) := by decide +kernel
theorem dModel_bury_135 : decode prog_14_method_77_code 135 = .ok (.iinc 3 1, 3) := by decide +kernel
theorem dModel_bury_138 : decode prog_14_method_77_code 138 = .ok (.goto (-54), 3) := by decide +kernel
theorem dModel_bury_141 : decode prog_14_method_77_code 141 = .ok (.iconst 0, 1) := by decide +kernel
theorem dModel_bury_142 : decode prog_14_method_77_code 142 = .ok (.istore_n 3, 1) := by decide +kernel
theorem dModel_bury_143 : decode prog_14_method_77_code 143 = .ok (.iload_n 3, 1) := by decide +kernel
theorem dModel_bury_144 : decode prog_14_method_77_code 144 = .ok (.aload_n 0, 1) := by decide +kernel
theorem dModel_bury_145 : decode prog_14_method_77_code 145 = .ok (.getfield 548, 3) := by decide +kernel
theorem dModel_bury_148 : decode prog_14_method_77_code 148 = .ok (.if_icmp .ge 39, 3) := by decide +kernel
theorem dModel_bury_151 : decode prog_14_method_77_code 151 = .ok (.aload_n 0, 1) := by decide +kernel
theorem dModel_bury_152 : decode prog_14_method_77_code 152 = .ok (.getfield 545, 3) := by decide +kernel
theorem dModel_bury_155 : decode prog_14_method_77_code 155 = .ok (.iload_n 3, 1) := by decide +kernel
theorem dModel_bury_156 : decode prog_14_method_77_code 156 = .ok (.iaload, 1) := by decide +kernel
theorem dModel_bury_157 : decode prog_14_method_77_code 157 = .ok (.iload_n 1, 1) := by decide +kernel
theorem dModel_bury_158 : decode prog_14_method_77_code 158 = .ok (.if_icmp .ne 23, 3) := by decide +kernel
theorem dModel_bury_161 : decode prog_14_method_77_code 161 = .ok (.aload_n 0, 1) := by decide +kernel
theorem dModel_bury_162 : decode prog_14_method_77_code 162 = .ok (.getfield 551, 3) := by decide +kernel
theorem dModel_bury_165 : decode prog_14_method_77_code 165 = .ok (.iload_n 3, 1) := by decide +kernel
theorem dModel_bury_166 : decode prog_14_method_77_code 166 = .ok (.iaload, 1) := by decide +kernel
theorem dModel_bury_167 : decode prog_14_method_77_code 167 = .ok (.aload_n 0, 1) := by decide +kernel
theorem dModel_bury_168 : decode prog_14_method_77_code 168 = .ok (.getfield 348, 3) := by decide +kernel
theorem dModel_bury_171 : decode prog_14_method_77_code 171 = .ok (.if_icmp .lt 10, 3) := by decide +kernel
theorem dModel_bury_174 : decode prog_14_method_77_code 174 = .ok (.aload_n 0, 1) := by decide +kernel
theorem dModel_bury_175 : decode prog_14_method_77_code 175 = .ok (.getfield 545, 3) := by decide +kernel
theorem dModel_bury_178 : decode prog_14_method_77_code 178 = .ok (.iload_n 3, 1) := by decide +kernel
theorem dModel_bury_179 : decode prog_14_method_77_code 179 = .ok (.iload_n 2, 1) := by decide +kernel
theorem dModel_bury_180 : decode prog_14_method_77_code 180 = .ok (.iastore, 1) := by decide +kernel
theorem dModel_bury_181 : decode prog_14_method_77_code 181 = .ok (.iinc 3 1, 3) := by decide +kernel
theorem dModel_bury_184 : decode prog_14_method_77_code 184 = .ok (.goto (-41), 3) := by decide +kernel
theorem dModel_bury_187 : decode prog_14_method_77_code 187 = .ok (.iconst 0, 1) := by decide +kernel
theorem dModel_bury_188 : decode prog_14_method_77_code 188 = .ok (.istore_n 3, 1) := by decide +kernel
theorem dModel_bury_189 : decode prog_14_method_77_code 189 = .ok (.iload_n 3, 1) := by decide +kernel
theorem dModel_bury_190 : decode prog_14_method_77_code 190 = .ok (.iconst 3, 1) := by decide +kernel
theorem dModel_bury_191 : decode prog_14_method_77_code 191 = .ok (.if_icmp .ge 20, 3) := by decide +kernel
theorem dModel_bury_194 : decode prog_14_method_77_code 194 = .ok (.aload_n 0, 1) := by decide +kernel
theorem dModel_bury_195 : decode prog_14_method_77_code 195 = .ok (.getfield 584, 3) := by decide +kernel
theorem dModel_bury_198 : decode prog_14_method_77_code 198 = .ok (.iconst 3, 1) := by decide +kernel
theorem dModel_bury_199 : decode prog_14_method_77_code 199 = .ok (.iload_n 1, 1) := by decide +kernel
theorem dModel_bury_200 : decode prog_14_method_77_code 200 = .ok (.imul, 1) := by decide +kernel
theorem dModel_bury_201 : decode prog_14_method_77_code 201 = .ok (.iload_n 3, 1) := by decide +kernel
theorem dModel_bury_202 : decode prog_14_method_77_code 202 = .ok (.iadd, 1) := by decide +kernel
theorem dModel_bury_203 : decode prog_14_method_77_code 203 = .ok (.iconst (-1), 1) := by decide +kernel
theorem dModel_bury_204 : decode prog_14_method_77_code 204 = .ok (.iastore, 1) := by decide +kernel
theorem dModel_bury_205 : decode prog_14_method_77_code 205 = .ok (.iinc 3 1, 3) := by decide +kernel
theorem dModel_bury_208 : decode prog_14_method_77_code 208 = .ok (.goto (-19), 3) := by decide +kernel
theorem dModel_bury_211 : decode prog_14_method_77_code 211 = .ok (.return_, 1) := by decide +kernel
theorem dModel_make_0 : decode prog_14_method_78_code 0 = .ok (.iconst 0, 1) := by decide +kernel
theorem dModel_make_1 : decode prog_14_method_78_code 1 = .ok (.istore_n 1, 1) := by decide +kernel
theorem dModel_make_2 : decode prog_14_method_78_code 2 = .ok (.iload_n 1, 1) := by decide +kernel
theorem dModel_make_3 : decode prog_14_method_78_code 3 = .ok (.aload_n 0, 1) := by decide +kernel
theorem dModel_make_4 : decode prog_14_method_78_code 4 = .ok (.invokevirtual 433, 3) := by decide +kernel
theorem dModel_make_7 : decode prog_14_method_78_code 7 = .ok (.if_icmp .ge 122, 3) := by decide +kernel
theorem dModel_make_10 : decode prog_14_method_78_code 10 = .ok (.aload_n 0, 1) := by decide +kernel
theorem dModel_make_11 : decode prog_14_method_78_code 11 = .ok (.getfield 245, 3) := by decide +kernel
theorem dModel_make_14 : decode prog_14_method_78_code 14 = .ok (.bipush 12, 2) := by decide +kernel
theorem dModel_make_16 : decode prog_14_method_78_code 16 = .ok (.iconst 3, 1) := by decide +kernel
theorem dModel_make_17 : decode prog_14_method_78_code 17 = .ok (.aload_n 0, 1) := by decide +kernel
theorem dModel_make_18 : decode prog_14_method_78_code 18 = .ok (.getfield 147, 3) := by decide +kernel
theorem dModel_make_21 : decode prog_14_method_78_code 21 = .ok (.imul, 1) := by decide +kernel
theorem dModel_make_22 : decode prog_14_method_78_code 22 = .ok (.iload_n 1, 1) := by decide +kernel
theorem dModel_make_23 : decode prog_14_method_78_code 23 = .ok (.iadd, 1) := by decide +kernel
theorem dModel_make_24 : decode prog_14_method_78_code 24 = .ok (.imul, 1) := by decide +kernel
theorem dModel_make_25 : decode prog_14_method_78_code 25 = .ok (.aload_n 0, 1) := by decide +kernel
theorem dModel_make_26 : decode prog_14_method_78_code 26 = .ok (.getfield 348, 3) := by decide +kernel
theorem dModel_make_29 : decode prog_14_method_78_code 29 = .ok (.bipush 12, 2) := by decide +kernel
theorem dModel_make_31 : decode prog_14_method_78_code 31 = .ok (.irem, 1) := by decide +kernel
theorem dModel_make_32 : decode prog_14_method_78_code 32 = .ok (.iadd, 1) := by decide +kernel
theorem dModel_make_33 : decode prog_14_method_78_code 33 = .ok (.iaload, 1) := by decide +kernel
theorem dModel_make_34 : decode prog_14_method_78_code 34 = .ok (.istore_n 2, 1) := by decide +kernel
theorem dModel_make_35 : decode prog_14_method_78_code 35 = .ok (.iconst 0, 1) := by decide +kernel
theorem dModel_make_36 : decode prog_14_method_78_code 36 = .ok (.istore_n 3, 1) := by decide +kernel
theorem dModel_make_37 : decode prog_14_method_78_code 37 = .ok (.iload_n 3, 1) := by decide +kernel
theorem dModel_make_38 : decode prog_14_method_78_code 38 = .ok (.aload_n 0, 1) := by decide +kernel
theorem dModel_make_39 : decode prog_14_method_78_code 39 = .ok (.getfield 169, 3) := by decide +kernel
theorem dModel_make_42 : decode prog_14_method_78_code 42 = .ok (.if_icmp .ge 71, 3) := by decide +kernel
theorem dModel_make_45 : decode prog_14_method_78_code 45 = .ok (.aload_n 0, 1) := by decide +kernel
theorem dModel_make_46 : decode prog_14_method_78_code 46 = .ok (.iload_n 3, 1) := by decide +kernel
theorem dModel_make_47 : decode prog_14_method_78_code 47 = .ok (.iconst 0, 1) := by decide +kernel
theorem dModel_make_48 : decode prog_14_method_78_code 48 = .ok (.invokevirtual 541, 3) := by decide +kernel
theorem dModel_make_51 : decode prog_14_method_78_code 51 = .ok (.ifCond .eq 56, 3) := by decide +kernel
theorem dModel_make_54 : decode prog_14_method_78_code 54 = .ok (.aload_n 0, 1) := by decide +kernel
theorem dModel_make_55 : decode prog_14_method_78_code 55 = .ok (.getfield 415, 3) := by decide +kernel
theorem dModel_make_58 : decode prog_14_method_78_code 58 = .ok (.iload_n 3, 1) := by decide +kernel
theorem dModel_make_59 : decode prog_14_method_78_code 59 = .ok (.iaload, 1) := by decide +kernel
theorem dModel_make_60 : decode prog_14_method_78_code 60 = .ok (.iload_n 1, 1) := by decide +kernel
theorem dModel_make_61 : decode prog_14_method_78_code 61 = .ok (.if_icmp .ne 46, 3) := by decide +kernel
theorem dModel_make_64 : decode prog_14_method_78_code 64 = .ok (.aload_n 0, 1) := by decide +kernel
theorem dModel_make_65 : decode prog_14_method_78_code 65 = .ok (.getfield 418, 3) := by decide +kernel
theorem dModel_make_68 : decode prog_14_method_78_code 68 = .ok (.iload_n 3, 1) := by decide +kernel
theorem dModel_make_69 : decode prog_14_method_78_code 69 = .ok (.iaload, 1) := by decide +kernel
theorem dModel_make_70 : decode prog_14_method_78_code 70 = .ok (.aload_n 0, 1) := by decide +kernel
theorem dModel_make_71 : decode prog_14_method_78_code 71 = .ok (.getfield 348, 3) := by decide +kernel
theorem dModel_make_74 : decode prog_14_method_78_code 74 = .ok (.if_icmp .eq 6, 3) := by decide +kernel
theorem dModel_make_77 : decode prog_14_method_78_code 77 = .ok (.goto 30, 3) := by decide +kernel
theorem dModel_make_80 : decode prog_14_method_78_code 80 = .ok (.iload_n 2, 1) := by decide +kernel
theorem dModel_make_81 : decode prog_14_method_78_code 81 = .ok (.aload_n 0, 1) := by decide +kernel
theorem dModel_make_82 : decode prog_14_method_78_code 82 = .ok (.getfield 421, 3) := by decide +kernel
theorem dModel_make_85 : decode prog_14_method_78_code 85 = .ok (.iload_n 3, 1) := by decide +kernel
theorem dModel_make_86 : decode prog_14_method_78_code 86 = .ok (.iaload, 1) := by decide +kernel
theorem dModel_make_87 : decode prog_14_method_78_code 87 = .ok (.imul, 1) := by decide +kernel
theorem dModel_make_88 : decode prog_14_method_78_code 88 = .ok (.bipush 100, 2) := by decide +kernel
theorem dModel_make_90 : decode prog_14_method_78_code 90 = .ok (.idiv, 1) := by decide +kernel
theorem dModel_make_91 : decode prog_14_method_78_code 91 = .ok (.istore_n 2, 1) := by decide +kernel
theorem dModel_make_92 : decode prog_14_method_78_code 92 = .ok (.iload_n 2, 1) := by decide +kernel
theorem dModel_make_93 : decode prog_14_method_78_code 93 = .ok (.ldc_w 587, 3) := by decide +kernel
theorem dModel_make_96 : decode prog_14_method_78_code 96 = .ok (.if_icmp .le 9, 3) := by decide +kernel
theorem dModel_make_99 : decode prog_14_method_78_code 99 = .ok (.ldc_w 587, 3) := by decide +kernel
theorem dModel_make_102 : decode prog_14_method_78_code 102 = .ok (.goto 4, 3) := by decide +kernel
theorem dModel_make_105 : decode prog_14_method_78_code 105 = .ok (.iload_n 2, 1) := by decide +kernel
theorem dModel_make_106 : decode prog_14_method_78_code 106 = .ok (.istore_n 2, 1) := by decide +kernel
theorem dModel_make_107 : decode prog_14_method_78_code 107 = .ok (.iinc 3 1, 3) := by decide +kernel
theorem dModel_make_110 : decode prog_14_method_78_code 110 = .ok (.goto (-73), 3) := by decide +kernel
theorem dModel_make_113 : decode prog_14_method_78_code 113 = .ok (.aload_n 0, 1) := by decide +kernel
theorem dModel_make_114 : decode prog_14_method_78_code 114 = .ok (.getfield 469, 3) := by decide +kernel
theorem dModel_make_117 : decode prog_14_method_78_code 117 = .ok (.iload_n 1, 1) := by decide +kernel
theorem dModel_make_118 : decode prog_14_method_78_code 118 = .ok (.dup2, 1) := by decide +kernel
theorem dModel_make_119 : decode prog_14_method_78_code 119 = .ok (.iaload, 1) := by decide +kernel
theorem dModel_make_120 : decode prog_14_method_78_code 120 = .ok (.iload_n 2, 1) := by decide +kernel
theorem dModel_make_121 : decode prog_14_method_78_code 121 = .ok (.iadd, 1) := by decide +kernel
theorem dModel_make_122 : decode prog_14_method_78_code 122 = .ok (.iastore, 1) := by decide +kernel
theorem dModel_make_123 : decode prog_14_method_78_code 123 = .ok (.iinc 1 1, 3) := by decide +kernel
theorem dModel_make_126 : decode prog_14_method_78_code 126 = .ok (.goto (-124), 3) := by decide +kernel
theorem dModel_make_129 : decode prog_14_method_78_code 129 = .ok (.return_, 1) := by decide +kernel
theorem dModel_tellMonth_0 : decode prog_14_method_79_code 0 = .ok (.aload_n 0, 1) := by decide +kernel
theorem dModel_tellMonth_1 : decode prog_14_method_79_code 1 = .ok (.aload_n 0, 1) := by decide +kernel
theorem dModel_tellMonth_2 : decode prog_14_method_79_code 2 = .ok (.aload_n 0, 1) := by decide +kernel
theorem dModel_tellMonth_3 : decode prog_14_method_79_code 3 = .ok (.getfield 516, 3) := by decide +kernel
theorem dModel_tellMonth_6 : decode prog_14_method_79_code 6 = .ok (.iconst 1, 1) := by decide +kernel
theorem dModel_tellMonth_7 : decode prog_14_method_79_code 7 = .ok (.invokevirtual 519, 3) := by decide +kernel
theorem dModel_tellMonth_10 : decode prog_14_method_79_code 10 = .ok (.putfield 588, 3) := by decide +kernel
theorem dModel_tellMonth_13 : decode prog_14_method_79_code 13 = .ok (.aload_n 0, 1) := by decide +kernel
theorem dModel_tellMonth_14 : decode prog_14_method_79_code 14 = .ok (.aload_n 0, 1) := by decide +kernel
theorem dModel_tellMonth_15 : decode prog_14_method_79_code 15 = .ok (.aload_n 0, 1) := by decide +kernel
theorem dModel_tellMonth_16 : decode prog_14_method_79_code 16 = .ok (.getfield 516, 3) := by decide +kernel
theorem dModel_tellMonth_19 : decode prog_14_method_79_code 19 = .ok (.iconst 2, 1) := by decide +kernel
theorem dModel_tellMonth_20 : decode prog_14_method_79_code 20 = .ok (.invokevirtual 519, 3) := by decide +kernel
theorem dModel_tellMonth_23 : decode prog_14_method_79_code 23 = .ok (.putfield 591, 3) := by decide +kernel
theorem dModel_tellMonth_26 : decode prog_14_method_79_code 26 = .ok (.aload_n 0, 1) := by decide +kernel
theorem dModel_tellMonth_27 : decode prog_14_method_79_code 27 = .ok (.aload_n 0, 1) := by decide +kernel
theorem dModel_tellMonth_28 : decode prog_14_method_79_code 28 = .ok (.aload_n 0, 1) := by decide +kernel
theorem dModel_tellMonth_29 : decode prog_14_method_79_code 29 = .ok (.getfield 516, 3) := by decide +kernel
theorem dModel_tellMonth_32 : decode prog_14_method_79_code 32 = .ok (.iconst 3, 1) := by decide +kernel
theorem dModel_tellMonth_33 : decode prog_14_method_79_code 33 = .ok (.invokevirtual 519, 3) := by decide +kernel
theorem dModel_tellMonth_36 : decode prog_14_method_79_code 36 = .ok (.putfield 500, 3) := by decide +kernel
theorem dModel_tellMonth_39 : decode prog_14_method_79_code 39 = .ok (.aload_n 0, 1) := by decide +kernel
theorem dModel_tellMonth_40 : decode prog_14_method_79_code 40 = .ok (.aload_n 0, 1) := by decide +kernel
theorem dModel_tellMonth_41 : decode prog_14_method_79_code 41 = .ok (.aload_n 0, 1) := by decide +kernel
theorem dModel_tellMonth_42 : decode prog_14_method_79_code 42 = .ok (.getfield 516, 3) := by decide +kernel
theorem dModel_tellMonth_45 : decode prog_14_method_79_code 45 = .ok (.iconst 4, 1) := by decide +kernel
theorem dModel_tellMonth_46 : decode prog_14_method_79_code 46 = .ok (.invokevirtual 519, 3) := by decide +kernel
theorem dModel_tellMonth_49 : decode prog_14_method_79_code 49 = .ok (.putfield 594, 3) := by decide +kernel
theorem dModel_tellMonth_52 : decode prog_14_method_79_code 52 = .ok (.return_, 1) := by decide +kernel
theorem dModel_comes_0 : decode prog_14_method_80_code 0 = .ok (.aload_n 0, 1) := by decide +kernel
theorem dModel_comes_1 : decode prog_14_method_80_code 1 = .ok (.getfield 548, 3) := by decide +kernel
theorem dModel_comes_4 : decode prog_14_method_80_code 4 = .ok (.istore_n 1, 1) := by decide +kernel
theorem dModel_comes_5 : decode prog_14_method_80_code 5 = .ok (.iconst 0, 1) := by decide +kernel
theorem dModel_comes_6 : decode prog_14_method_80_code 6 = .ok (.istore_n 2, 1) := by decide +kernel
theorem dModel_comes_7 : decode prog_14_method_80_code 7 = .ok (.iload_n 2, 1) := by decide +kernel
theorem dModel_comes_8 : decode prog_14_method_80_code 8 = .ok (.iload_n 1, 1) := by decide +kernel
theorem dModel_comes_9 : decode prog_14_method_80_code 9 = .ok (.if_icmp .ge 244, 3) := by decide +kernel
theorem dModel_comes_12 : decode prog_14_method_80_code 12 = .ok (.aload_n 0, 1) := by decide +kernel
theorem dModel_comes_13 : decode prog_14_method_80_code 13 = .ok (.getfield 551, 3) := by decide +kernel
theorem dModel_comes_16 : decode prog_14_method_80_code 16 = .ok (.iload_n 2, 1) := by decide +kernel
theorem dModel_comes_17 : decode prog_14_method_80_code 17 = .ok (.iaload, 1) := by decide +kernel
theorem dModel_comes_18 : decode prog_14_method_80_code 18 = .ok (.aload_n 0, 1) := by decide +kernel
theorem dModel_comes_19 : decode prog_14_method_80_code 19 = .ok (.getfield 348, 3) := by decide +kernel
theorem dModel_comes_22 : decode prog_14_method_80_code 22 = .ok (.if_icmp .eq 6, 3) := by decide +kernel
theorem dModel_comes_25 : decode prog_14_method_80_code 25 = .ok (.goto 222, 3) := by decide +kernel
theorem dModel_comes_28 : decode prog_14_method_80_code 28 = .ok (.aload_n 0, 1) := by decide +kernel
theorem dModel_comes_29 : decode prog_14_method_80_code 29 = .ok (.getfield 554, 3) := by decide +kernel
theorem dModel_comes_32 : decode prog_14_method_80_code 32 = .ok (.iload_n 2, 1) := by decide +kernel
theorem dModel_comes_33 : decode prog_14_method_80_code 33 = .ok (.baload, 1) := by decide +kernel
theorem dModel_comes_34 : decode prog_14_method_80_code 34 = .ok (.ifCond .eq 152, 3) := by decide +kernel
theorem dModel_comes_37 : decode prog_14_method_80_code 37 = .ok (.aload_n 0, 1) := by decide +kernel
theorem dModel_comes_38 : decode prog_14_method_80_code 38 = .ok (.aload_n 0, 1) := by decide +kernel
theorem dModel_comes_39 : decode prog_14_method_80_code 39 = .ok (.getfield 557, 3) := by decide +kernel
theorem dModel_comes_42 : decode prog_14_method_80_code 42 = .ok (.iload_n 2, 1) := by decide +kernel
theorem dModel_comes_43 : decode prog_14_method_80_code 43 = .ok (.iaload, 1) := by decide +kernel
theorem dModel_comes_44 : decode prog_14_method_80_code 44 = .ok (.invokevirtual 497, 3) := by decide +kernel
theorem dModel_comes_47 : decode prog_14_method_80_code 47 = .ok (.istore_n 3, 1) := by decide +kernel
theorem dModel_comes_48 : decode prog_14_method_80_code 48 = .ok (.iload_n 3, 1) := by decide +kernel
theorem dModel_comes_49 : decode prog_14_method_80_code 49 = .ok (.aload_n 0, 1) := by decide +kernel
theorem dModel_comes_50 : decode prog_14_method_80_code 50 = .ok (.getfield 500, 3) := by decide +kernel
theorem dModel_comes_53 : decode prog_14_method_80_code 53 = .ok (.if_icmp .le 12, 3) := by decide +kernel
theorem dModel_comes_56 : decode prog_14_method_80_code 56 = .ok (.iload_n 3, 1) := by decide +kernel
theorem dModel_comes_57 : decode prog_14_method_80_code 57 = .ok (.aload_n 0, 1) := by decide +kernel
theorem dModel_comes_58 : decode prog_14_method_80_code 58 = .ok (.getfield 500, 3) := by decide +kernel
theorem dModel_comes_61 : decode prog_14_method_80_code 61 = .ok (.isub, 1) := by decide +kernel
theorem dModel_comes_62 : decode prog_14_method_80_code 62 = .ok (.goto 4, 3) := by decide +kernel
theorem dModel_comes_65 : decode prog_14_method_80_code 65 = .ok (.iconst 0, 1) := by decide +kernel
theorem dModel_comes_66 : decode prog_14_method_80_code 66 = .ok (.istore 4, 2) := by decide +kernel
theorem dModel_comes_68 : decode prog_14_method_80_code 68 = .ok (.aload_n 0, 1) := by decide +kernel
theorem dModel_comes_69 : decode prog_14_method_80_code 69 = .ok (.getfield 474, 3) := by decide +kernel
theorem dModel_comes_72 : decode prog_14_method_80_code 72 = .ok (.aload_n 0, 1) := by decide +kernel
theorem dModel_comes_73 : decode prog_14_method_80_code 73 = .ok (.getfield 557, 3) := by decide +kernel
theorem dModel_comes_76 : decode prog_14_method_80_code 76 = .ok (.iload_n 2, 1) := by decide +kernel
theorem dModel_comes_77 : decode prog_14_method_80_code 77 = .ok (.iaload, 1) := by decide +kernel
theorem dModel_comes_78 : decode prog_14_method_80_code 78 = .ok (.dup2, 1) := by decide +kernel
theorem dModel_comes_79 : decode prog_14_method_80_code 79 = .ok (.iaload, 1) := by decide +kernel
theorem dModel_comes_80 : decode prog_14_method_80_code 80 = .ok (.aload_n 0, 1) := by decide +kernel
theorem dModel_comes_81 : decode prog_14_method_80_code 81 = .ok (.getfield 560, 3) := by decide +kernel
theorem dModel_comes_84 : decode prog_14_method_80_code 84 = .ok (.iload_n 2, 1) := by decide +kernel
theorem dModel_comes_85 : decode prog_14_method_80_code 85 = .ok (.iaload, 1) := by decide +kernel
theorem dModel_comes_86 : decode prog_14_method_80_code 86 = .ok (.iadd, 1) := by decide +kernel
theorem dModel_comes_87 : decode prog_14_method_80_code 87 = .ok (.iastore, 1) := by decide +kernel
theorem dModel_comes_88 : decode prog_14_method_80_code 88 = .ok (.aload_n 0, 1) := by decide +kernel
theorem dModel_comes_89 : decode prog_14_method_80_code 89 = .ok (.dup, 1) := by decide +kernel
theorem dModel_comes_90 : decode prog_14_method_80_code 90 = .ok (.getfield 597, 3) := by decide +kernel
theorem dModel_comes_93 : decode prog_14_method_80_code 93 = .ok (.aload_n 0, 1) := by decide +kernel
theorem dModel_comes_94 : decode prog_14_method_80_code 94 = .ok (.getfield 560, 3) := by decide +kernel
theorem dModel_comes_97 : decode prog_14_method_80_code 97 = .ok (.iload_n 2, 1) := by decide +kernel
theorem dModel_comes_98 : decode prog_14_method_80_code 98 = .ok (.iaload, 1) := by decide +kernel
theorem dModel_comes_99 : decode prog_14_method_80_code 99 = .ok (.i2l, 1) := by decide +kernel
theorem dModel_comes_100 : decode prog_14_method_80_code 100 = .ok (.ladd, 1) := by decide +kernel
theorem dModel_comes_101 : decode prog_14_method_80_code 101 = .ok (.putfield 597, 3) := by decide +kernel
theorem dModel_comes_104 : decode prog_14_method_80_code 104 = .ok (.aload_n 0, 1) := by decide +kernel
theorem dModel_comes_105 : decode prog_14_method_80_code 105 = .ok (.dup, 1) := by decide +kernel
theorem dModel_comes_106 : decode prog_14_method_80_code 106 = .ok (.getfield 581, 3) := by decide +kernel
theorem dModel_comes_109 : decode prog_14_method_80_code 109 = .ok (.aload_n 0, 1) := by decide +kernel
theorem dModel_comes_110 : decode prog_14_method_80_code 110 = .ok (.getfield 560, 3) := by decide +kernel
theorem dModel_comes_113 : decode prog_14_method_80_code 113 = .ok (.iload_n 2, 1) := by decide +kernel
theorem dModel_comes_114 : decode prog_14_method_80_code 114 = .ok (.iaload, 1) := by decide +kernel
theorem dModel_comes_115 : decode prog_14_method_80_code 115 = .ok (.i2l, 1) := by decide +kernel
theorem dModel_comes_116 : decode prog_14_method_80_code 116 = .ok (.aload_n 0, 1) := by decide +kernel
theorem dModel_comes_117 : decode prog_14_method_80_code 117 = .ok (.getfield 500, 3) := by decide +kernel
theorem dModel_comes_120 : decode prog_14_method_80_code 120 = .ok (.i2l, 1) := by decide +kernel
theorem dModel_comes_121 : decode prog_14_method_80_code 121 = .ok (.lmul, 1) := by decide +kernel
theorem dModel_comes_122 : decode prog_14_method_80_code 122 = .ok (.ladd, 1) := by decide +kernel
theorem dModel_comes_123 : decode prog_14_method_80_code 123 = .ok (.putfield 581, 3) := by decide +kernel
theorem dModel_comes_126 : decode prog_14_method_80_code 126 = .ok (.aload_n 0, 1) := by decide +kernel
theorem dModel_comes_127 : decode prog_14_method_80_code 127 = .ok (.getfield 545, 3) := by decide +kernel
theorem dModel_comes_130 : decode prog_14_method_80_code 130 = .ok (.iload_n 2, 1) := by decide +kernel
theorem dModel_comes_131 : decode prog_14_method_80_code 131 = .ok (.iaload, 1) := by decide +kernel
theorem dModel_comes_132 : decode prog_14_method_80_code 132 = .ok (.ifCond .lt 31, 3) := by decide +kernel
theorem dModel_comes_135 : decode prog_14_method_80_code 135 = .ok (.aload_n 0, 1) := by decide +kernel
theorem dModel_comes_136 : decode prog_14_method_80_code 136 = .ok (.getfield 578, 3) := by decide +kernel
theorem dModel_comes_139 : decode prog_14_method_80_code 139 = .ok (.aload_n 0, 1) := by decide +kernel
theorem dModel_comes_140 : decode prog_14_method_80_code 140 = .ok (.getfield 545, 3) := by decide +kernel
theorem dModel_comes_143 : decode prog_14_method_80_code 143 = .ok (.iload_n 2, 1) := by decide +kernel
theorem dModel_comes_144 : decode prog_14_method_80_code 144 = .ok (.iaload, 1) := by decide +kernel
theorem dModel_comes_145 : decode prog_14_method_80_code 145 = .ok (.dup2, 1) := by decide +kernel
theorem dModel_comes_146 : decode prog_14_method_80_code 146 = .ok (.laload, 1) := by decide +kernel
theorem dModel_comes_147 : decode prog_14_method_80_code 147 = .ok (.aload_n 0, 1) := by decide +kernel
theorem dModel_comes_148 : decode prog_14_method_80_code 148 = .ok (.getfield 560, 3) := by decide +kernel
theorem dModel_comes_151 : decode prog_14_method_80_code 151 = .ok (.iload_n 2, 1) := by decide +kernel
theorem dModel_comes_152 : decode prog_14_method_80_code 152 = .ok (.iaload, 1) := by decide +kernel
theorem dModel_comes_153 : decode prog_14_method_80_code 153 = .ok (.i2l, 1) := by decide +kernel
theorem dModel_comes_154 : decode prog_14_method_80_code 154 = .ok (.iload 4, 2) := by decide +kernel
theorem dModel_comes_156 : decode prog_14_method_80_code 156 = .ok (.i2l, 1) := by decide +kernel
theorem dModel_comes_157 : decode prog_14_method_80_code 157 = .ok (.lmul, 1) := by decide +kernel
theorem dModel_comes_158 : decode prog_14_method_80_code 158 = .ok (.ladd, 1) := by decide +kernel
theorem dModel_comes_159 : decode prog_14_method_80_code 159 = .ok (.lastore, 1) := by decide +kernel
theorem dModel_comes_160 : decode prog_14_method_80_code 160 = .ok (.goto 23, 3) := by decide +kernel
theorem dModel_comes_163 : decode prog_14_method_80_code 163 = .ok (.aload_n 0, 1) := by decide +kernel
theorem dModel_comes_164 : decode prog_14_method_80_code 164 = .ok (.dup, 1) := by decide +kernel
theorem dModel_comes_165 : decode prog_14_method_80_code 165 = .ok (.getfield 581, 3) := by decide +kernel
theorem dModel_comes_168 : decode prog_14_method_80_code 168 = .ok (.aload_n 0, 1) := by decide +kernel
theorem dModel_comes_169 : decode prog_14_method_80_code 169 = .ok (.getfield 560, 3) := by decide +kernel
theorem dModel_comes_172 : decode prog_14_method_80_code 172 = .ok (.iload_n 2, 1) := by decide +kernel
theorem dModel_comes_173 : decode prog_14_method_80_code 173 = .ok (.iaload, 1) := by decide +kernel
theorem dModel_comes_174 : decode prog_14_method_80_code 174 = .ok (.i2l, 1) := by decide +kernel
theorem dModel_comes_175 : decode prog_14_method_80_code 175 = .ok (.iload 4, 2) := by decide +kernel
theorem dModel_comes_177 : decode prog_14_method_80_code 177 = .ok (.i2l, 1) := by decide +kernel
theorem dModel_comes_178 : decode prog_14_method_80_code 178 = .ok (.lmul, 1) := by decide +kernel
theorem dModel_comes_179 : decode prog_14_method_80_code 179 = .ok (.ladd, 1) := by decide +kernel
theorem dModel_comes_180 : decode prog_14_method_80_code 180 = .ok (.putfield 581, 3) := by decide +kernel
theorem dModel_comes_183 : decode prog_14_method_80_code 183 = .ok (.goto 64, 3) := by decide +kernel
theorem dModel_comes_186 : decode prog_14_method_80_code 186 = .ok (.aload_n 0, 1) := by decide +kernel
theorem dModel_comes_187 : decode prog_14_method_80_code 187 = .ok (.getfield 513, 3) := by decide +kernel
theorem dModel_comes_190 : decode prog_14_method_80_code 190 = .ok (.aload_n 0, 1) := by decide +kernel
theorem dModel_comes_191 : decode prog_14_method_80_code 191 = .ok (.getfield 557, 3) := by decide +kernel
theorem dModel_comes_194 : decode prog_14_method_80_code 194 = .ok (.iload_n 2, 1) := by decide +kernel
theorem dModel_comes_195 : decode prog_14_method_80_code 195 = .ok (.iaload, 1) := by decide +kernel
theorem dModel_comes_196 : decode prog_14_method_80_code 196 = .ok (.dup2, 1) := by decide +kernel
theorem dModel_comes_197 : decode prog_14_method_80_code 197 = .ok (.iaload, 1) := by decide +kernel
theorem dModel_comes_198 : decode prog_14_method_80_code 198 = .ok (.bipush 10, 2) := by decide +kernel
theorem dModel_comes_200 : decode prog_14_method_80_code 200 = .ok (.aload_n 0, 1) := by decide +kernel
theorem dModel_comes_201 : decode prog_14_method_80_code 201 = .ok (.getfield 560, 3) := by decide +kernel
theorem dModel_comes_204 : decode prog_14_method_80_code 204 = .ok (.iload_n 2, 1) := by decide +kernel
theorem dModel_comes_205 : decode prog_14_method_80_code 205 = .ok (.iaload, 1) := by decide +kernel
theorem dModel_comes_206 : decode prog_14_method_80_code 206 = .ok (.imul, 1) := by decide +kernel
theorem dModel_comes_207 : decode prog_14_method_80_code 207 = .ok (.iadd, 1) := by decide +kernel
theorem dModel_comes_208 : decode prog_14_method_80_code 208 = .ok (.iastore, 1) := by decide +kernel
theorem dModel_comes_209 : decode prog_14_method_80_code 209 = .ok (.aload_n 0, 1) := by decide +kernel
theorem dModel_comes_210 : decode prog_14_method_80_code 210 = .ok (.getfield 545, 3) := by decide +kernel
theorem dModel_comes_213 : decode prog_14_method_80_code 213 = .ok (.iload_n 2, 1) := by decide +kernel
theorem dModel_comes_214 : decode prog_14_method_80_code 214 = .ok (.iaload, 1) := by decide +kernel
theorem dModel_comes_215 : decode prog_14_method_80_code 215 = .ok (.ifCond .lt 32, 3) := by decide +kernel
theorem dModel_comes_218 : decode prog_14_method_80_code 218 = .ok (.aload_n 0, 1) := by decide +kernel
theorem dModel_comes_219 : decode prog_14_method_80_code 219 = .ok (.aload_n 0, 1) := by decide +kernel
theorem dModel_comes_220 : decode prog_14_method_80_code 220 = .ok (.getfield 545, 3) := by decide +kernel
theorem dModel_comes_223 : decode prog_14_method_80_code 223 = .ok (.iload_n 2, 1) := by decide +kernel
theorem dModel_comes_224 : decode prog_14_method_80_code 224 = .ok (.iaload, 1) := by decide +kernel
theorem dModel_comes_225 : decode prog_14_method_80_code 225 = .ok (.aload_n 0, 1) := by decide +kernel
theorem dModel_comes_226 : decode prog_14_method_80_code 226 = .ok (.getfield 566, 3) := by decide +kernel
theorem dModel_comes_229 : decode prog_14_method_80_code 229 = .ok (.iload_n 2, 1) := by decide +kernel
theorem dModel_comes_230 : decode prog_14_method_80_code 230 = .ok (.iaload, 1) := by decide +kernel
theorem dModel_comes_231 : decode prog_14_method_80_code 231 = .ok (.aload_n 0, 1) := by decide +kernel
theorem dModel_comes_232 : decode prog_14_method_80_code 232 = .ok (.getfield 563, 3) := by decide +kernel
theorem dModel_comes_235 : decode prog_14_method_80_code 235 = .ok (.iload_n 2, 1) := by decide +kernel
theorem dModel_comes_236 : decode prog_14_method_80_code 236 = .ok (.iaload, 1) := by decide +kernel
theorem dModel_comes_237 : decode prog_14_method_80_code 237 = .ok (.aload_n 0, 1) := by decide +kernel
theorem dModel_comes_238 : decode prog_14_method_80_code 238 = .ok (.getfield 569, 3) := by decide +kernel
theorem dModel_comes_241 : decode prog_14_method_80_code 241 = .ok (.iload_n 2, 1) := by decide +kernel
theorem dModel_comes_242 : decode prog_14_method_80_code 242 = .ok (.iaload, 1) := by decide +kernel
theorem dModel_comes_243 : decode prog_14_method_80_code 243 = .ok (.iconst 0, 1) := by decide +kernel
theorem dModel_comes_244 : decode prog_14_method_80_code 244 = .ok (.invokevirtual 600, 3) := by decide +kernel
theorem dModel_comes_247 : decode prog_14_method_80_code 247 = .ok (.iinc 2 1, 3) := by decide +kernel
theorem dModel_comes_250 : decode prog_14_method_80_code 250 = .ok (.goto (-243), 3) := by decide +kernel
theorem dModel_comes_253 : decode prog_14_method_80_code 253 = .ok (.return_, 1) := by decide +kernel
theorem dModel_classes_0 : decode prog_14_method_81_code 0 = .ok (.iconst 0, 1) := by decide +kernel
theorem dModel_classes_1 : decode prog_14_method_81_code 1 = .ok (.istore_n 1, 1) := by decide +kernel
theorem dModel_classes_2 : decode prog_14_method_81_code 2 = .ok (.iload_n 1, 1) := by decide +kernel
theorem dModel_classes_3 : decode prog_14_method_81_code 3 = .ok (.aload_n 0, 1) := by decide +kernel
theorem dModel_classes_4 : decode prog_14_method_81_code 4 = .ok (.getfield 454, 3) := by decide +kernel
theorem dModel_classes_7 : decode prog_14_method_81_code 7 = .ok (.if_icmp .ge 115, 3) := by decide +kernel
theorem dModel_classes_10 : decode prog_14_method_81_code 10 = .ok (.aload_n 0, 1) := by decide +kernel
theorem dModel_classes_11 : decode prog_14_method_81_code 11 = .ok (.iload_n 1, 1) := by decide +kernel
theorem dModel_classes_12 : decode prog_14_method_81_code 12 = .ok (.invokevirtual 460, 3) := by decide +kernel
