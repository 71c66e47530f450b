/-! Decode rows: by program. -/
theorem dModel_judge_145 : decode prog_14_method_109_code 145 = .ok (.goto 4, 3) := by decide +kernel
theorem dModel_judge_148 : decode prog_14_method_109_code 148 = .ok (.iconst 1, 1) := by decide +kernel
theorem dModel_judge_149 : decode prog_14_method_109_code 149 = .ok (.ireturn, 1) := by decide +kernel
theorem dModel_judge_150 : decode prog_14_method_109_code 150 = .ok (.aload_n 0, 1) := by decide +kernel
theorem dModel_judge_151 : decode prog_14_method_109_code 151 = .ok (.getfield 789, 3) := by decide +kernel
theorem dModel_judge_154 : decode prog_14_method_109_code 154 = .ok (.iconst 0, 1) := by decide +kernel
theorem dModel_judge_155 : decode prog_14_method_109_code 155 = .ok (.laload, 1) := by decide +kernel
theorem dModel_judge_156 : decode prog_14_method_109_code 156 = .ok (.aload_n 0, 1) := by decide +kernel
theorem dModel_judge_157 : decode prog_14_method_109_code 157 = .ok (.getfield 792, 3) := by decide +kernel
theorem dModel_judge_160 : decode prog_14_method_109_code 160 = .ok (.iconst 1, 1) := by decide +kernel
theorem dModel_judge_161 : decode prog_14_method_109_code 161 = .ok (.laload, 1) := by decide +kernel
theorem dModel_judge_162 : decode prog_14_method_109_code 162 = .ok (.lmul, 1) := by decide +kernel
theorem dModel_judge_163 : decode prog_14_method_109_code 163 = .ok (.lstore 5, 2) := by decide +kernel
theorem dModel_judge_165 : decode prog_14_method_109_code 165 = .ok (.aload_n 0, 1) := by decide +kernel
theorem dModel_judge_166 : decode prog_14_method_109_code 166 = .ok (.getfield 789, 3) := by decide +kernel
theorem dModel_judge_169 : decode prog_14_method_109_code 169 = .ok (.iconst 1, 1) := by decide +kernel
theorem dModel_judge_170 : decode prog_14_method_109_code 170 = .ok (.laload, 1) := by decide +kernel
theorem dModel_judge_171 : decode prog_14_method_109_code 171 = .ok (.aload_n 0, 1) := by decide +kernel
theorem dModel_judge_172 : decode prog_14_method_109_code 172 = .ok (.getfield 792, 3) := by decide +kernel
theorem dModel_judge_175 : decode prog_14_method_109_code 175 = .ok (.iconst 0, 1) := by decide +kernel
theorem dModel_judge_176 : decode prog_14_method_109_code 176 = .ok (.laload, 1) := by decide +kernel
theorem dModel_judge_177 : decode prog_14_method_109_code 177 = .ok (.lmul, 1) := by decide +kernel
theorem dModel_judge_178 : decode prog_14_method_109_code 178 = .ok (.lstore 7, 2) := by decide +kernel
theorem dModel_judge_180 : decode prog_14_method_109_code 180 = .ok (.lload 5, 2) := by decide +kernel
theorem dModel_judge_182 : decode prog_14_method_109_code 182 = .ok (.lload 7, 2) := by decide +kernel
theorem dModel_judge_184 : decode prog_14_method_109_code 184 = .ok (.lcmp, 1) := by decide +kernel
theorem dModel_judge_185 : decode prog_14_method_109_code 185 = .ok (.ifCond .eq 17, 3) := by decide +kernel
theorem dModel_judge_188 : decode prog_14_method_109_code 188 = .ok (.lload 5, 2) := by decide +kernel
theorem dModel_judge_190 : decode prog_14_method_109_code 190 = .ok (.lload 7, 2) := by decide +kernel
theorem dModel_judge_192 : decode prog_14_method_109_code 192 = .ok (.lcmp, 1) := by decide +kernel
theorem dModel_judge_193 : decode prog_14_method_109_code 193 = .ok (.ifCond .ge 7, 3) := by decide +kernel
theorem dModel_judge_196 : decode prog_14_method_109_code 196 = .ok (.iconst 0, 1) := by decide +kernel
theorem dModel_judge_197 : decode prog_14_method_109_code 197 = .ok (.goto 4, 3) := by decide +kernel
theorem dModel_judge_200 : decode prog_14_method_109_code 200 = .ok (.iconst 1, 1) := by decide +kernel
theorem dModel_judge_201 : decode prog_14_method_109_code 201 = .ok (.ireturn, 1) := by decide +kernel
theorem dModel_judge_202 : decode prog_14_method_109_code 202 = .ok (.aload_n 0, 1) := by decide +kernel
theorem dModel_judge_203 : decode prog_14_method_109_code 203 = .ok (.getfield 795, 3) := by decide +kernel
theorem dModel_judge_206 : decode prog_14_method_109_code 206 = .ok (.iconst 0, 1) := by decide +kernel
theorem dModel_judge_207 : decode prog_14_method_109_code 207 = .ok (.laload, 1) := by decide +kernel
theorem dModel_judge_208 : decode prog_14_method_109_code 208 = .ok (.aload_n 0, 1) := by decide +kernel
theorem dModel_judge_209 : decode prog_14_method_109_code 209 = .ok (.getfield 795, 3) := by decide +kernel
theorem dModel_judge_212 : decode prog_14_method_109_code 212 = .ok (.iconst 1, 1) := by decide +kernel
theorem dModel_judge_213 : decode prog_14_method_109_code 213 = .ok (.laload, 1) := by decide +kernel
theorem dModel_judge_214 : decode prog_14_method_109_code 214 = .ok (.lcmp, 1) := by decide +kernel
theorem dModel_judge_215 : decode prog_14_method_109_code 215 = .ok (.ifCond .le 7, 3) := by decide +kernel
theorem dModel_judge_218 : decode prog_14_method_109_code 218 = .ok (.iconst 0, 1) := by decide +kernel
theorem dModel_judge_219 : decode prog_14_method_109_code 219 = .ok (.goto 24, 3) := by decide +kernel
theorem dModel_judge_222 : decode prog_14_method_109_code 222 = .ok (.aload_n 0, 1) := by decide +kernel
theorem dModel_judge_223 : decode prog_14_method_109_code 223 = .ok (.getfield 795, 3) := by decide +kernel
theorem dModel_judge_226 : decode prog_14_method_109_code 226 = .ok (.iconst 0, 1) := by decide +kernel
theorem dModel_judge_227 : decode prog_14_method_109_code 227 = .ok (.laload, 1) := by decide +kernel
theorem dModel_judge_228 : decode prog_14_method_109_code 228 = .ok (.aload_n 0, 1) := by decide +kernel
theorem dModel_judge_229 : decode prog_14_method_109_code 229 = .ok (.getfield 795, 3) := by decide +kernel
theorem dModel_judge_232 : decode prog_14_method_109_code 232 = .ok (.iconst 1, 1) := by decide +kernel
theorem dModel_judge_233 : decode prog_14_method_109_code 233 = .ok (.laload, 1) := by decide +kernel
theorem dModel_judge_234 : decode prog_14_method_109_code 234 = .ok (.lcmp, 1) := by decide +kernel
theorem dModel_judge_235 : decode prog_14_method_109_code 235 = .ok (.ifCond .ge 7, 3) := by decide +kernel
theorem dModel_judge_238 : decode prog_14_method_109_code 238 = .ok (.iconst 1, 1) := by decide +kernel
theorem dModel_judge_239 : decode prog_14_method_109_code 239 = .ok (.goto 4, 3) := by decide +kernel
theorem dModel_judge_242 : decode prog_14_method_109_code 242 = .ok (.iconst 2, 1) := by decide +kernel
theorem dModel_judge_243 : decode prog_14_method_109_code 243 = .ok (.ireturn, 1) := by decide +kernel
theorem dModel_copy_0 : decode prog_14_method_110_code 0 = .ok (.iconst 0, 1) := by decide +kernel
theorem dModel_copy_1 : decode prog_14_method_110_code 1 = .ok (.istore_n 3, 1) := by decide +kernel
theorem dModel_copy_2 : decode prog_14_method_110_code 2 = .ok (.iload_n 3, 1) := by decide +kernel
theorem dModel_copy_3 : decode prog_14_method_110_code 3 = .ok (.iload_n 2, 1) := by decide +kernel
theorem dModel_copy_4 : decode prog_14_method_110_code 4 = .ok (.if_icmp .ge 15, 3) := by decide +kernel
theorem dModel_copy_7 : decode prog_14_method_110_code 7 = .ok (.aload_n 1, 1) := by decide +kernel
theorem dModel_copy_8 : decode prog_14_method_110_code 8 = .ok (.iload_n 3, 1) := by decide +kernel
theorem dModel_copy_9 : decode prog_14_method_110_code 9 = .ok (.aload_n 0, 1) := by decide +kernel
theorem dModel_copy_10 : decode prog_14_method_110_code 10 = .ok (.iload_n 3, 1) := by decide +kernel
theorem dModel_copy_11 : decode prog_14_method_110_code 11 = .ok (.iaload, 1) := by decide +kernel
theorem dModel_copy_12 : decode prog_14_method_110_code 12 = .ok (.iastore, 1) := by decide +kernel
theorem dModel_copy_13 : decode prog_14_method_110_code 13 = .ok (.iinc 3 1, 3) := by decide +kernel
theorem dModel_copy_16 : decode prog_14_method_110_code 16 = .ok (.goto (-14), 3) := by decide +kernel
theorem dModel_copy_19 : decode prog_14_method_110_code 19 = .ok (.return_, 1) := by decide +kernel
theorem dModel_copyLongs_0 : decode prog_14_method_111_code 0 = .ok (.iconst 0, 1) := by decide +kernel
theorem dModel_copyLongs_1 : decode prog_14_method_111_code 1 = .ok (.istore_n 3, 1) := by decide +kernel
theorem dModel_copyLongs_2 : decode prog_14_method_111_code 2 = .ok (.iload_n 3, 1) := by decide +kernel
theorem dModel_copyLongs_3 : decode prog_14_method_111_code 3 = .ok (.iload_n 2, 1) := by decide +kernel
theorem dModel_copyLongs_4 : decode prog_14_method_111_code 4 = .ok (.if_icmp .ge 15, 3) := by decide +kernel
theorem dModel_copyLongs_7 : decode prog_14_method_111_code 7 = .ok (.aload_n 1, 1) := by decide +kernel
theorem dModel_copyLongs_8 : decode prog_14_method_111_code 8 = .ok (.iload_n 3, 1) := by decide +kernel
theorem dModel_copyLongs_9 : decode prog_14_method_111_code 9 = .ok (.aload_n 0, 1) := by decide +kernel
theorem dModel_copyLongs_10 : decode prog_14_method_111_code 10 = .ok (.iload_n 3, 1) := by decide +kernel
theorem dModel_copyLongs_11 : decode prog_14_method_111_code 11 = .ok (.laload, 1) := by decide +kernel
theorem dModel_copyLongs_12 : decode prog_14_method_111_code 12 = .ok (.lastore, 1) := by decide +kernel
theorem dModel_copyLongs_13 : decode prog_14_method_111_code 13 = .ok (.iinc 3 1, 3) := by decide +kernel
theorem dModel_copyLongs_16 : decode prog_14_method_111_code 16 = .ok (.goto (-14), 3) := by decide +kernel
theorem dModel_copyLongs_19 : decode prog_14_method_111_code 19 = .ok (.return_, 1) := by decide +kernel
theorem dModel_copyTruths_0 : decode prog_14_method_112_code 0 = .ok (.iconst 0, 1) := by decide +kernel
theorem dModel_copyTruths_1 : decode prog_14_method_112_code 1 = .ok (.istore_n 3, 1) := by decide +kernel
theorem dModel_copyTruths_2 : decode prog_14_method_112_code 2 = .ok (.iload_n 3, 1) := by decide +kernel
theorem dModel_copyTruths_3 : decode prog_14_method_112_code 3 = .ok (.iload_n 2, 1) := by decide +kernel
theorem dModel_copyTruths_4 : decode prog_14_method_112_code 4 = .ok (.if_icmp .ge 15, 3) := by decide +kernel
theorem dModel_copyTruths_7 : decode prog_14_method_112_code 7 = .ok (.aload_n 1, 1) := by decide +kernel
theorem dModel_copyTruths_8 : decode prog_14_method_112_code 8 = .ok (.iload_n 3, 1) := by decide +kernel
theorem dModel_copyTruths_9 : decode prog_14_method_112_code 9 = .ok (.aload_n 0, 1) := by decide +kernel
theorem dModel_copyTruths_10 : decode prog_14_method_112_code 10 = .ok (.iload_n 3, 1) := by decide +kernel
theorem dModel_copyTruths_11 : decode prog_14_method_112_code 11 = .ok (.baload, 1) := by decide +kernel
theorem dModel_copyTruths_12 : decode prog_14_method_112_code 12 = .ok (.bastore, 1) := by decide +kernel
theorem dModel_copyTruths_13 : decode prog_14_method_112_code 13 = .ok (.iinc 3 1, 3) := by decide +kernel
theorem dModel_copyTruths_16 : decode prog_14_method_112_code 16 = .ok (.goto (-14), 3) := by decide +kernel
theorem dModel_copyTruths_19 : decode prog_14_method_112_code 19 = .ok (.return_, 1) := by decide +kernel
theorem dModel_keep_0 : decode prog_14_method_113_code 0 = .ok (.aload_n 0, 1) := by decide +kernel
theorem dModel_keep_1 : decode prog_14_method_113_code 1 = .ok (.aload_n 0, 1) := by decide +kernel
theorem dModel_keep_2 : decode prog_14_method_113_code 2 = .ok (.getfield 454, 3) := by decide +kernel
theorem dModel_keep_5 : decode prog_14_method_113_code 5 = .ok (.putfield 805, 3) := by decide +kernel
theorem dModel_keep_8 : decode prog_14_method_113_code 8 = .ok (.aload_n 0, 1) := by decide +kernel
theorem dModel_keep_9 : decode prog_14_method_113_code 9 = .ok (.getfield 525, 3) := by decide +kernel
theorem dModel_keep_12 : decode prog_14_method_113_code 12 = .ok (.aload_n 0, 1) := by decide +kernel
theorem dModel_keep_13 : decode prog_14_method_113_code 13 = .ok (.getfield 808, 3) := by decide +kernel
theorem dModel_keep_16 : decode prog_14_method_113_code 16 = .ok (.aload_n 0, 1) := by decide +kernel
theorem dModel_keep_17 : decode prog_14_method_113_code 17 = .ok (.getfield 454, 3) := by decide +kernel
theorem dModel_keep_20 : decode prog_14_method_113_code 20 = .ok (.invokestatic 811, 3) := by decide +kernel
theorem dModel_keep_23 : decode prog_14_method_113_code 23 = .ok (.aload_n 0, 1) := by decide +kernel
theorem dModel_keep_24 : decode prog_14_method_113_code 24 = .ok (.getfield 457, 3) := by decide +kernel
theorem dModel_keep_27 : decode prog_14_method_113_code 27 = .ok (.aload_n 0, 1) := by decide +kernel
theorem dModel_keep_28 : decode prog_14_method_113_code 28 = .ok (.getfield 815, 3) := by decide +kernel
theorem dModel_keep_31 : decode prog_14_method_113_code 31 = .ok (.aload_n 0, 1) := by decide +kernel
theorem dModel_keep_32 : decode prog_14_method_113_code 32 = .ok (.getfield 454, 3) := by decide +kernel
theorem dModel_keep_35 : decode prog_14_method_113_code 35 = .ok (.invokestatic 811, 3) := by decide +kernel
theorem dModel_keep_38 : decode prog_14_method_113_code 38 = .ok (.aload_n 0, 1) := by decide +kernel
theorem dModel_keep_39 : decode prog_14_method_113_code 39 = .ok (.getfield 463, 3) := by decide +kernel
theorem dModel_keep_42 : decode prog_14_method_113_code 42 = .ok (.aload_n 0, 1) := by decide +kernel
theorem dModel_keep_43 : decode prog_14_method_113_code 43 = .ok (.getfield 818, 3) := by decide +kernel
theorem dModel_keep_46 : decode prog_14_method_113_code 46 = .ok (.aload_n 0, 1) := by decide +kernel
theorem dModel_keep_47 : decode prog_14_method_113_code 47 = .ok (.getfield 454, 3) := by decide +kernel
theorem dModel_keep_50 : decode prog_14_method_113_code 50 = .ok (.invokestatic 811, 3) := by decide +kernel
theorem dModel_keep_53 : decode prog_14_method_113_code 53 = .ok (.aload_n 0, 1) := by decide +kernel
theorem dModel_keep_54 : decode prog_14_method_113_code 54 = .ok (.getfield 528, 3) := by decide +kernel
theorem dModel_keep_57 : decode prog_14_method_113_code 57 = .ok (.aload_n 0, 1) := by decide +kernel
theorem dModel_keep_58 : decode prog_14_method_113_code 58 = .ok (.getfield 821, 3) := by decide +kernel
theorem dModel_keep_61 : decode prog_14_method_113_code 61 = .ok (.aload_n 0, 1) := by decide +kernel
theorem dModel_keep_62 : decode prog_14_method_113_code 62 = .ok (.getfield 454, 3) := by decide +kernel
theorem dModel_keep_65 : decode prog_14_method_113_code 65 = .ok (.invokestatic 811, 3) := by decide +kernel
theorem dModel_keep_68 : decode prog_14_method_113_code 68 = .ok (.aload_n 0, 1) := by decide +kernel
theorem dModel_keep_69 : decode prog_14_method_113_code 69 = .ok (.getfield 531, 3) := by decide +kernel
theorem dModel_keep_72 : decode prog_14_method_113_code 72 = .ok (.aload_n 0, 1) := by decide +kernel
theorem dModel_keep_73 : decode prog_14_method_113_code 73 = .ok (.getfield 824, 3) := by decide +kernel
theorem dModel_keep_76 : decode prog_14_method_113_code 76 = .ok (.aload_n 0, 1) := by decide +kernel
theorem dModel_keep_77 : decode prog_14_method_113_code 77 = .ok (.getfield 454, 3) := by decide +kernel
theorem dModel_keep_80 : decode prog_14_method_113_code 80 = .ok (.invokestatic 811, 3) := by decide +kernel
theorem dModel_keep_83 : decode prog_14_method_113_code 83 = .ok (.aload_n 0, 1) := by decide +kernel
theorem dModel_keep_84 : decode prog_14_method_113_code 84 = .ok (.getfield 447, 3) := by decide +kernel
theorem dModel_keep_87 : decode prog_14_method_113_code 87 = .ok (.aload_n 0, 1) := by decide +kernel
theorem dModel_keep_88 : decode prog_14_method_113_code 88 = .ok (.getfield 827, 3) := by decide +kernel
theorem dModel_keep_91 : decode prog_14_method_113_code 91 = .ok (.aload_n 0, 1) := by decide +kernel
theorem dModel_keep_92 : decode prog_14_method_113_code 92 = .ok (.getfield 454, 3) := by decide +kernel
theorem dModel_keep_95 : decode prog_14_method_113_code 95 = .ok (.invokestatic 811, 3) := by decide +kernel
theorem dModel_keep_98 : decode prog_14_method_113_code 98 = .ok (.aload_n 0, 1) := by decide +kernel
theorem dModel_keep_99 : decode prog_14_method_113_code 99 = .ok (.getfield 534, 3) := by decide +kernel
theorem dModel_keep_102 : decode prog_14_method_113_code 102 = .ok (.aload_n 0, 1) := by decide +kernel
theorem dModel_keep_103 : decode prog_14_method_113_code 103 = .ok (.getfield 830, 3) := by decide +kernel
theorem dModel_keep_106 : decode prog_14_method_113_code 106 = .ok (.aload_n 0, 1) := by decide +kernel
theorem dModel_keep_107 : decode prog_14_method_113_code 107 = .ok (.getfield 454, 3) := by decide +kernel
theorem dModel_keep_110 : decode prog_14_method_113_code 110 = .ok (.invokestatic 833, 3) := by decide +kernel
theorem dModel_keep_113 : decode prog_14_method_113_code 113 = .ok (.aload_n 0, 1) := by decide +kernel
theorem dModel_keep_114 : decode prog_14_method_113_code 114 = .ok (.getfield 450, 3) := by decide +kernel
theorem dModel_keep_117 : decode prog_14_method_113_code 117 = .ok (.aload_n 0, 1) := by decide +kernel
theorem dModel_keep_118 : decode prog_14_method_113_code 118 = .ok (.getfield 837, 3) := by decide +kernel
theorem dModel_keep_121 : decode prog_14_method_113_code 121 = .ok (.aload_n 0, 1) := by decide +kernel
theorem dModel_keep_122 : decode prog_14_method_113_code 122 = .ok (.getfield 454, 3) := by decide +kernel
theorem dModel_keep_125 : decode prog_14_method_113_code 125 = .ok (.invokestatic 833, 3) := by decide +kernel
theorem dModel_keep_128 : decode prog_14_method_113_code 128 = .ok (.aload_n 0, 1) := by decide +kernel
theorem dModel_keep_129 : decode prog_14_method_113_code 129 = .ok (.getfield 513, 3) := by decide +kernel
theorem dModel_keep_132 : decode prog_14_method_113_code 132 = .ok (.aload_n 0, 1) := by decide +kernel
theorem dModel_keep_133 : decode prog_14_method_113_code 133 = .ok (.getfield 840, 3) := by decide +kernel
theorem dModel_keep_136 : decode prog_14_method_113_code 136 = .ok (.iconst 3, 1) := by decide +kernel
theorem dModel_keep_137 : decode prog_14_method_113_code 137 = .ok (.invokestatic 811, 3) := by decide +kernel
theorem dModel_keep_140 : decode prog_14_method_113_code 140 = .ok (.aload_n 0, 1) := by decide +kernel
theorem dModel_keep_141 : decode prog_14_method_113_code 141 = .ok (.getfield 469, 3) := by decide +kernel
theorem dModel_keep_144 : decode prog_14_method_113_code 144 = .ok (.aload_n 0, 1) := by decide +kernel
theorem dModel_keep_145 : decode prog_14_method_113_code 145 = .ok (.getfield 843, 3) := by decide +kernel
theorem dModel_keep_148 : decode prog_14_method_113_code 148 = .ok (.iconst 3, 1) := by decide +kernel
theorem dModel_keep_149 : decode prog_14_method_113_code 149 = .ok (.invokestatic 811, 3) := by decide +kernel
theorem dModel_keep_152 : decode prog_14_method_113_code 152 = .ok (.aload_n 0, 1) := by decide +kernel
theorem dModel_keep_153 : decode prog_14_method_113_code 153 = .ok (.getfield 474, 3) := by decide +kernel
theorem dModel_keep_156 : decode prog_14_method_113_code 156 = .ok (.aload_n 0, 1) := by decide +kernel
theorem dModel_keep_157 : decode prog_14_method_113_code 157 = .ok (.getfield 846, 3) := by decide +kernel
theorem dModel_keep_160 : decode prog_14_method_113_code 160 = .ok (.iconst 5, 1) := by decide +kernel
theorem dModel_keep_161 : decode prog_14_method_113_code 161 = .ok (.invokestatic 811, 3) := by decide +kernel
theorem dModel_keep_164 : decode prog_14_method_113_code 164 = .ok (.aload_n 0, 1) := by decide +kernel
theorem dModel_keep_165 : decode prog_14_method_113_code 165 = .ok (.getfield 584, 3) := by decide +kernel
theorem dModel_keep_168 : decode prog_14_method_113_code 168 = .ok (.aload_n 0, 1) := by decide +kernel
theorem dModel_keep_169 : decode prog_14_method_113_code 169 = .ok (.getfield 849, 3) := by decide +kernel
theorem dModel_keep_172 : decode prog_14_method_113_code 172 = .ok (.bipush 18, 2) := by decide +kernel
theorem dModel_keep_174 : decode prog_14_method_113_code 174 = .ok (.invokestatic 811, 3) := by decide +kernel
theorem dModel_keep_177 : decode prog_14_method_113_code 177 = .ok (.aload_n 0, 1) := by decide +kernel
theorem dModel_keep_178 : decode prog_14_method_113_code 178 = .ok (.getfield 522, 3) := by decide +kernel
theorem dModel_keep_181 : decode prog_14_method_113_code 181 = .ok (.aload_n 0, 1) := by decide +kernel
theorem dModel_keep_182 : decode prog_14_method_113_code 182 = .ok (.getfield 852, 3) := by decide +kernel
theorem dModel_keep_185 : decode prog_14_method_113_code 185 = .ok (.bipush 6, 2) := by decide +kernel
theorem dModel_keep_187 : decode prog_14_method_113_code 187 = .ok (.invokestatic 811, 3) := by decide +kernel
theorem dModel_keep_190 : decode prog_14_method_113_code 190 = .ok (.aload_n 0, 1) := by decide +kernel
theorem dModel_keep_191 : decode prog_14_method_113_code 191 = .ok (.getfield 578, 3) := by decide +kernel
theorem dModel_keep_194 : decode prog_14_method_113_code 194 = .ok (.aload_n 0, 1) := by decide +kernel
theorem dModel_keep_195 : decode prog_14_method_113_code 195 = .ok (.getfield 855, 3) := by decide +kernel
theorem dModel_keep_198 : decode prog_14_method_113_code 198 = .ok (.bipush 6, 2) := by decide +kernel
theorem dModel_keep_200 : decode prog_14_method_113_code 200 = .ok (.invokestatic 858, 3) := by decide +kernel
theorem dModel_keep_203 : decode prog_14_method_113_code 203 = .ok (.aload_n 0, 1) := by decide +kernel
theorem dModel_keep_204 : decode prog_14_method_113_code 204 = .ok (.getfield 745, 3) := by decide +kernel
theorem dModel_keep_207 : decode prog_14_method_113_code 207 = .ok (.aload_n 0, 1) := by decide +kernel
theorem dModel_keep_208 : decode prog_14_method_113_code 208 = .ok (.getfield 862, 3) := by decide +kernel
theorem dModel_keep_211 : decode prog_14_method_113_code 211 = .ok (.sipush 1440, 3) := by decide +kernel
theorem dModel_keep_214 : decode prog_14_method_113_code 214 = .ok (.invokestatic 811, 3) := by decide +kernel
theorem dModel_keep_217 : decode prog_14_method_113_code 217 = .ok (.aload_n 0, 1) := by decide +kernel
theorem dModel_keep_218 : decode prog_14_method_113_code 218 = .ok (.getfield 748, 3) := by decide +kernel
theorem dModel_keep_221 : decode prog_14_method_113_code 221 = .ok (.aload_n 0, 1) := by decide +kernel
theorem dModel_keep_222 : decode prog_14_method_113_code 222 = .ok (.getfield 865, 3) := by decide +kernel
theorem dModel_keep_225 : decode prog_14_method_113_code 225 = .ok (.sipush 1440, 3) := by decide +kernel
theorem dModel_keep_228 : decode prog_14_method_113_code 228 = .ok (.invokestatic 811, 3) := by decide +kernel
theorem dModel_keep_231 : decode prog_14_method_113_code 231 = .ok (.aload_n 0, 1) := by decide +kernel
theorem dModel_keep_232 : decode prog_14_method_113_code 232 = .ok (.getfield 751, 3) := by decide +kernel
theorem dModel_keep_235 : decode prog_14_method_113_code 235 = .ok (.aload_n 0, 1) := by decide +kernel
theorem dModel_keep_236 : decode prog_14_method_113_code 236 = .ok (.getfield 868, 3) := by decide +kernel
theorem dModel_keep_239 : decode prog_14_method_113_code 239 = .ok (.sipush 3600, 3) := by decide +kernel
theorem dModel_keep_242 : decode prog_14_method_113_code 242 = .ok (.invokestatic 811, 3) := by decide +kernel
theorem dModel_keep_245 : decode prog_14_method_113_code 245 = .ok (.aload_n 0, 1) := by decide +kernel
theorem dModel_keep_246 : decode prog_14_method_113_code 246 = .ok (.getfield 757, 3) := by decide +kernel
theorem dModel_keep_249 : decode prog_14_method_113_code 249 = .ok (.aload_n 0, 1) := by decide +kernel
theorem dModel_keep_250 : decode prog_14_method_113_code 250 = .ok (.getfield 871, 3) := by decide +kernel
theorem dModel_keep_253 : decode prog_14_method_113_code 253 = .ok (.sipush 1440, 3) := by decide +kernel
theorem dModel_keep_256 : decode prog_14_method_113_code 256 = .ok (.invokestatic 811, 3) := by decide +kernel
theorem dModel_keep_259 : decode prog_14_method_113_code 259 = .ok (.aload_n 0, 1) := by decide +kernel
theorem dModel_keep_260 : decode prog_14_method_113_code 260 = .ok (.getfield 754, 3) := by decide +kernel
theorem dModel_keep_263 : decode prog_14_method_113_code 263 = .ok (.aload_n 0, 1) := by decide +kernel
theorem dModel_keep_264 : decode prog_14_method_113_code 264 = .ok (.getfield 874, 3) := by decide +kernel
theorem dModel_keep_267 : decode prog_14_method_113_code 267 = .ok (.sipush 1440, 3) := by decide +kernel
theorem dModel_keep_270 : decode prog_14_method_113_code 270 = .ok (.invokestatic 858, 3) := by decide +kernel
theorem dModel_keep_273 : decode prog_14_method_113_code 273 = .ok (.aload_n 0, 1) := by decide +kernel
theorem dModel_keep_274 : decode prog_14_method_113_code 274 = .ok (.getfield 760, 3) := by decide +kernel
theorem dModel_keep_277 : decode prog_14_method_113_code 277 = .ok (.aload_n 0, 1) := by decide +kernel
theorem dModel_keep_278 : decode prog_14_method_113_code 278 = .ok (.getfield 877, 3) := by decide +kernel
theorem dModel_keep_281 : decode prog_14_method_113_code 281 = .ok (.sipush 1440, 3) := by decide +kernel
theorem dModel_keep_284 : decode prog_14_method_113_code 284 = .ok (.invokestatic 858, 3) := by decide +kernel
theorem dModel_keep_287 : decode prog_14_method_113_code 287 = .ok (.aload_n 0, 1) := by decide +kernel
theorem dModel_keep_288 : decode prog_14_method_113_code 288 = .ok (.getfield 880, 3) := by decide +kernel
theorem dModel_keep_291 : decode prog_14_method_113_code 291 = .ok (.iconst 0, 1) := by decide +kernel
theorem dModel_keep_292 : decode prog_14_method_113_code 292 = .ok (.aload_n 0, 1) := by decide +kernel
theorem dModel_keep_293 : decode prog_14_method_113_code 293 = .ok (.getfield 630, 3) := by decide +kernel
theorem dModel_keep_296 : decode prog_14_method_113_code 296 = .ok (.lastore, 1) := by decide +kernel
theorem dModel_keep_297 : decode prog_14_method_113_code 297 = .ok (.aload_n 0, 1) := by decide +kernel
theorem dModel_keep_298 : decode prog_14_method_113_code 298 = .ok (.getfield 880, 3) := by decide +kernel
theorem dModel_keep_301 : decode prog_14_method_113_code 301 = .ok (.iconst 1, 1) := by decide +kernel
theorem dModel_keep_302 : decode prog_14_method_113_code 302 = .ok (.aload_n 0, 1) := by decide +kernel
theorem dModel_keep_303 : decode prog_14_method_113_code 303 = .ok (.getfield 597, 3) := by decide +kernel
theorem dModel_keep_306 : decode prog_14_method_113_code 306 = .ok (.lastore, 1) := by decide +kernel
theorem dModel_keep_307 : decode prog_14_method_113_code 307 = .ok (.aload_n 0, 1) := by decide +kernel
theorem dModel_keep_308 : decode prog_14_method_113_code 308 = .ok (.getfield 880, 3) := by decide +kernel
theorem dModel_keep_311 : decode prog_14_method_113_code 311 = .ok (.iconst 2, 1) := by decide +kernel
theorem dModel_keep_312 : decode prog_14_method_113_code 312 = .ok (.aload_n 0, 1) := by decide +kernel
theorem dModel_keep_313 : decode prog_14_method_113_code 313 = .ok (.getfield 581, 3) := by decide +kernel
theorem dModel_keep_316 : decode prog_14_method_113_code 316 = .ok (.lastore, 1) := by decide +kernel
theorem dModel_keep_317 : decode prog_14_method_113_code 317 = .ok (.aload_n 0, 1) := by decide +kernel
theorem dModel_keep_318 : decode prog_14_method_113_code 318 = .ok (.getfield 880, 3) := by decide +kernel
theorem dModel_keep_321 : decode prog_14_method_113_code 321 = .ok (.iconst 3, 1) := by decide +kernel
theorem dModel_keep_322 : decode prog_14_method_113_code 322 = .ok (.aload_n 0, 1) := by decide +kernel
theorem dModel_keep_323 : decode prog_14_method_113_code 323 = .ok (.getfield 700, 3) := by decide +kernel
theorem dModel_keep_326 : decode prog_14_method_113_code 326 = .ok (.lastore, 1) := by decide +kernel
theorem dModel_keep_327 : decode prog_14_method_113_code 327 = .ok (.aload_n 0, 1) := by decide +kernel
theorem dModel_keep_328 : decode prog_14_method_113_code 328 = .ok (.getfield 880, 3) := by decide +kernel
theorem dModel_keep_331 : decode prog_14_method_113_code 331 = .ok (.iconst 4, 1) := by decide +kernel
theorem dModel_keep_332 : decode prog_14_method_113_code 332 = .ok (.aload_n 0, 1) := by decide +kernel
theorem dModel_keep_333 : decode prog_14_method_113_code 333 = .ok (.getfield 703, 3) := by decide +kernel
theorem dModel_keep_336 : decode prog_14_method_113_code 336 = .ok (.lastore, 1) := by decide +kernel
theorem dModel_keep_337 : decode prog_14_method_113_code 337 = .ok (.aload_n 0, 1) := by decide +kernel
theorem dModel_keep_338 : decode prog_14_method_113_code 338 = .ok (.getfield 880, 3) := by decide +kernel
theorem dModel_keep_341 : decode prog_14_method_113_code 341 = .ok (.iconst 5, 1) := by decide +kernel
theorem dModel_keep_342 : decode prog_14_method_113_code 342 = .ok (.aload_n 0, 1) := by decide +kernel
theorem dModel_keep_343 : decode prog_14_method_113_code 343 = .ok (.getfield 617, 3) := by decide +kernel
theorem dModel_keep_346 : decode prog_14_method_113_code 346 = .ok (.lastore, 1) := by decide +kernel
theorem dModel_keep_347 : decode prog_14_method_113_code 347 = .ok (.aload_n 0, 1) := by decide +kernel
theorem dModel_keep_348 : decode prog_14_method_113_code 348 = .ok (.getfield 880, 3) := by decide +kernel
theorem dModel_keep_351 : decode prog_14_method_113_code 351 = .ok (.bipush 6, 2) := by decide +kernel
theorem dModel_keep_353 : decode prog_14_method_113_code 353 = .ok (.aload_n 0, 1) := by decide +kernel
theorem dModel_keep_354 : decode prog_14_method_113_code 354 = .ok (.getfield 614, 3) := by decide +kernel
theorem dModel_keep_357 : decode prog_14_method_113_code 357 = .ok (.lastore, 1) := by decide +kernel
theorem dModel_keep_358 : decode prog_14_method_113_code 358 = .ok (.aload_n 0, 1) := by decide +kernel
theorem dModel_keep_359 : decode prog_14_method_113_code 359 = .ok (.getfield 880, 3) := by decide +kernel
theorem dModel_keep_362 : decode prog_14_method_113_code 362 = .ok (.bipush 7, 2) := by decide +kernel
theorem dModel_keep_364 : decode prog_14_method_113_code 364 = .ok (.aload_n 0, 1) := by decide +kernel
theorem dModel_keep_365 : decode prog_14_method_113_code 365 = .ok (.getfield 611, 3) := by decide +kernel
theorem dModel_keep_368 : decode prog_14_method_113_code 368 = .ok (.lastore, 1) := by decide +kernel
theorem dModel_keep_369 : decode prog_14_method_113_code 369 = .ok (.return_, 1) := by decide +kernel
theorem dModel_restore_0 : decode prog_14_method_114_code 0 = .ok (.aload_n 0, 1) := by decide +kernel
theorem dModel_restore_1 : decode prog_14_method_114_code 1 = .ok (.aload_n 0, 1) := by decide +kernel
theorem dModel_restore_2 : decode prog_14_method_114_code 2 = .ok (.getfield 805, 3) := by decide +kernel
theorem dModel_restore_5 : decode prog_14_method_114_code 5 = .ok (.putfield 454, 3) := by decide +kernel
theorem dModel_restore_8 : decode prog_14_method_114_code 8 = .ok (.aload_n 0, 1) := by decide +kernel
theorem dModel_restore_9 : decode prog_14_method_114_code 9 = .ok (.getfield 808, 3) := by decide +kernel
theorem dModel_restore_12 : decode prog_14_method_114_code 12 = .ok (.aload_n 0, 1) := by decide +kernel
theorem dModel_restore_13 : decode prog_14_method_114_code 13 = .ok (.getfield 525, 3) := by decide +kernel
theorem dModel_restore_16 : decode prog_14_method_114_code 16 = .ok (.aload_n 0, 1) := by decide +kernel
theorem dModel_restore_17 : decode prog_14_method_114_code 17 = .ok (.getfield 454, 3) := by decide +kernel
theorem dModel_restore_20 : decode prog_14_method_114_code 20 = .ok (.invokestatic 811, 3) := by decide +kernel
theorem dModel_restore_23 : decode prog_14_method_114_code 23 = .ok (.aload_n 0, 1) := by decide +kernel
theorem dModel_restore_24 : decode prog_14_method_114_code 24 = .ok (.getfield 815, 3) := by decide +kernel
theorem dModel_restore_27 : decode prog_14_method_114_code 27 = .ok (.aload_n 0, 1) := by decide +kernel
theorem dModel_restore_28 : decode prog_14_method_114_code 28 = .ok (.getfield 457, 3) := by decide +kernel
theorem dModel_restore_31 : decode prog_14_method_114_code 31 = .ok (.aload_n 0, 1) := by decide +kernel
theorem dModel_restore_32 : decode prog_14_method_114_code 32 = .ok (.getfield 454, 3) := by decide +kernel
theorem dModel_restore_35 : decode prog_14_method_114_code 35 = .ok (.invokestatic 811, 3) := by decide +kernel
theorem dModel_restore_38 : decode prog_14_method_114_code 38 = .ok (.aload_n 0, 1) := by decide +kernel
theorem dModel_restore_39 : decode prog_14_method_114_code 39 = .ok (.getfield 818, 3) := by decide +kernel
theorem dModel_restore_42 : decode prog_14_method_114_code 42 = .ok (.aload_n 0, 1) := by decide +kernel
theorem dModel_restore_43 : decode prog_14_method_114_code 43 = .ok (.getfield 463, 3) := by decide +kernel
theorem dModel_restore_46 : decode prog_14_method_114_code 46 = .ok (.aload_n 0, 1) := by decide +kernel
theorem dModel_restore_47 : decode prog_14_method_114_code 47 = .ok (.getfield 454, 3) := by decide +kernel
theorem dModel_restore_50 : decode prog_14_method_114_code 50 = .ok (.invokestatic 811, 3) := by decide +kernel
theorem dModel_restore_53 : decode prog_14_method_114_code 53 = .ok (.aload_n 0, 1) := by decide +kernel
theorem dModel_restore_54 : decode prog_14_method_114_code 54 = .ok (.getfield 821, 3) := by decide +kernel
theorem dModel_restore_57 : decode prog_14_method_114_code 57 = .ok (.aload_n 0, 1) := by decide +kernel
theorem dModel_restore_58 : decode prog_14_method_114_code 58 = .ok (.getfield 528, 3) := by decide +kernel
theorem dModel_restore_61 : decode prog_14_method_114_code 61 = .ok (.aload_n 0, 1) := by decide +kernel
theorem dModel_restore_62 : decode prog_14_method_114_code 62 = .ok (.getfield 454, 3) := by decide +kernel
theorem dModel_restore_65 : decode prog_14_method_114_code 65 = .ok (.invokestatic 811, 3) := by decide +kernel
theorem dModel_restore_68 : decode prog_14_method_114_code 68 = .ok (.aload_n 0, 1) := by decide +kernel
theorem dModel_restore_69 : decode prog_14_method_114_code 69 = .ok (.getfield 824, 3) := by decide +kernel
theorem dModel_restore_72 : decode prog_14_method_114_code 72 = .ok (.aload_n 0, 1) := by decide +kernel
theorem dModel_restore_73 : decode prog_14_method_114_code 73 = .ok (.getfield 531, 3) := by decide +kernel
theorem dModel_restore_76 : decode prog_14_method_114_code 76 = .ok (.aload_n 0, 1) := by decide +kernel
theorem dModel_restore_77 : decode prog_14_method_114_code 77 = .ok (.getfield 454, 3) := by decide +kernel
theorem dModel_restore_80 : decode prog_14_method_114_code 80 = .ok (.invokestatic 811, 3) := by decide +kernel
theorem dModel_restore_83 : decode prog_14_method_114_code 83 = .ok (.aload_n 0, 1) := by decide +kernel
theorem dModel_restore_84 : decode prog_14_method_114_code 84 = .ok (.getfield 827, 3) := by decide +kernel
theorem dModel_restore_87 : decode prog_14_method_114_code 87 = .ok (.aload_n 0, 1) := by decide +kernel
theorem dModel_restore_88 : decode prog_14_method_114_code 88 = .ok (.getfield 447, 3) := by decide +kernel
theorem dModel_restore_91 : decode prog_14_method_114_code 91 = .ok (.aload_n 0, 1) := by decide +kernel
theorem dModel_restore_92 : decode prog_14_method_114_code 92 = .ok (.getfield 454, 3) := by decide +kernel
theorem dModel_restore_95 : decode prog_14_method_114_code 95 = .ok (.invokestatic 811, 3) := by decide +kernel
theorem dModel_restore_98 : decode prog_14_method_114_code 98 = .ok (.aload_n 0, 1) := by decide +kernel
theorem dModel_restore_99 : decode prog_14_method_114_code 99 = .ok (.getfield 830, 3) := by decide +kernel
theorem dModel_restore_102 : decode prog_14_method_114_code 102 = .ok (.aload_n 0, 1) := by decide +kernel
theorem dModel_restore_103 : decode prog_14_method_114_code 103 = .ok (.getfield 534, 3) := by decide +kernel
theorem dModel_restore_106 : decode prog_14_method_114_code 106 = .ok (.aload_n 0, 1) := by decide +kernel
theorem dModel_restore_107 : decode prog_14_method_114_code 107 = .ok (.getfield 454, 3) := by decide +kernel
theorem dModel_restore_110 : decode prog_14_method_114_code 110 = .ok (.invokestatic 833, 3) := by decide +kernel
theorem dModel_restore_113 : decode prog_14_method_114_code 113 = .ok (.aload_n 0, 1) := by decide +kernel
theorem dModel_restore_114 : decode prog_14_method_114_code 114 = .ok (.getfield 837, 3) := by decide +kernel
theorem dModel_restore_117 : decode prog_14_method_114_code 117 = .ok (.aload_n 0, 1) := by decide +kernel
theorem dModel_restore_118 : decode prog_14_method_114_code 118 = .ok (.getfield 450, 3) := by decide +kernel
theorem dModel_restore_121 : decode prog_14_method_114_code 121 = .ok (.aload_n 0, 1) := by decide +kernel
theorem dModel_restore_122 : decode prog_14_method_114_code 122 = .ok (.getfield 454, 3) := by decide +kernel
theorem dModel_restore_125 : decode prog_14_method_114_code 125 = .ok (.invokestatic 833, 3) := by decide +kernel
theorem dModel_restore_128 : decode prog_14_method_114_code 128 = .ok (.aload_n 0, 1) := by decide +kernel
theorem dModel_restore_129 : decode prog_14_method_114_code 129 = .ok (.getfield 840, 3) := by decide +kernel
theorem dModel_restore_132 : decode prog_14_method_114_code 132 = .ok (.aload_n 0, 1) := by decide +kernel
theorem dModel_restore_133 : decode prog_14_method_114_code 133 = .ok (.getfield 513, 3) := by decide +kernel
theorem dModel_restore_136 : decode prog_14_method_114_code 136 = .ok (.iconst 3, 1) := by decide +kernel
theorem dModel_restore_137 : decode prog_14_method_114_code 137 = .ok (.invokestatic 811, 3) := by decide +kernel
theorem dModel_restore_140 : decode prog_14_method_114_code 140 = .ok (.aload_n 0, 1) := by decide +kernel
theorem dModel_restore_141 : decode prog_14_method_114_code 141 = .ok (.getfield 843, 3) := by decide +kernel
theorem dModel_restore_144 : decode prog_14_method_114_code 144 = .ok (.aload_n 0, 1) := by decide +kernel
theorem dModel_restore_145 : decode prog_14_method_114_code 145 = .ok (.getfield 469, 3) := by decide +kernel
theorem dModel_restore_148 : decode prog_14_method_114_code 148 = .ok (.iconst 3, 1) := by decide +kernel
theorem dModel_restore_149 : decode prog_14_method_114_code 149 = .ok (.invokestatic 811, 3) := by decide +kernel
theorem dModel_restore_152 : decode prog_14_method_114_code 152 = .ok (.aload_n 0, 1) := by decide +kernel
theorem dModel_restore_153 : decode prog_14_method_114_code 153 = .ok (.getfield 846, 3) := by decide +kernel
theorem dModel_restore_156 : decode prog_14_method_114_code 156 = .ok (.aload_n 0, 1) := by decide +kernel
theorem dModel_restore_157 : decode prog_14_method_114_code 157 = .ok (.getfield 474, 3) := by decide +kernel
theorem dModel_restore_160 : decode prog_14_method_114_code 160 = .ok (.iconst 5, 1) := by decide +kernel
theorem dModel_restore_161 : decode prog_14_method_114_code 161 = .ok (.invokestatic 811, 3) := by decide +kernel
theorem dModel_restore_164 : decode prog_14_method_114_code 164 = .ok (.aload_n 0, 1) := by decide +kernel
theorem dModel_restore_165 : decode prog_14_method_114_code 165 = .ok (.getfield 849, 3) := by decide +kernel
theorem dModel_restore_168 : decode prog_14_method_114_code 168 = .ok (.aload_n 0, 1) := by decide +kernel
theorem dModel_restore_169 : decode prog_14_method_114_code 169 = .ok (.getfield 584, 3) := by decide +kernel
theorem dModel_restore_172 : decode prog_14_method_114_code 172 = .ok (.bipush 18, 2) := by decide +kernel
theorem dModel_restore_174 : decode prog_14_method_114_code 174 = .ok (.invokestatic 811, 3) := by decide +kernel
theorem dModel_restore_177 : decode prog_14_method_114_code 177 = .ok (.aload_n 0, 1) := by decide +kernel
theorem dModel_restore_178 : decode prog_14_method_114_code 178 = .ok (.getfield 852, 3) := by decide +kernel
theorem dModel_restore_181 : decode prog_14_method_114_code 181 = .ok (.aload_n 0, 1) := by decide +kernel
theorem dModel_restore_182 : decode prog_14_method_114_code 182 = .ok (.getfield 522, 3) := by decide +kernel
theorem dModel_restore_185 : decode prog_14_method_114_code 185 = .ok (.bipush 6, 2) := by decide +kernel
theorem dModel_restore_187 : decode prog_14_method_114_code 187 = .ok (.invokestatic 811, 3) := by decide +kernel
theorem dModel_restore_190 : decode prog_14_method_114_code 190 = .ok (.aload_n 0, 1) := by decide +kernel
theorem dModel_restore_191 : decode prog_14_method_114_code 191 = .ok (.getfield 855, 3) := by decide +kernel
theorem dModel_restore_194 : decode prog_14_method_114_code 194 = .ok (.aload_n 0, 1) := by decide +kernel
theorem dModel_restore_195 : decode prog_14_method_114_code 195 = .ok (.getfield 578, 3) := by decide +kernel
theorem dModel_restore_198 : decode prog_14_method_114_code 198 = .ok (.bipush 6, 2) := by decide +kernel
theorem dModel_restore_200 : decode prog_14_method_114_code 200 = .ok (.invokestatic 858, 3) := by decide +kernel
theorem dModel_restore_203 : decode prog_14_method_114_code 203 = .ok (.aload_n 0, 1) := by decide +kernel
theorem dModel_restore_204 : decode prog_14_method_114_code 204 = .ok (.getfield 862, 3) := by decide +kernel
theorem dModel_restore_207 : decode prog_14_method_114_code 207 = .ok (.aload_n 0, 1) := by decide +kernel
theorem dModel_restore_208 : decode prog_14_method_114_code 208 = .ok (.getfield 745, 3) := by decide +kernel
theorem dModel_restore_211 : decode prog_14_method_114_code 211 = .ok (.sipush 1440, 3) := by decide +kernel
theorem dModel_restore_214 : decode prog_14_method_114_code 214 = .ok (.invokestatic 811, 3) := by decide +kernel
theorem dModel_restore_217 : decode prog_14_method_114_code 217 = .ok (.aload_n 0, 1) := by decide +kernel
theorem dModel_restore_218 : decode prog_14_method_114_code 218 = .ok (.getfield 865, 3) := by decide +kernel
theorem dModel_restore_221 : decode prog_14_method_114_code 221 = .ok (.aload_n 0, 1) := by decide +kernel
theorem dModel_restore_222 : decode prog_14_method_114_code 222 = .ok (.getfield 748, 3) := by decide +kernel
theorem dModel_restore_225 : decode prog_14_method_114_code 225 = .ok (.sipush 1440, 3) := by decide +kernel
theorem dModel_restore_228 : decode prog_14_method_114_code 228 = .ok (.invokestatic 811, 3) := by decide +kernel
theorem dModel_restore_231 : decode prog_14_method_114_code 231 = .ok (.aload_n 0, 1) := by decide +kernel
theorem dModel_restore_232 : decode prog_14_method_114_code 232 = .ok (.getfield 868, 3) := by decide +kernel
theorem dModel_restore_235 : decode prog_14_method_114_code 235 = .ok (.aload_n 0, 1) := by decide +kernel
theorem dModel_restore_236 : decode prog_14_method_114_code 236 = .ok (.getfield 751, 3) := by decide +kernel
theorem dModel_restore_239 : decode prog_14_method_114_code 239 = .ok (.sipush 3600, 3) := by decide +kernel
theorem dModel_restore_242 : decode prog_14_method_114_code 242 = .ok (.invokestatic 811, 3) := by decide +kernel
theorem dModel_restore_245 : decode prog_14_method_114_code 245 = .ok (.aload_n 0, 1) := by decide +kernel
theorem dModel_restore_246 : decode prog_14_method_114_code 246 = .ok (.getfield 871, 3) := by decide +kernel
theorem dModel_restore_249 : decode prog_14_method_114_code 249 = .ok (.aload_n 0, 1) := by decide +kernel
theorem dModel_restore_250 : decode prog_14_method_114_code 250 = .ok (.getfield 757, 3) := by decide +kernel
theorem dModel_restore_253 : decode prog_14_method_114_code 253 = .ok (.sipush 1440, 3) := by decide +kernel
theorem dModel_restore_256 : decode prog_14_method_114_code 256 = .ok (.invokestatic 811, 3) := by decide +kernel
theorem dModel_restore_259 : decode prog_14_method_114_code 259 = .ok (.aload_n 0, 1) := by decide +kernel
theorem dModel_restore_260 : decode prog_14_method_114_code 260 = .ok (.getfield 874, 3) := by decide +kernel
theorem dModel_restore_263 : decode prog_14_method_114_code 263 = .ok (.aload_n 0, 1) := by decide +kernel
theorem dModel_restore_264 : decode prog_14_method_114_code 264 = .ok (.getfield 754, 3) := by decide +kernel
theorem dModel_restore_267 : decode prog_14_method_114_code 267 = .ok (.sipush 1440, 3) := by decide +kernel
theorem dModel_restore_270 : decode prog_14_method_114_code 270 = .ok (.invokestatic 858, 3) := by decide +kernel
theorem dModel_restore_273 : decode prog_14_method_114_code 273 = .ok (.aload_n 0, 1) := by decide +kernel
theorem dModel_restore_274 : decode prog_14_method_114_code 274 = .ok (.getfield 877, 3) := by decide +kernel
theorem dModel_restore_277 : decode prog_14_method_114_code 277 = .ok (.aload_n 0, 1) := by decide +kernel
theorem dModel_restore_278 : decode prog_14_method_114_code 278 = .ok (.getfield 760, 3) := by decide +kernel
theorem dModel_restore_281 : decode prog_14_method_114_code 281 = .ok (.sipush 1440, 3) := by decide +kernel
theorem dModel_restore_284 : decode prog_14_method_114_code 284 = .ok (.invokestatic 858, 3) := by decide +kernel
theorem dModel_restore_287 : decode prog_14_method_114_code 287 = .ok (.aload_n 0, 1) := by decide +kernel
theorem dModel_restore_288 : decode prog_14_method_114_code 288 = .ok (.aload_n 0, 1) := by decide +kernel
theorem dModel_restore_289 : decode prog_14_method_114_code 289 = .ok (.getfield 880, 3) := by decide +kernel
theorem dModel_restore_292 : decode prog_14_method_114_code 292 = .ok (.iconst 0, 1) := by decide +kernel
theorem dModel_restore_293 : decode prog_14_method_114_code 293 = .ok (.laload, 1) := by decide +kernel
theorem dModel_restore_294 : decode prog_14_method_114_code 294 = .ok (.putfield 630, 3) := by decide +kernel
theorem dModel_restore_297 : decode prog_14_method_114_code 297 = .ok (.aload_n 0, 1) := by decide +kernel
theorem dModel_restore_298 : decode prog_14_method_114_code 298 = .ok (.aload_n 0, 1) := by decide +kernel
theorem dModel_restore_299 : decode prog_14_method_114_code 299 = .ok (.getfield 880, 3) := by decide +kernel
theorem dModel_restore_302 : decode prog_14_method_114_code 302 = .ok (.iconst 1, 1) := by decide +kernel
theorem dModel_restore_303 : decode prog_14_method_114_code 303 = .ok (.laload, 1) := by decide +kernel
theorem dModel_restore_304 : decode prog_14_method_114_code 304 = .ok (.putfield 597, 3) := by decide +kernel
theorem dModel_restore_307 : decode prog_14_method_114_code 307 = .ok (.aload_n 0, 1) := by decide +kernel
theorem dModel_restore_308 : decode prog_14_method_114_code 308 = .ok (.aload_n 0, 1) := by decide +kernel
theorem dModel_restore_309 : decode prog_14_method_114_code 309 = .ok (.getfield 880, 3) := by decide +kernel
theorem dModel_restore_312 : decode prog_14_method_114_code 312 = .ok (.iconst 2, 1) := by decide +kernel
theorem dModel_restore_313 : decode prog_14_method_114_code 313 = .ok (.laload, 1) := by decide +kernel
theorem dModel_restore_314 : decode prog_14_method_114_code 314 = .ok (.putfield 581, 3) := by decide +kernel
theorem dModel_restore_317 : decode prog_14_method_114_code 317 = .ok (.aload_n 0, 1) := by decide +kernel
theorem dModel_restore_318 : decode prog_14_method_114_code 318 = .ok (.aload_n 0, 1) := by decide +kernel
theorem dModel_restore_319 : decode prog_14_method_114_code 319 = .ok (.getfield 880, 3) := by decide +kernel
theorem dModel_restore_322 : decode prog_14_method_114_code 322 = .ok (.iconst 3, 1) := by decide +kernel
theorem dModel_restore_323 : decode prog_14_method_114_code 323 = .ok (.laload, 1) := by decide +kernel
theorem dModel_restore_324 : decode prog_14_method_114_code 324 = .ok (.putfield 700, 3) := by decide +kernel
theorem dModel_restore_327 : decode prog_14_method_114_code 327 = .ok (.aload_n 0, 1) := by decide +kernel
theorem dModel_restore_328 : decode prog_14_method_114_code 328 = .ok (.aload_n 0, 1) := by decide +kernel
theorem dModel_restore_329 : decode prog_14_method_114_code 329 = .ok (.getfield 880, 3) := by decide +kernel
theorem dModel_restore_332 : decode prog_14_method_114_code 332 = .ok (.iconst 4, 1) := by decide +kernel
theorem dModel_restore_333 : decode prog_14_method_114_code 333 = .ok (.laload, 1) := by decide +kernel
theorem dModel_restore_334 : decode prog_14_method_114_code 334 = .ok (.putfield 703, 3) := by decide +kernel
theorem dModel_restore_337 : decode prog_14_method_114_code 337 = .ok (.aload_n 0, 1) := by decide +kernel
theorem dModel_restore_338 : decode prog_14_method_114_code 338 = .ok (.aload_n 0, 1) := by decide +kernel
theorem dModel_restore_339 : decode prog_14_method_114_code 339 = .ok (.getfield 880, 3) := by decide +kernel
theorem dModel_restore_342 : decode prog_14_method_114_code 342 = .ok (.iconst 5, 1) := by decide +kernel
theorem dModel_restore_343 : decode prog_14_method_114_code 343 = .ok (.laload, 1) := by decide +kernel
theorem dModel_restore_344 : decode prog_14_method_114_code 344 = .ok (.putfield 617, 3) := by decide +kernel
theorem dModel_restore_347 : decode prog_14_method_114_code 347 = .ok (.aload_n 0, 1) := by decide +kernel
theorem dModel_restore_348 : decode prog_14_method_114_code 348 = .ok (.aload_n 0, 1) := by decide +kernel
theorem dModel_restore_349 : decode prog_14_method_114_code 349 = .ok (.getfield 880, 3) := by decide +kernel
theorem dModel_restore_352 : decode prog_14_method_114_code 352 = .ok (.bipush 6, 2) := by decide +kernel
theorem dModel_restore_354 : decode prog_14_method_114_code 354 = .ok (.laload, 1) := by decide +kernel
theorem dModel_restore_355 : decode prog_14_method_114_code 355 = .ok (.putfield 614, 3) := by decide +kernel
theorem dModel_restore_358 : decode prog_14_method_114_code 358 = .ok (.aload_n 0, 1) := by decide +kernel
theorem dModel_restore_359 : decode prog_14_method_114_code 359 = .ok (.aload_n 0, 1) := by decide +kernel
theorem dModel_restore_360 : decode prog_14_method_114_code 360 = .ok (.getfield 880, 3) := by decide +kernel
theorem dModel_restore_363 : decode prog_14_method_114_code 363 = .ok (.bipush 7, 2) := by decide +kernel
theorem dModel_restore_365 : decode prog_14_method_114_code 365 = .ok (.laload, 1) := by decide +kernel
theorem dModel_restore_366 : decode prog_14_method_114_code 366 = .ok (.putfield 611, 3) := by decide +kernel
theorem dModel_restore_369 : decode prog_14_method_114_code 369 = .ok (.return_, 1) := by decide +kernel
theorem dModel_about_0 : decode prog_14_method_115_code 0 = .ok (.iload_n 1, 1) := by decide +kernel
theorem dModel_about_1 : decode prog_14_method_115_code 1 = .ok (.tableswitch 92 0 7 #[47, 52, 57, 62, 72, 77, 82, 87], 47) := by decide +kernel
theorem dModel_about_48 : decode prog_14_method_115_code 48 = .ok (.aload_n 0, 1) := by decide +kernel
theorem dModel_about_49 : decode prog_14_method_115_code 49 = .ok (.invokevirtual 624, 3) := by decide +kernel
theorem dModel_about_52 : decode prog_14_method_115_code 52 = .ok (.ireturn, 1) := by decide +kernel
theorem dModel_about_53 : decode prog_14_method_115_code 53 = .ok (.aload_n 0, 1) := by decide +kernel
theorem dModel_about_54 : decode prog_14_method_115_code 54 = .ok (.invokevirtual 433, 3) := by decide +kernel
theorem dModel_about_57 : decode prog_14_method_115_code 57 = .ok (.ireturn, 1) := by decide +kernel
theorem dModel_about_58 : decode prog_14_method_115_code 58 = .ok (.aload_n 0, 1) := by decide +kernel
theorem dModel_about_59 : decode prog_14_method_115_code 59 = .ok (.invokevirtual 488, 3) := by decide +kernel
theorem dModel_about_62 : decode prog_14_method_115_code 62 = .ok (.ireturn, 1) := by decide +kernel
theorem dModel_about_63 : decode prog_14_method_115_code 63 = .ok (.aload_n 0, 1) := by decide +kernel
theorem dModel_about_64 : decode prog_14_method_115_code 64 = .ok (.getfield 153, 3) := by decide +kernel
theorem dModel_about_67 : decode prog_14_method_115_code 67 = .ok (.aload_n 0, 1) := by decide +kernel
theorem dModel_about_68 : decode prog_14_method_115_code 68 = .ok (.getfield 147, 3) := by decide +kernel
theorem dModel_about_71 : decode prog_14_method_115_code 71 = .ok (.iaload, 1) := by decide +kernel
theorem dModel_about_72 : decode prog_14_method_115_code 72 = .ok (.ireturn, 1) := by decide +kernel
theorem dModel_about_73 : decode prog_14_method_115_code 73 = .ok (.aload_n 0, 1) := by decide +kernel
theorem dModel_about_74 : decode prog_14_method_115_code 74 = .ok (.getfield 387, 3) := by decide +kernel
theorem dModel_about_77 : decode prog_14_method_115_code 77 = .ok (.ireturn, 1) := by decide +kernel
theorem dModel_about_78 : decode prog_14_method_115_code 78 = .ok (.aload_n 0, 1) := by decide +kernel
theorem dModel_about_79 : decode prog_14_method_115_code 79 = .ok (.getfield 169, 3) := by decide +kernel
theorem dModel_about_82 : decode prog_14_method_115_code 82 = .ok (.ireturn, 1) := by decide +kernel
theorem dModel_about_83 : decode prog_14_method_115_code 83 = .ok (.aload_n 0, 1) := by decide +kernel
theorem dModel_about_84 : decode prog_14_method_115_code 84 = .ok (.getfield 427, 3) := by decide +kernel
theorem dModel_about_87 : decode prog_14_method_115_code 87 = .ok (.ireturn, 1) := by decide +kernel
theorem dModel_about_88 : decode prog_14_method_115_code 88 = .ok (.aload_n 0, 1) := by decide +kernel
theorem dModel_about_89 : decode prog_14_method_115_code 89 = .ok (.getfield 137, 3) := by decide +kernel
theorem dModel_about_92 : decode prog_14_method_115_code 92 = .ok (.ireturn, 1) := by decide +kernel
theorem dModel_about_93 : decode prog_14_method_115_code 93 = .ok (.iload_n 1, 1) := by decide +kernel
theorem dModel_about_94 : decode prog_14_method_115_code 94 = .ok (.bipush 10, 2) := by decide +kernel
theorem dModel_about_96 : decode prog_14_method_115_code 96 = .ok (.if_icmp .lt 21, 3) := by decide +kernel
theorem dModel_about_99 : decode prog_14_method_115_code 99 = .ok (.iload_n 1, 1) := by decide +kernel
theorem dModel_about_100 : decode prog_14_method_115_code 100 = .ok (.bipush 14, 2) := by decide +kernel
theorem dModel_about_102 : decode prog_14_method_115_code 102 = .ok (.if_icmp .ge 15, 3) := by decide +kernel
theorem dModel_about_105 : decode prog_14_method_115_code 105 = .ok (.aload_n 0, 1) := by decide +kernel
theorem dModel_about_106 : decode prog_14_method_115_code 106 = .ok (.getfield 282, 3) := by decide +kernel
theorem dModel_about_109 : decode prog_14_method_115_code 109 = .ok (.iload_n 1, 1) := by decide +kernel
theorem dModel_about_110 : decode prog_14_method_115_code 110 = .ok (.bipush 10, 2) := by decide +kernel
theorem dModel_about_112 : decode prog_14_method_115_code 112 = .ok (.isub, 1) := by decide +kernel
theorem dModel_about_113 : decode prog_14_method_115_code 113 = .ok (.iaload, 1) := by decide +kernel
theorem dModel_about_114 : decode prog_14_method_115_code 114 = .ok (.goto 4, 3) := by decide +kernel
theorem dModel_about_117 : decode prog_14_method_115_code 117 = .ok (.iconst (-1), 1) := by decide +kernel
theorem dModel_about_118 : decode prog_14_method_115_code 118 = .ok (.ireturn, 1) := by decide +kernel
theorem dModel_feed_0 : decode prog_14_method_116_code 0 = .ok (.aload_n 0, 1) := by decide +kernel
theorem dModel_feed_1 : decode prog_14_method_116_code 1 = .ok (.getfield 137, 3) := by decide +kernel
theorem dModel_feed_4 : decode prog_14_method_116_code 4 = .ok (.bipush 20, 2) := by decide +kernel
theorem dModel_feed_6 : decode prog_14_method_116_code 6 = .ok (.iadd, 1) := by decide +kernel
theorem dModel_feed_7 : decode prog_14_method_116_code 7 = .ok (.sipush 1600, 3) := by decide +kernel
theorem dModel_feed_10 : decode prog_14_method_116_code 10 = .ok (.if_icmp .le 5, 3) := by decide +kernel
theorem dModel_feed_13 : decode prog_14_method_116_code 13 = .ok (.iconst (-1), 1) := by decide +kernel
theorem dModel_feed_14 : decode prog_14_method_116_code 14 = .ok (.ireturn, 1) := by decide +kernel
theorem dModel_feed_15 : decode prog_14_method_116_code 15 = .ok (.iconst 0, 1) := by decide +kernel
theorem dModel_feed_16 : decode prog_14_method_116_code 16 = .ok (.istore 6, 2) := by decide +kernel
theorem dModel_feed_18 : decode prog_14_method_116_code 18 = .ok (.iload 6, 2) := by decide +kernel
theorem dModel_feed_20 : decode prog_14_method_116_code 20 = .ok (.bipush 20, 2) := by decide +kernel
theorem dModel_feed_22 : decode prog_14_method_116_code 22 = .ok (.if_icmp .ge 83, 3) := by decide +kernel
theorem dModel_feed_25 : decode prog_14_method_116_code 25 = .ok (.iload 6, 2) := by decide +kernel
theorem dModel_feed_27 : decode prog_14_method_116_code 27 = .ok (.iconst 4, 1) := by decide +kernel
theorem dModel_feed_28 : decode prog_14_method_116_code 28 = .ok (.if_icmp .ge 7, 3) := by decide +kernel
theorem dModel_feed_31 : decode prog_14_method_116_code 31 = .ok (.iload_n 1, 1) := by decide +kernel
theorem dModel_feed_32 : decode prog_14_method_116_code 32 = .ok (.goto 39, 3) := by decide +kernel
theorem dModel_feed_35 : decode prog_14_method_116_code 35 = .ok (.iload 6, 2) := by decide +kernel
theorem dModel_feed_37 : decode prog_14_method_116_code 37 = .ok (.bipush 8, 2) := by decide +kernel
theorem dModel_feed_39 : decode prog_14_method_116_code 39 = .ok (.if_icmp .ge 7, 3) := by decide +kernel
theorem dModel_feed_42 : decode prog_14_method_116_code 42 = .ok (.iload_n 2, 1) := by decide +kernel
theorem dModel_feed_43 : decode prog_14_method_116_code 43 = .ok (.goto 28, 3) := by decide +kernel
theorem dModel_feed_46 : decode prog_14_method_116_code 46 = .ok (.iload 6, 2) := by decide +kernel
theorem dModel_feed_48 : decode prog_14_method_116_code 48 = .ok (.bipush 12, 2) := by decide +kernel
theorem dModel_feed_50 : decode prog_14_method_116_code 50 = .ok (.if_icmp .ge 7, 3) := by decide +kernel
theorem dModel_feed_53 : decode prog_14_method_116_code 53 = .ok (.iload_n 3, 1) := by decide +kernel
theorem dModel_feed_54 : decode prog_14_method_116_code 54 = .ok (.goto 17, 3) := by decide +kernel
theorem dModel_feed_57 : decode prog_14_method_116_code 57 = .ok (.iload 6, 2) := by decide +kernel
theorem dModel_feed_59 : decode prog_14_method_116_code 59 = .ok (.bipush 16, 2) := by decide +kernel
theorem dModel_feed_61 : decode prog_14_method_116_code 61 = .ok (.if_icmp .ge 8, 3) := by decide +kernel
theorem dModel_feed_64 : decode prog_14_method_116_code 64 = .ok (.iload 4, 2) := by decide +kernel
theorem dModel_feed_66 : decode prog_14_method_116_code 66 = .ok (.goto 5, 3) := by decide +kernel
theorem dModel_feed_69 : decode prog_14_method_116_code 69 = .ok (.iload 5, 2) := by decide +kernel
theorem dModel_feed_71 : decode prog_14_method_116_code 71 = .ok (.istore 7, 2) := by decide +kernel
theorem dModel_feed_73 : decode prog_14_method_116_code 73 = .ok (.aload_n 0, 1) := by decide +kernel
theorem dModel_feed_74 : decode prog_14_method_116_code 74 = .ok (.getfield 140, 3) := by decide +kernel
theorem dModel_feed_77 : decode prog_14_method_116_code 77 = .ok (.aload_n 0, 1) := by decide +kernel
theorem dModel_feed_78 : decode prog_14_method_116_code 78 = .ok (.getfield 137, 3) := by decide +kernel
theorem dModel_feed_81 : decode prog_14_method_116_code 81 = .ok (.iload 6, 2) := by decide +kernel
theorem dModel_feed_83 : decode prog_14_method_116_code 83 = .ok (.iadd, 1) := by decide +kernel
theorem dModel_feed_84 : decode prog_14_method_116_code 84 = .ok (.iload 7, 2) := by decide +kernel
theorem dModel_feed_86 : decode prog_14_method_116_code 86 = .ok (.bipush 24, 2) := by decide +kernel
theorem dModel_feed_88 : decode prog_14_method_116_code 88 = .ok (.bipush 8, 2) := by decide +kernel
theorem dModel_feed_90 : decode prog_14_method_116_code 90 = .ok (.iload 6, 2) := by decide +kernel
theorem dModel_feed_92 : decode prog_14_method_116_code 92 = .ok (.iconst 3, 1) := by decide +kernel
theorem dModel_feed_93 : decode prog_14_method_116_code 93 = .ok (.iand, 1) := by decide +kernel
theorem dModel_feed_94 : decode prog_14_method_116_code 94 = .ok (.imul, 1) := by decide +kernel
theorem dModel_feed_95 : decode prog_14_method_116_code 95 = .ok (.isub, 1) := by decide +kernel
theorem dModel_feed_96 : decode prog_14_method_116_code 96 = .ok (.ishr, 1) := by decide +kernel
theorem dModel_feed_97 : decode prog_14_method_116_code 97 = .ok (.i2b, 1) := by decide +kernel
theorem dModel_feed_98 : decode prog_14_method_116_code 98 = .ok (.bastore, 1) := by decide +kernel
theorem dModel_feed_99 : decode prog_14_method_116_code 99 = .ok (.iinc 6 1, 3) := by decide +kernel
theorem dModel_feed_102 : decode prog_14_method_116_code 102 = .ok (.goto (-84), 3) := by decide +kernel
theorem dModel_feed_105 : decode prog_14_method_116_code 105 = .ok (.aload_n 0, 1) := by decide +kernel
theorem dModel_feed_106 : decode prog_14_method_116_code 106 = .ok (.dup, 1) := by decide +kernel
theorem dModel_feed_107 : decode prog_14_method_116_code 107 = .ok (.getfield 137, 3) := by decide +kernel
theorem dModel_feed_110 : decode prog_14_method_116_code 110 = .ok (.bipush 20, 2) := by decide +kernel
theorem dModel_feed_112 : decode prog_14_method_116_code 112 = .ok (.iadd, 1) := by decide +kernel
theorem dModel_feed_113 : decode prog_14_method_116_code 113 = .ok (.putfield 137, 3) := by decide +kernel
theorem dModel_feed_116 : decode prog_14_method_116_code 116 = .ok (.aload_n 0, 1) := by decide +kernel
theorem dModel_feed_117 : decode prog_14_method_116_code 117 = .ok (.getfield 137, 3) := by decide +kernel
theorem dModel_feed_120 : decode prog_14_method_116_code 120 = .ok (.ireturn, 1) := by decide +kernel
theorem dModel_end_0 : decode prog_14_method_117_code 0 = .ok (.iload_n 1, 1) := by decide +kernel
theorem dModel_end_1 : decode prog_14_method_117_code 1 = .ok (.ifCond .lt 11, 3) := by decide +kernel
theorem dModel_end_4 : decode prog_14_method_117_code 4 = .ok (.iload_n 1, 1) := by decide +kernel
theorem dModel_end_5 : decode prog_14_method_117_code 5 = .ok (.aload_n 0, 1) := by decide +kernel
theorem dModel_end_6 : decode prog_14_method_117_code 6 = .ok (.getfield 137, 3) := by decide +kernel
theorem dModel_end_9 : decode prog_14_method_117_code 9 = .ok (.if_icmp .le 5, 3) := by decide +kernel
theorem dModel_end_12 : decode prog_14_method_117_code 12 = .ok (.iconst (-1), 1) := by decide +kernel
theorem dModel_end_13 : decode prog_14_method_117_code 13 = .ok (.ireturn, 1) := by decide +kernel
theorem dModel_end_14 : decode prog_14_method_117_code 14 = .ok (.aload_n 0, 1) := by decide +kernel
theorem dModel_end_15 : decode prog_14_method_117_code 15 = .ok (.iload_n 1, 1) := by decide +kernel
theorem dModel_end_16 : decode prog_14_method_117_code 16 = .ok (.putfield 137, 3) := by decide +kernel
theorem dModel_end_19 : decode prog_14_method_117_code 19 = .ok (.iload_n 1, 1) := by decide +kernel
theorem dModel_end_20 : decode prog_14_method_117_code 20 = .ok (.ireturn, 1) := by decide +kernel
theorem dModel_init_0 : decode prog_14_method_118_code 0 = .ok (.aload_n 0, 1) := by decide +kernel
theorem dModel_init_1 : decode prog_14_method_118_code 1 = .ok (.invokespecial 883, 3) := by decide +kernel
theorem dModel_init_4 : decode prog_14_method_118_code 4 = .ok (.aload_n 0, 1) := by decide +kernel
theorem dModel_init_5 : decode prog_14_method_118_code 5 = .ok (.sipush 1620, 3) := by decide +kernel
theorem dModel_init_8 : decode prog_14_method_118_code 8 = .ok (.newarray .byte, 2) := by decide +kernel
theorem dModel_init_10 : decode prog_14_method_118_code 10 = .ok (.putfield 140, 3) := by decide +kernel
theorem dModel_init_13 : decode prog_14_method_118_code 13 = .ok (.aload_n 0, 1) := by decide +kernel
theorem dModel_init_14 : decode prog_14_method_118_code 14 = .ok (.sipush 1600, 3) := by decide +kernel
theorem dModel_init_17 : decode prog_14_method_118_code 17 = .ok (.newarray .byte, 2) := by decide +kernel
theorem dModel_init_19 : decode prog_14_method_118_code 19 = .ok (.putfield 7, 3) := by decide +kernel
theorem dModel_init_22 : decode prog_14_method_118_code 22 = .ok (.aload_n 0, 1) := by decide +kernel
theorem dModel_init_23 : decode prog_14_method_118_code 23 = .ok (.iconst (-1), 1) := by decide +kernel
theorem dModel_init_24 : decode prog_14_method_118_code 24 = .ok (.putfield 14, 3) := by decide +kernel
theorem dModel_init_27 : decode prog_14_method_118_code 27 = .ok (.aload_n 0, 1) := by decide +kernel
theorem dModel_init_28 : decode prog_14_method_118_code 28 = .ok (.bipush 6, 2) := by decide +kernel
theorem dModel_init_30 : decode prog_14_method_118_code 30 = .ok (.newarray .long, 2) := by decide +kernel
theorem dModel_init_32 : decode prog_14_method_118_code 32 = .ok (.putfield 216, 3) := by decide +kernel
theorem dModel_init_35 : decode prog_14_method_118_code 35 = .ok (.aload_n 0, 1) := by decide +kernel
theorem dModel_init_36 : decode prog_14_method_118_code 36 = .ok (.bipush 6, 2) := by decide +kernel
theorem dModel_init_38 : decode prog_14_method_118_code 38 = .ok (.newarray .long, 2) := by decide +kernel
theorem dModel_init_40 : decode prog_14_method_118_code 40 = .ok (.putfield 220, 3) := by decide +kernel
theorem dModel_init_43 : decode prog_14_method_118_code 43 = .ok (.aload_n 0, 1) := by decide +kernel
theorem dModel_init_44 : decode prog_14_method_118_code 44 = .ok (.bipush 10, 2) := by decide +kernel
theorem dModel_init_46 : decode prog_14_method_118_code 46 = .ok (.newarray .long, 2) := by decide +kernel
theorem dModel_init_48 : decode prog_14_method_118_code 48 = .ok (.putfield 223, 3) := by decide +kernel
theorem dModel_init_51 : decode prog_14_method_118_code 51 = .ok (.aload_n 0, 1) := by decide +kernel
theorem dModel_init_52 : decode prog_14_method_118_code 52 = .ok (.iconst 2, 1) := by decide +kernel
theorem dModel_init_53 : decode prog_14_method_118_code 53 = .ok (.newarray .int, 2) := by decide +kernel
theorem dModel_init_55 : decode prog_14_method_118_code 55 = .ok (.putfield 153, 3) := by decide +kernel
theorem dModel_init_58 : decode prog_14_method_118_code 58 = .ok (.aload_n 0, 1) := by decide +kernel
theorem dModel_init_59 : decode prog_14_method_118_code 59 = .ok (.iconst 2, 1) := by decide +kernel
theorem dModel_init_60 : decode prog_14_method_118_code 60 = .ok (.newarray .int, 2) := by decide +kernel
theorem dModel_init_62 : decode prog_14_method_118_code 62 = .ok (.putfield 157, 3) := by decide +kernel
theorem dModel_init_65 : decode prog_14_method_118_code 65 = .ok (.aload_n 0, 1) := by decide +kernel
theorem dModel_init_66 : decode prog_14_method_118_code 66 = .ok (.iconst 2, 1) := by decide +kernel
theorem dModel_init_67 : decode prog_14_method_118_code 67 = .ok (.newarray .int, 2) := by decide +kernel
theorem dModel_init_69 : decode prog_14_method_118_code 69 = .ok (.putfield 160, 3) := by decide +kernel
theorem dModel_init_72 : decode prog_14_method_118_code 72 = .ok (.aload_n 0, 1) := by decide +kernel
theorem dModel_init_73 : decode prog_14_method_118_code 73 = .ok (.iconst 2, 1) := by decide +kernel
theorem dModel_init_74 : decode prog_14_method_118_code 74 = .ok (.newarray .int, 2) := by decide +kernel
theorem dModel_init_76 : decode prog_14_method_118_code 76 = .ok (.putfield 163, 3) := by decide +kernel
theorem dModel_init_79 : decode prog_14_method_118_code 79 = .ok (.aload_n 0, 1) := by decide +kernel
theorem dModel_init_80 : decode prog_14_method_118_code 80 = .ok (.bipush 48, 2) := by decide +kernel
theorem dModel_init_82 : decode prog_14_method_118_code 82 = .ok (.newarray .int, 2) := by decide +kernel
theorem dModel_init_84 : decode prog_14_method_118_code 84 = .ok (.putfield 199, 3) := by decide +kernel
theorem dModel_init_87 : decode prog_14_method_118_code 87 = .ok (.aload_n 0, 1) := by decide +kernel
theorem dModel_init_88 : decode prog_14_method_118_code 88 = .ok (.bipush 48, 2) := by decide +kernel
theorem dModel_init_90 : decode prog_14_method_118_code 90 = .ok (.newarray .int, 2) := by decide +kernel
theorem dModel_init_92 : decode prog_14_method_118_code 92 = .ok (.putfield 206, 3) := by decide +kernel
theorem dModel_init_95 : decode prog_14_method_118_code 95 = .ok (.aload_n 0, 1) := by decide +kernel
theorem dModel_init_96 : decode prog_14_method_118_code 96 = .ok (.bipush 48, 2) := by decide +kernel
theorem dModel_init_98 : decode prog_14_method_118_code 98 = .ok (.newarray .int, 2) := by decide +kernel
theorem dModel_init_100 : decode prog_14_method_118_code 100 = .ok (.putfield 209, 3) := by decide +kernel
theorem dModel_init_103 : decode prog_14_method_118_code 103 = .ok (.aload_n 0, 1) := by decide +kernel
theorem dModel_init_104 : decode prog_14_method_118_code 104 = .ok (.bipush 6, 2) := by decide +kernel
theorem dModel_init_106 : decode prog_14_method_118_code 106 = .ok (.newarray .int, 2) := by decide +kernel
theorem dModel_init_108 : decode prog_14_method_118_code 108 = .ok (.putfield 233, 3) := by decide +kernel
theorem dModel_init_111 : decode prog_14_method_118_code 111 = .ok (.aload_n 0, 1) := by decide +kernel
theorem dModel_init_112 : decode prog_14_method_118_code 112 = .ok (.bipush 6, 2) := by decide +kernel
theorem dModel_init_114 : decode prog_14_method_118_code 114 = .ok (.newarray .int, 2) := by decide +kernel
theorem dModel_init_116 : decode prog_14_method_118_code 116 = .ok (.putfield 236, 3) := by decide +kernel
theorem dModel_init_119 : decode prog_14_method_118_code 119 = .ok (.aload_n 0, 1) := by decide +kernel
theorem dModel_init_120 : decode prog_14_method_118_code 120 = .ok (.bipush 6, 2) := by decide +kernel
theorem dModel_init_122 : decode prog_14_method_118_code 122 = .ok (.newarray .int, 2) := by decide +kernel
theorem dModel_init_124 : decode prog_14_method_118_code 124 = .ok (.putfield 239, 3) := by decide +kernel
theorem dModel_init_127 : decode prog_14_method_118_code 127 = .ok (.aload_n 0, 1) := by decide +kernel
theorem dModel_init_128 : decode prog_14_method_118_code 128 = .ok (.bipush 6, 2) := by decide +kernel
theorem dModel_init_130 : decode prog_14_method_118_code 130 = .ok (.newarray .int, 2) := by decide +kernel
theorem dModel_init_132 : decode prog_14_method_118_code 132 = .ok (.putfield 242, 3) := by decide +kernel
theorem dModel_init_135 : decode prog_14_method_118_code 135 = .ok (.aload_n 0, 1) := by decide +kernel
theorem dModel_init_136 : decode prog_14_method_118_code 136 = .ok (.bipush 72, 2) := by decide +kernel
theorem dModel_init_138 : decode prog_14_method_118_code 138 = .ok (.newarray .int, 2) := by decide +kernel
theorem dModel_init_140 : decode prog_14_method_118_code 140 = .ok (.putfield 245, 3) := by decide +kernel
theorem dModel_init_143 : decode prog_14_method_118_code 143 = .ok (.aload_n 0, 1) := by decide +kernel
theorem dModel_init_144 : decode prog_14_method_118_code 144 = .ok (.bipush 6, 2) := by decide +kernel
theorem dModel_init_146 : decode prog_14_method_118_code 146 = .ok (.newarray .int, 2) := by decide +kernel
theorem dModel_init_148 : decode prog_14_method_118_code 148 = .ok (.putfield 248, 3) := by decide +kernel
theorem dModel_init_151 : decode prog_14_method_118_code 151 = .ok (.aload_n 0, 1) := by decide +kernel
theorem dModel_init_152 : decode prog_14_method_118_code 152 = .ok (.bipush 10, 2) := by decide +kernel
theorem dModel_init_154 : decode prog_14_method_118_code 154 = .ok (.newarray .int, 2) := by decide +kernel
theorem dModel_init_156 : decode prog_14_method_118_code 156 = .ok (.putfield 251, 3) := by decide +kernel
theorem dModel_init_159 : decode prog_14_method_118_code 159 = .ok (.aload_n 0, 1) := by decide +kernel
theorem dModel_init_160 : decode prog_14_method_118_code 160 = .ok (.bipush 10, 2) := by decide +kernel
theorem dModel_init_162 : decode prog_14_method_118_code 162 = .ok (.newarray .int, 2) := by decide +kernel
theorem dModel_init_164 : decode prog_14_method_118_code 164 = .ok (.putfield 254, 3) := by decide +kernel
theorem dModel_init_167 : decode prog_14_method_118_code 167 = .ok (.aload_n 0, 1) := by decide +kernel
theorem dModel_init_168 : decode prog_14_method_118_code 168 = .ok (.bipush 10, 2) := by decide +kernel
theorem dModel_init_170 : decode prog_14_method_118_code 170 = .ok (.newarray .int, 2) := by decide +kernel
theorem dModel_init_172 : decode prog_14_method_118_code 172 = .ok (.putfield 257, 3) := by decide +kernel
theorem dModel_init_175 : decode prog_14_method_118_code 175 = .ok (.aload_n 0, 1) := by decide +kernel
theorem dModel_init_176 : decode prog_14_method_118_code 176 = .ok (.bipush 10, 2) := by decide +kernel
theorem dModel_init_178 : decode prog_14_method_118_code 178 = .ok (.newarray .int, 2) := by decide +kernel
theorem dModel_init_180 : decode prog_14_method_118_code 180 = .ok (.putfield 260, 3) := by decide +kernel
theorem dModel_init_183 : decode prog_14_method_118_code 183 = .ok (.aload_n 0, 1) := by decide +kernel
theorem dModel_init_184 : decode prog_14_method_118_code 184 = .ok (.bipush 10, 2) := by decide +kernel
theorem dModel_init_186 : decode prog_14_method_118_code 186 = .ok (.newarray .int, 2) := by decide +kernel
theorem dModel_init_188 : decode prog_14_method_118_code 188 = .ok (.putfield 263, 3) := by decide +kernel
theorem dModel_init_191 : decode prog_14_method_118_code 191 = .ok (.aload_n 0, 1) := by decide +kernel
theorem dModel_init_192 : decode prog_14_method_118_code 192 = .ok (.bipush 10, 2) := by decide +kernel
theorem dModel_init_194 : decode prog_14_method_118_code 194 = .ok (.newarray .int, 2) := by decide +kernel
theorem dModel_init_196 : decode prog_14_method_118_code 196 = .ok (.putfield 266, 3) := by decide +kernel
theorem dModel_init_199 : decode prog_14_method_118_code 199 = .ok (.aload_n 0, 1) := by decide +kernel
theorem dModel_init_200 : decode prog_14_method_118_code 200 = .ok (.sipush 256, 3) := by decide +kernel
theorem dModel_init_203 : decode prog_14_method_118_code 203 = .ok (.newarray .int, 2) := by decide +kernel
theorem dModel_init_205 : decode prog_14_method_118_code 205 = .ok (.putfield 269, 3) := by decide +kernel
theorem dModel_init_208 : decode prog_14_method_118_code 208 = .ok (.aload_n 0, 1) := by decide +kernel
theorem dModel_init_209 : decode prog_14_method_118_code 209 = .ok (.bipush 60, 2) := by decide +kernel
theorem dModel_init_211 : decode prog_14_method_118_code 211 = .ok (.newarray .int, 2) := by decide +kernel
theorem dModel_init_213 : decode prog_14_method_118_code 213 = .ok (.putfield 285, 3) := by decide +kernel
theorem dModel_init_216 : decode prog_14_method_118_code 216 = .ok (.aload_n 0, 1) := by decide +kernel
theorem dModel_init_217 : decode prog_14_method_118_code 217 = .ok (.bipush 60, 2) := by decide +kernel
theorem dModel_init_219 : decode prog_14_method_118_code 219 = .ok (.newarray .int, 2) := by decide +kernel
theorem dModel_init_221 : decode prog_14_method_118_code 221 = .ok (.putfield 300, 3) := by decide +kernel
theorem dModel_init_224 : decode prog_14_method_118_code 224 = .ok (.aload_n 0, 1) := by decide +kernel
theorem dModel_init_225 : decode prog_14_method_118_code 225 = .ok (.bipush 6, 2) := by decide +kernel
theorem dModel_init_227 : decode prog_14_method_118_code 227 = .ok (.newarray .int, 2) := by decide +kernel
theorem dModel_init_229 : decode prog_14_method_118_code 229 = .ok (.putfield 279, 3) := by decide +kernel
theorem dModel_init_232 : decode prog_14_method_118_code 232 = .ok (.aload_n 0, 1) := by decide +kernel
theorem dModel_init_233 : decode prog_14_method_118_code 233 = .ok (.bipush 6, 2) := by decide +kernel
theorem dModel_init_235 : decode prog_14_method_118_code 235 = .ok (.newarray .int, 2) := by decide +kernel
theorem dModel_init_237 : decode prog_14_method_118_code 237 = .ok (.putfield 282, 3) := by decide +kernel
theorem dModel_init_240 : decode prog_14_method_118_code 240 = .ok (.aload_n 0, 1) := by decide +kernel
theorem dModel_init_241 : decode prog_14_method_118_code 241 = .ok (.sipush 4200, 3) := by decide +kernel
theorem dModel_init_244 : decode prog_14_method_118_code 244 = .ok (.newarray .int, 2) := by decide +kernel
theorem dModel_init_246 : decode prog_14_method_118_code 246 = .ok (.putfield 303, 3) := by decide +kernel
theorem dModel_init_249 : decode prog_14_method_118_code 249 = .ok (.aload_n 0, 1) := by decide +kernel
theorem dModel_init_250 : decode prog_14_method_118_code 250 = .ok (.sipush 4200, 3) := by decide +kernel
theorem dModel_init_253 : decode prog_14_method_118_code 253 = .ok (.newarray .int, 2) := by decide +kernel
theorem dModel_init_255 : decode prog_14_method_118_code 255 = .ok (.putfield 306, 3) := by decide +kernel
theorem dModel_init_258 : decode prog_14_method_118_code 258 = .ok (.aload_n 0, 1) := by decide +kernel
theorem dModel_init_259 : decode prog_14_method_118_code 259 = .ok (.bipush 80, 2) := by decide +kernel
theorem dModel_init_261 : decode prog_14_method_118_code 261 = .ok (.newarray .int, 2) := by decide +kernel
theorem dModel_init_263 : decode prog_14_method_118_code 263 = .ok (.putfield 315, 3) := by decide +kernel
theorem dModel_init_266 : decode prog_14_method_118_code 266 = .ok (.aload_n 0, 1) := by decide +kernel
theorem dModel_init_267 : decode prog_14_method_118_code 267 = .ok (.bipush 80, 2) := by decide +kernel
theorem dModel_init_269 : decode prog_14_method_118_code 269 = .ok (.newarray .int, 2) := by decide +kernel
theorem dModel_init_271 : decode prog_14_method_118_code 271 = .ok (.putfield 321, 3) := by decide +kernel
theorem dModel_init_274 : decode prog_14_method_118_code 274 = .ok (.aload_n 0, 1) := by decide +kernel
theorem dModel_init_275 : decode prog_14_method_118_code 275 = .ok (.bipush 120, 2) := by decide +kernel
theorem dModel_init_277 : decode prog_14_method_118_code 277 = .ok (.newarray .int, 2) := by decide +kernel
theorem dModel_init_279 : decode prog_14_method_118_code 279 = .ok (.putfield 375, 3) := by decide +kernel
theorem dModel_init_282 : decode prog_14_method_118_code 282 = .ok (.aload_n 0, 1) := by decide +kernel
theorem dModel_init_283 : decode prog_14_method_118_code 283 = .ok (.bipush 6, 2) := by decide +kernel
theorem dModel_init_285 : decode prog_14_method_118_code 285 = .ok (.newarray .int, 2) := by decide +kernel
theorem dModel_init_287 : decode prog_14_method_118_code 287 = .ok (.putfield 390, 3) := by decide +kernel
theorem dModel_init_290 : decode prog_14_method_118_code 290 = .ok (.aload_n 0, 1) := by decide +kernel
theorem dModel_init_291 : decode prog_14_method_118_code 291 = .ok (.bipush 40, 2) := by decide +kernel
theorem dModel_init_293 : decode prog_14_method_118_code 293 = .ok (.newarray .int, 2) := by decide +kernel
theorem dModel_init_295 : decode prog_14_method_118_code 295 = .ok (.putfield 412, 3) := by decide +kernel
theorem dModel_init_298 : decode prog_14_method_118_code 298 = .ok (.aload_n 0, 1) := by decide +kernel
theorem dModel_init_299 : decode prog_14_method_118_code 299 = .ok (.bipush 40, 2) := by decide +kernel
theorem dModel_init_301 : decode prog_14_method_118_code 301 = .ok (.newarray .int, 2) := by decide +kernel
theorem dModel_init_303 : decode prog_14_method_118_code 303 = .ok (.putfield 415, 3) := by decide +kernel
theorem dModel_init_306 : decode prog_14_method_118_code 306 = .ok (.aload_n 0, 1) := by decide +kernel
theorem dModel_init_307 : decode prog_14_method_118_code 307 = .ok (.bipush 40, 2) := by decide +kernel
theorem dModel_init_309 : decode prog_14_method_118_code 309 = .ok (.newarray .int, 2) := by decide +kernel
theorem dModel_init_311 : decode prog_14_method_118_code 311 = .ok (.putfield 418, 3) := by decide +kernel
theorem dModel_init_314 : decode prog_14_method_118_code 314 = .ok (.aload_n 0, 1) := by decide +kernel
theorem dModel_init_315 : decode prog_14_method_118_code 315 = .ok (.bipush 40, 2) := by decide +kernel
theorem dModel_init_317 : decode prog_14_method_118_code 317 = .ok (.newarray .int, 2) := by decide +kernel
theorem dModel_init_319 : decode prog_14_method_118_code 319 = .ok (.putfield 421, 3) := by decide +kernel
theorem dModel_init_322 : decode prog_14_method_118_code 322 = .ok (.aload_n 0, 1) := by decide +kernel
theorem dModel_init_323 : decode prog_14_method_118_code 323 = .ok (.bipush 40, 2) := by decide +kernel
theorem dModel_init_325 : decode prog_14_method_118_code 325 = .ok (.newarray .int, 2) := by decide +kernel
theorem dModel_init_327 : decode prog_14_method_118_code 327 = .ok (.putfield 424, 3) := by decide +kernel
theorem dModel_init_330 : decode prog_14_method_118_code 330 = .ok (.aload_n 0, 1) := by decide +kernel
theorem dModel_init_331 : decode prog_14_method_118_code 331 = .ok (.bipush 40, 2) := by decide +kernel
theorem dModel_init_333 : decode prog_14_method_118_code 333 = .ok (.newarray .int, 2) := by decide +kernel
theorem dModel_init_335 : decode prog_14_method_118_code 335 = .ok (.putfield 430, 3) := by decide +kernel
theorem dModel_init_338 : decode prog_14_method_118_code 338 = .ok (.aload_n 0, 1) := by decide +kernel
theorem dModel_init_339 : decode prog_14_method_118_code 339 = .ok (.iconst 1, 1) := by decide +kernel
theorem dModel_init_340 : decode prog_14_method_118_code 340 = .ok (.putfield 397, 3) := by decide +kernel
theorem dModel_init_343 : decode prog_14_method_118_code 343 = .ok (.aload_n 0, 1) := by decide +kernel
theorem dModel_init_344 : decode prog_14_method_118_code 344 = .ok (.iconst 5, 1) := by decide +kernel
theorem dModel_init_345 : decode prog_14_method_118_code 345 = .ok (.putfield 400, 3) := by decide +kernel
theorem dModel_init_348 : decode prog_14_method_118_code 348 = .ok (.aload_n 0, 1) := by decide +kernel
theorem dModel_init_349 : decode prog_14_method_118_code 349 = .ok (.iconst 1, 1) := by decide +kernel
theorem dModel_init_350 : decode prog_14_method_118_code 350 = .ok (.putfield 403, 3) := by decide +kernel
theorem dModel_init_353 : decode prog_14_method_118_code 353 = .ok (.aload_n 0, 1) := by decide +kernel
theorem dModel_init_354 : decode prog_14_method_118_code 354 = .ok (.sipush 500, 3) := by decide +kernel
theorem dModel_init_357 : decode prog_14_method_118_code 357 = .ok (.putfield 406, 3) := by decide +kernel
theorem dModel_init_360 : decode prog_14_method_118_code 360 = .ok (.aload_n 0, 1) := by decide +kernel
theorem dModel_init_361 : decode prog_14_method_118_code 361 = .ok (.bipush 20, 2) := by decide +kernel
theorem dModel_init_363 : decode prog_14_method_118_code 363 = .ok (.putfield 409, 3) := by decide +kernel
theorem dModel_init_366 : decode prog_14_method_118_code 366 = .ok (.aload_n 0, 1) := by decide +kernel
theorem dModel_init_367 : decode prog_14_method_118_code 367 = .ok (.iconst 3, 1) := by decide +kernel
theorem dModel_init_368 : decode prog_14_method_118_code 368 = .ok (.newarray .int, 2) := by decide +kernel
theorem dModel_init_370 : decode prog_14_method_118_code 370 = .ok (.putfield 513, 3) := by decide +kernel
theorem dModel_init_373 : decode prog_14_method_118_code 373 = .ok (.aload_n 0, 1) := by decide +kernel
theorem dModel_init_374 : decode prog_14_method_118_code 374 = .ok (.iconst 3, 1) := by decide +kernel
theorem dModel_init_375 : decode prog_14_method_118_code 375 = .ok (.newarray .int, 2) := by decide +kernel
theorem dModel_init_377 : decode prog_14_method_118_code 377 = .ok (.putfield 627, 3) := by decide +kernel
theorem dModel_init_380 : decode prog_14_method_118_code 380 = .ok (.aload_n 0, 1) := by decide +kernel
theorem dModel_init_381 : decode prog_14_method_118_code 381 = .ok (.iconst 3, 1) := by decide +kernel
theorem dModel_init_382 : decode prog_14_method_118_code 382 = .ok (.newarray .int, 2) := by decide +kernel
theorem dModel_init_384 : decode prog_14_method_118_code 384 = .ok (.putfield 469, 3) := by decide +kernel
theorem dModel_init_387 : decode prog_14_method_118_code 387 = .ok (.aload_n 0, 1) := by decide +kernel
theorem dModel_init_388 : decode prog_14_method_118_code 388 = .ok (.iconst 5, 1) := by decide +kernel
theorem dModel_init_389 : decode prog_14_method_118_code 389 = .ok (.newarray .int, 2) := by decide +kernel
theorem dModel_init_391 : decode prog_14_method_118_code 391 = .ok (.putfield 474, 3) := by decide +kernel
theorem dModel_init_394 : decode prog_14_method_118_code 394 = .ok (.aload_n 0, 1) := by decide +kernel
theorem dModel_init_395 : decode prog_14_method_118_code 395 = .ok (.iconst 5, 1) := by decide +kernel
theorem dModel_init_396 : decode prog_14_method_118_code 396 = .ok (.newarray .int, 2) := by decide +kernel
theorem dModel_init_398 : decode prog_14_method_118_code 398 = .ok (.putfield 664, 3) := by decide +kernel
theorem dModel_init_401 : decode prog_14_method_118_code 401 = .ok (.aload_n 0, 1) := by decide +kernel
theorem dModel_init_402 : decode prog_14_method_118_code 402 = .ok (.iconst 5, 1) := by decide +kernel
theorem dModel_init_403 : decode prog_14_method_118_code 403 = .ok (.newarray .int, 2) := by decide +kernel
theorem dModel_init_405 : decode prog_14_method_118_code 405 = .ok (.putfield 694, 3) := by decide +kernel
theorem dModel_init_408 : decode prog_14_method_118_code 408 = .ok (.aload_n 0, 1) := by decide +kernel
theorem dModel_init_409 : decode prog_14_method_118_code 409 = .ok (.bipush 18, 2) := by decide +kernel
theorem dModel_init_411 : decode prog_14_method_118_code 411 = .ok (.newarray .int, 2) := by decide +kernel
theorem dModel_init_413 : decode prog_14_method_118_code 413 = .ok (.putfield 584, 3) := by decide +kernel
theorem dModel_init_416 : decode prog_14_method_118_code 416 = .ok (.aload_n 0, 1) := by decide +kernel
theorem dModel_init_417 : decode prog_14_method_118_code 417 = .ok (.bipush 6, 2) := by decide +kernel
theorem dModel_init_419 : decode prog_14_method_118_code 419 = .ok (.newarray .int, 2) := by decide +kernel
theorem dModel_init_421 : decode prog_14_method_118_code 421 = .ok (.putfield 522, 3) := by decide +kernel
theorem dModel_init_424 : decode prog_14_method_118_code 424 = .ok (.aload_n 0, 1) := by decide +kernel
theorem dModel_init_425 : decode prog_14_method_118_code 425 = .ok (.bipush 6, 2) := by decide +kernel
theorem dModel_init_427 : decode prog_14_method_118_code 427 = .ok (.newarray .int, 2) := by decide +kernel
theorem dModel_init_429 : decode prog_14_method_118_code 429 = .ok (.putfield 575, 3) := by decide +kernel
theorem dModel_init_432 : decode prog_14_method_118_code 432 = .ok (.aload_n 0, 1) := by decide +kernel
theorem dModel_init_433 : decode prog_14_method_118_code 433 = .ok (.sipush 2000, 3) := by decide +kernel
theorem dModel_init_436 : decode prog_14_method_118_code 436 = .ok (.newarray .int, 2) := by decide +kernel
theorem dModel_init_438 : decode prog_14_method_118_code 438 = .ok (.putfield 525, 3) := by decide +kernel
theorem dModel_init_441 : decode prog_14_method_118_code 441 = .ok (.aload_n 0, 1) := by decide +kernel
theorem dModel_init_442 : decode prog_14_method_118_code 442 = .ok (.sipush 2000, 3) := by decide +kernel
theorem dModel_init_445 : decode prog_14_method_118_code 445 = .ok (.newarray .int, 2) := by decide +kernel
theorem dModel_init_447 : decode prog_14_method_118_code 447 = .ok (.putfield 457, 3) := by decide +kernel
theorem dModel_init_450 : decode prog_14_method_118_code 450 = .ok (.aload_n 0, 1) := by decide +kernel
theorem dModel_init_451 : decode prog_14_method_118_code 451 = .ok (.sipush 2000, 3) := by decide +kernel
theorem dModel_init_454 : decode prog_14_method_118_code 454 = .ok (.newarray .int, 2) := by decide +kernel
theorem dModel_init_456 : decode prog_14_method_118_code 456 = .ok (.putfield 463, 3) := by decide +kernel
theorem dModel_init_459 : decode prog_14_method_118_code 459 = .ok (.aload_n 0, 1) := by decide +kernel
theorem dModel_init_460 : decode prog_14_method_118_code 460 = .ok (.sipush 2000, 3) := by decide +kernel
theorem dModel_init_463 : decode prog_14_method_118_code 463 = .ok (.newarray .int, 2) := by decide +kernel
theorem dModel_init_465 : decode prog_14_method_118_code 465 = .ok (.putfield 528, 3) := by decide +kernel
theorem dModel_init_468 : decode prog_14_method_118_code 468 = .ok (.aload_n 0, 1) := by decide +kernel
theorem dModel_init_469 : decode prog_14_method_118_code 469 = .ok (.sipush 2000, 3) := by decide +kernel
theorem dModel_init_472 : decode prog_14_method_118_code 472 = .ok (.newarray .int, 2) := by decide +kernel
theorem dModel_init_474 : decode prog_14_method_118_code 474 = .ok (.putfield 531, 3) := by decide +kernel
theorem dModel_init_477 : decode prog_14_method_118_code 477 = .ok (.aload_n 0, 1) := by decide +kernel
theorem dModel_init_478 : decode prog_14_method_118_code 478 = .ok (.sipush 2000, 3) := by decide +kernel
theorem dModel_init_481 : decode prog_14_method_118_code 481 = .ok (.newarray .int, 2) := by decide +kernel
theorem dModel_init_483 : decode prog_14_method_118_code 483 = .ok (.putfield 447, 3) := by decide +kernel
theorem dModel_init_486 : decode prog_14_method_118_code 486 = .ok (.aload_n 0, 1) := by decide +kernel
theorem dModel_init_487 : decode prog_14_method_118_code 487 = .ok (.sipush 2000, 3) := by decide +kernel
theorem dModel_init_490 : decode prog_14_method_118_code 490 = .ok (.newarray .int, 2) := by decide +kernel
theorem dModel_init_492 : decode prog_14_method_118_code 492 = .ok (.putfield 604, 3) := by decide +kernel
theorem dModel_init_495 : decode prog_14_method_118_code 495 = .ok (.aload_n 0, 1) := by decide +kernel
theorem dModel_init_496 : decode prog_14_method_118_code 496 = .ok (.sipush 4000, 3) := by decide +kernel
theorem dModel_init_499 : decode prog_14_method_118_code 499 = .ok (.newarray .int, 2) := by decide +kernel
theorem dModel_init_501 : decode prog_14_method_118_code 501 = .ok (.putfield 545, 3) := by decide +kernel
theorem dModel_init_504 : decode prog_14_method_118_code 504 = .ok (.aload_n 0, 1) := by decide +kernel
theorem dModel_init_505 : decode prog_14_method_118_code 505 = .ok (.sipush 4000, 3) := by decide +kernel
theorem dModel_init_508 : decode prog_14_method_118_code 508 = .ok (.newarray .int, 2) := by decide +kernel
theorem dModel_init_510 : decode prog_14_method_118_code 510 = .ok (.putfield 551, 3) := by decide +kernel
theorem dModel_init_513 : decode prog_14_method_118_code 513 = .ok (.aload_n 0, 1) := by decide +kernel
theorem dModel_init_514 : decode prog_14_method_118_code 514 = .ok (.sipush 4000, 3) := by decide +kernel
theorem dModel_init_517 : decode prog_14_method_118_code 517 = .ok (.newarray .int, 2) := by decide +kernel
theorem dModel_init_519 : decode prog_14_method_118_code 519 = .ok (.putfield 557, 3) := by decide +kernel
theorem dModel_init_522 : decode prog_14_method_118_code 522 = .ok (.aload_n 0, 1) := by decide +kernel
theorem dModel_init_523 : decode prog_14_method_118_code 523 = .ok (.sipush 4000, 3) := by decide +kernel
theorem dModel_init_526 : decode prog_14_method_118_code 526 = .ok (.newarray .int, 2) := by decide +kernel
theorem dModel_init_528 : decode prog_14_method_118_code 528 = .ok (.putfield 560, 3) := by decide +kernel
theorem dModel_init_531 : decode prog_14_method_118_code 531 = .ok (.aload_n 0, 1) := by decide +kernel
theorem dModel_init_532 : decode prog_14_method_118_code 532 = .ok (.sipush 4000, 3) := by decide +kernel
theorem dModel_init_535 : decode prog_14_method_118_code 535 = .ok (.newarray .int, 2) := by decide +kernel
theorem dModel_init_537 : decode prog_14_method_118_code 537 = .ok (.putfield 563, 3) := by decide +kernel
theorem dModel_init_540 : decode prog_14_method_118_code 540 = .ok (.aload_n 0, 1) := by decide +kernel
theorem dModel_init_541 : decode prog_14_method_118_code 541 = .ok (.sipush 4000, 3) := by decide +kernel
theorem dModel_init_544 : decode prog_14_method_118_code 544 = .ok (.newarray .int, 2) := by decide +kernel
theorem dModel_init_546 : decode prog_14_method_118_code 546 = .ok (.putfield 566, 3) := by decide +kernel
theorem dModel_init_549 : decode prog_14_method_118_code 549 = .ok (.aload_n 0, 1) := by decide +kernel
theorem dModel_init_550 : decode prog_14_method_118_code 550 = .ok (.sipush 4000, 3) := by decide +kernel
theorem dModel_init_553 : decode prog_14_method_118_code 553 = .ok (.newarray .int, 2) := by decide +kernel
theorem dModel_init_555 : decode prog_14_method_118_code 555 = .ok (.putfield 569, 3) := by decide +kernel
theorem dModel_init_558 : decode prog_14_method_118_code 558 = .ok (.aload_n 0, 1) := by decide +kernel
theorem dModel_init_559 : decode prog_14_method_118_code 559 = .ok (.sipush 2000, 3) := by decide +kernel
theorem dModel_init_562 : decode prog_14_method_118_code 562 = .ok (.newarray .boolean, 2) := by decide +kernel
theorem dModel_init_564 : decode prog_14_method_118_code 564 = .ok (.putfield 534, 3) := by decide +kernel
theorem dModel_init_567 : decode prog_14_method_118_code 567 = .ok (.aload_n 0, 1) := by decide +kernel
theorem dModel_init_568 : decode prog_14_method_118_code 568 = .ok (.sipush 2000, 3) := by decide +kernel
theorem dModel_init_571 : decode prog_14_method_118_code 571 = .ok (.newarray .boolean, 2) := by decide +kernel
theorem dModel_init_573 : decode prog_14_method_118_code 573 = .ok (.putfield 450, 3) := by decide +kernel
theorem dModel_init_576 : decode prog_14_method_118_code 576 = .ok (.aload_n 0, 1) := by decide +kernel
theorem dModel_init_577 : decode prog_14_method_118_code 577 = .ok (.sipush 4000, 3) := by decide +kernel
theorem dModel_init_580 : decode prog_14_method_118_code 580 = .ok (.newarray .boolean, 2) := by decide +kernel
theorem dModel_init_582 : decode prog_14_method_118_code 582 = .ok (.putfield 554, 3) := by decide +kernel
theorem dModel_init_585 : decode prog_14_method_118_code 585 = .ok (.aload_n 0, 1) := by decide +kernel
theorem dModel_init_586 : decode prog_14_method_118_code 586 = .ok (.bipush 6, 2) := by decide +kernel
theorem dModel_init_588 : decode prog_14_method_118_code 588 = .ok (.newarray .long, 2) := by decide +kernel
theorem dModel_init_590 : decode prog_14_method_118_code 590 = .ok (.putfield 578, 3) := by decide +kernel
theorem dModel_init_593 : decode prog_14_method_118_code 593 = .ok (.aload_n 0, 1) := by decide +kernel
theorem dModel_init_594 : decode prog_14_method_118_code 594 = .ok (.bipush 6, 2) := by decide +kernel
theorem dModel_init_596 : decode prog_14_method_118_code 596 = .ok (.newarray .long, 2) := by decide +kernel
theorem dModel_init_598 : decode prog_14_method_118_code 598 = .ok (.putfield 691, 3) := by decide +kernel
theorem dModel_init_601 : decode prog_14_method_118_code 601 = .ok (.aload_n 0, 1) := by decide +kernel
theorem dModel_init_602 : decode prog_14_method_118_code 602 = .ok (.bipush 6, 2) := by decide +kernel
theorem dModel_init_604 : decode prog_14_method_118_code 604 = .ok (.newarray .int, 2) := by decide +kernel
theorem dModel_init_606 : decode prog_14_method_118_code 606 = .ok (.putfield 688, 3) := by decide +kernel
theorem dModel_init_609 : decode prog_14_method_118_code 609 = .ok (.aload_n 0, 1) := by decide +kernel
theorem dModel_init_610 : decode prog_14_method_118_code 610 = .ok (.sipush 1440, 3) := by decide +kernel
theorem dModel_init_613 : decode prog_14_method_118_code 613 = .ok (.newarray .int, 2) := by decide +kernel
theorem dModel_init_615 : decode prog_14_method_118_code 615 = .ok (.putfield 745, 3) := by decide +kernel
theorem dModel_init_618 : decode prog_14_method_118_code 618 = .ok (.aload_n 0, 1) := by decide +kernel
theorem dModel_init_619 : decode prog_14_method_118_code 619 = .ok (.sipush 1440, 3) := by decide +kernel
theorem dModel_init_622 : decode prog_14_method_118_code 622 = .ok (.newarray .int, 2) := by decide +kernel
theorem dModel_init_624 : decode prog_14_method_118_code 624 = .ok (.putfield 748, 3) := by decide +kernel
theorem dModel_init_627 : decode prog_14_method_118_code 627 = .ok (.aload_n 0, 1) := by decide +kernel
theorem dModel_init_628 : decode prog_14_method_118_code 628 = .ok (.sipush 3600, 3) := by decide +kernel
theorem dModel_init_631 : decode prog_14_method_118_code 631 = .ok (.newarray .int, 2) := by decide +kernel
theorem dModel_init_633 : decode prog_14_method_118_code 633 = .ok (.putfield 751, 3) := by decide +kernel
theorem dModel_init_636 : decode prog_14_method_118_code 636 = .ok (.aload_n 0, 1) := by decide +kernel
theorem dModel_init_637 : decode prog_14_method_118_code 637 = .ok (.sipush 1440, 3) := by decide +kernel
theorem dModel_init_640 : decode prog_14_method_118_code 640 = .ok (.newarray .int, 2) := by decide +kernel
theorem dModel_init_642 : decode prog_14_method_118_code 642 = .ok (.putfield 757, 3) := by decide +kernel
theorem dModel_init_645 : decode prog_14_method_118_code 645 = .ok (.aload_n 0, 1) := by decide +kernel
theorem dModel_init_646 : decode prog_14_method_118_code 646 = .ok (.sipush 1440, 3) := by decide +kernel
theorem dModel_init_649 : decode prog_14_method_118_code 649 = .ok (.newarray .long, 2) := by decide +kernel
theorem dModel_init_651 : decode prog_14_method_118_code 651 = .ok (.putfield 754, 3) := by decide +kernel
theorem dModel_init_654 : decode prog_14_method_118_code 654 = .ok (.aload_n 0, 1) := by decide +kernel
theorem dModel_init_655 : decode prog_14_method_118_code 655 = .ok (.sipush 1440, 3) := by decide +kernel
theorem dModel_init_658 : decode prog_14_method_118_code 658 = .ok (.newarray .long, 2) := by decide +kernel
theorem dModel_init_660 : decode prog_14_method_118_code 660 = .ok (.putfield 760, 3) := by decide +kernel
theorem dModel_init_663 : decode prog_14_method_118_code 663 = .ok (.aload_n 0, 1) := by decide +kernel
theorem dModel_init_664 : decode prog_14_method_118_code 664 = .ok (.iconst 2, 1) := by decide +kernel
theorem dModel_init_665 : decode prog_14_method_118_code 665 = .ok (.newarray .long, 2) := by decide +kernel
theorem dModel_init_667 : decode prog_14_method_118_code 667 = .ok (.putfield 786, 3) := by decide +kernel
theorem dModel_init_670 : decode prog_14_method_118_code 670 = .ok (.aload_n 0, 1) := by decide +kernel
theorem dModel_init_671 : decode prog_14_method_118_code 671 = .ok (.iconst 2, 1) := by decide +kernel
theorem dModel_init_672 : decode prog_14_method_118_code 672 = .ok (.newarray .long, 2) := by decide +kernel
theorem dModel_init_674 : decode prog_14_method_118_code 674 = .ok (.putfield 789, 3) := by decide +kernel
theorem dModel_init_677 : decode prog_14_method_118_code 677 = .ok (.aload_n 0, 1) := by decide +kernel
theorem dModel_init_678 : decode prog_14_method_118_code 678 = .ok (.iconst 2, 1) := by decide +kernel
theorem dModel_init_679 : decode prog_14_method_118_code 679 = .ok (.newarray .long, 2) := by decide +kernel
theorem dModel_init_681 : decode prog_14_method_118_code 681 = .ok (.putfield 792, 3) := by decide +kernel
theorem dModel_init_684 : decode prog_14_method_118_code 684 = .ok (.aload_n 0, 1) := by decide +kernel
theorem dModel_init_685 : decode prog_14_method_118_code 685 = .ok (.iconst 2, 1) := by decide +kernel
theorem dModel_init_686 : decode prog_14_method_118_code 686 = .ok (.newarray .long, 2) := by decide +kernel
theorem dModel_init_688 : decode prog_14_method_118_code 688 = .ok (.putfield 795, 3) := by decide +kernel
theorem dModel_init_691 : decode prog_14_method_118_code 691 = .ok (.aload_n 0, 1) := by decide +kernel
theorem dModel_init_692 : decode prog_14_method_118_code 692 = .ok (.sipush 2000, 3) := by decide +kernel
theorem dModel_init_695 : decode prog_14_method_118_code 695 = .ok (.newarray .int, 2) := by decide +kernel
theorem dModel_init_697 : decode prog_14_method_118_code 697 = .ok (.putfield 808, 3) := by decide +kernel
theorem dModel_init_700 : decode prog_14_method_118_code 700 = .ok (.aload_n 0, 1) := by decide +kernel
theorem dModel_init_701 : decode prog_14_method_118_code 701 = .ok (.sipush 2000, 3) := by decide +kernel
theorem dModel_init_704 : decode prog_14_method_118_code 704 = .ok (.newarray .int, 2) := by decide +kernel
theorem dModel_init_706 : decode prog_14_method_118_code 706 = .ok (.putfield 815, 3) := by decide +kernel
theorem dModel_init_709 : decode prog_14_method_118_code 709 = .ok (.aload_n 0, 1) := by decide +kernel
theorem dModel_init_710 : decode prog_14_method_118_code 710 = .ok (.sipush 2000, 3) := by decide +kernel
theorem dModel_init_713 : decode prog_14_method_118_code 713 = .ok (.newarray .int, 2) := by decide +kernel
theorem dModel_init_715 : decode prog_14_method_118_code 715 = .ok (.putfield 818, 3) := by decide +kernel
theorem dModel_init_718 : decode prog_14_method_118_code 718 = .ok (.aload_n 0, 1) := by decide +kernel
theorem dModel_init_719 : decode prog_14_method_118_code 719 = .ok (.sipush 2000, 3) := by decide +kernel
theorem dModel_init_722 : decode prog_14_method_118_code 722 = .ok (.newarray .int, 2) := by decide +kernel
theorem dModel_init_724 : decode prog_14_method_118_code 724 = .ok (.putfield 821, 3) := by decide +kernel
theorem dModel_init_727 : decode prog_14_method_118_code 727 = .ok (.aload_n 0, 1) := by decide +kernel
theorem dModel_init_728 : decode prog_14_method_118_code 728 = .ok (.sipush 2000, 3) := by decide +kernel
theorem dModel_init_731 : decode prog_14_method_118_code 731 = .ok (.newarray .int, 2) := by decide +kernel
theorem dModel_init_733 : decode prog_14_method_118_code 733 = .ok (.putfield 824, 3) := by decide +kernel
theorem dModel_init_736 : decode prog_14_method_118_code 736 = .ok (.aload_n 0, 1) := by decide +kernel
theorem dModel_init_737 : decode prog_14_method_118_code 737 = .ok (.sipush 2000, 3) := by decide +kernel
theorem dModel_init_740 : decode prog_14_method_118_code 740 = .ok (.newarray .int, 2) := by decide +kernel
theorem dModel_init_742 : decode prog_14_method_118_code 742 = .ok (.putfield 827, 3) := by decide +kernel
theorem dModel_init_745 : decode prog_14_method_118_code 745 = .ok (.aload_n 0, 1) := by decide +kernel
theorem dModel_init_746 : decode prog_14_method_118_code 746 = .ok (.iconst 3, 1) := by decide +kernel
theorem dModel_init_747 : decode prog_14_method_118_code 747 = .ok (.newarray .int, 2) := by decide +kernel
theorem dModel_init_749 : decode prog_14_method_118_code 749 = .ok (.putfield 840, 3) := by decide +kernel
theorem dModel_init_752 : decode prog_14_method_118_code 752 = .ok (.aload_n 0, 1) := by decide +kernel
theorem dModel_init_753 : decode prog_14_method_118_code 753 = .ok (.iconst 3, 1) := by decide +kernel
theorem dModel_init_754 : decode prog_14_method_118_code 754 = .ok (.newarray .int, 2) := by decide +kernel
theorem dModel_init_756 : decode prog_14_method_118_code 756 = .ok (.putfield 843, 3) := by decide +kernel
theorem dModel_init_759 : decode prog_14_method_118_code 759 = .ok (.aload_n 0, 1) := by decide +kernel
theorem dModel_init_760 : decode prog_14_method_118_code 760 = .ok (.iconst 5, 1) := by decide +kernel
theorem dModel_init_761 : decode prog_14_method_118_code 761 = .ok (.newarray .int, 2) := by decide +kernel
theorem dModel_init_763 : decode prog_14_method_118_code 763 = .ok (.putfield 846, 3) := by decide +kernel
theorem dModel_init_766 : decode prog_14_method_118_code 766 = .ok (.aload_n 0, 1) := by decide +kernel
theorem dModel_init_767 : decode prog_14_method_118_code 767 = .ok (.bipush 18, 2) := by decide +kernel
theorem dModel_init_769 : decode prog_14_method_118_code 769 = .ok (.newarray .int, 2) := by decide +kernel
theorem dModel_init_771 : decode prog_14_method_118_code 771 = .ok (.putfield 849, 3) := by decide +kernel
theorem dModel_init_774 : decode prog_14_method_118_code 774 = .ok (.aload_n 0, 1) := by decide +kernel
theorem dModel_init_775 : decode prog_14_method_118_code 775 = .ok (.bipush 6, 2) := by decide +kernel
theorem dModel_init_777 : decode prog_14_method_118_code 777 = .ok (.newarray .int, 2) := by decide +kernel
theorem dModel_init_779 : decode prog_14_method_118_code 779 = .ok (.putfield 852, 3) := by decide +kernel
theorem dModel_init_782 : decode prog_14_method_118_code 782 = .ok (.aload_n 0, 1) := by decide +kernel
theorem dModel_init_783 : decode prog_14_method_118_code 783 = .ok (.sipush 1440, 3) := by decide +kernel
theorem dModel_init_786 : decode prog_14_method_118_code 786 = .ok (.newarray .int, 2) := by decide +kernel
theorem dModel_init_788 : decode prog_14_method_118_code 788 = .ok (.putfield 862, 3) := by decide +kernel
theorem dModel_init_791 : decode prog_14_method_118_code 791 = .ok (.aload_n 0, 1) := by decide +kernel
theorem dModel_init_792 : decode prog_14_method_118_code 792 = .ok (.sipush 1440, 3) := by decide +kernel
theorem dModel_init_795 : decode prog_14_method_118_code 795 = .ok (.newarray .int, 2) := by decide +kernel
theorem dModel_init_797 : decode prog_14_method_118_code 797 = .ok (.putfield 865, 3) := by decide +kernel
theorem dModel_init_800 : decode prog_14_method_118_code 800 = .ok (.aload_n 0, 1) := by decide +kernel
theorem dModel_init_801 : decode prog_14_method_118_code 801 = .ok (.sipush 3600, 3) := by decide +kernel
theorem dModel_init_804 : decode prog_14_method_118_code 804 = .ok (.newarray .int, 2) := by decide +kernel
theorem dModel_init_806 : decode prog_14_method_118_code 806 = .ok (.putfield 868, 3) := by decide +kernel
theorem dModel_init_809 : decode prog_14_method_118_code 809 = .ok (.aload_n 0, 1) := by decide +kernel
theorem dModel_init_810 : decode prog_14_method_118_code 810 = .ok (.sipush 1440, 3) := by decide +kernel
theorem dModel_init_813 : decode prog_14_method_118_code 813 = .ok (.newarray .int, 2) := by decide +kernel
theorem dModel_init_815 : decode prog_14_method_118_code 815 = .ok (.putfield 871, 3) := by decide +kernel
theorem dModel_init_818 : decode prog_14_method_118_code 818 = .ok (.aload_n 0, 1) := by decide +kernel
theorem dModel_init_819 : decode prog_14_method_118_code 819 = .ok (.sipush 2000, 3) := by decide +kernel
theorem dModel_init_822 : decode prog_14_method_118_code 822 = .ok (.newarray .boolean, 2) := by decide +kernel
theorem dModel_init_824 : decode prog_14_method_118_code 824 = .ok (.putfield 830, 3) := by decide +kernel
theorem dModel_init_827 : decode prog_14_method_118_code 827 = .ok (.aload_n 0, 1) := by decide +kernel
theorem dModel_init_828 : decode prog_14_method_118_code 828 = .ok (.sipush 2000, 3) := by decide +kernel
theorem dModel_init_831 : decode prog_14_method_118_code 831 = .ok (.newarray .boolean, 2) := by decide +kernel
theorem dModel_init_833 : decode prog_14_method_118_code 833 = .ok (.putfield 837, 3) := by decide +kernel
theorem dModel_init_836 : decode prog_14_method_118_code 836 = .ok (.aload_n 0, 1) := by decide +kernel
theorem dModel_init_837 : decode prog_14_method_118_code 837 = .ok (.bipush 6, 2) := by decide +kernel
theorem dModel_init_839 : decode prog_14_method_118_code 839 = .ok (.newarray .long, 2) := by decide +kernel
theorem dModel_init_841 : decode prog_14_method_118_code 841 = .ok (.putfield 855, 3) := by decide +kernel
theorem dModel_init_844 : decode prog_14_method_118_code 844 = .ok (.aload_n 0, 1) := by decide +kernel
theorem dModel_init_845 : decode prog_14_method_118_code 845 = .ok (.sipush 1440, 3) := by decide +kernel
theorem dModel_init_848 : decode prog_14_method_118_code 848 = .ok (.newarray .long, 2) := by decide +kernel
theorem dModel_init_850 : decode prog_14_method_118_code 850 = .ok (.putfield 874, 3) := by decide +kernel
theorem dModel_init_853 : decode prog_14_method_118_code 853 = .ok (.aload_n 0, 1) := by decide +kernel
theorem dModel_init_854 : decode prog_14_method_118_code 854 = .ok (.sipush 1440, 3) := by decide +kernel
theorem dModel_init_857 : decode prog_14_method_118_code 857 = .ok (.newarray .long, 2) := by decide +kernel
theorem dModel_init_859 : decode prog_14_method_118_code 859 = .ok (.putfield 877, 3) := by decide +kernel
theorem dModel_init_862 : decode prog_14_method_118_code 862 = .ok (.aload_n 0, 1) := by decide +kernel
theorem dModel_init_863 : decode prog_14_method_118_code 863 = .ok (.bipush 8, 2) := by decide +kernel
theorem dModel_init_865 : decode prog_14_method_118_code 865 = .ok (.newarray .long, 2) := by decide +kernel
theorem dModel_init_867 : decode prog_14_method_118_code 867 = .ok (.putfield 880, 3) := by decide +kernel
theorem dModel_init_870 : decode prog_14_method_118_code 870 = .ok (.iconst 0, 1) := by decide +kernel
theorem dModel_init_871 : decode prog_14_method_118_code 871 = .ok (.istore_n 1, 1) := by decide +kernel
theorem dModel_init_872 : decode prog_14_method_118_code 872 = .ok (.iload_n 1, 1) := by decide +kernel
theorem dModel_init_873 : decode prog_14_method_118_code 873 = .ok (.bipush 60, 2) := by decide +kernel
theorem dModel_init_875 : decode prog_14_method_118_code 875 = .ok (.if_icmp .ge 16, 3) := by decide +kernel
theorem dModel_init_878 : decode prog_14_method_118_code 878 = .ok (.aload_n 0, 1) := by decide +kernel
theorem dModel_init_879 : decode prog_14_method_118_code 879 = .ok (.getfield 285, 3) := by decide +kernel
theorem dModel_init_882 : decode prog_14_method_118_code 882 = .ok (.iload_n 1, 1) := by decide +kernel
theorem dModel_init_883 : decode prog_14_method_118_code 883 = .ok (.iconst (-1), 1) := by decide +kernel
theorem dModel_init_884 : decode prog_14_method_118_code 884 = .ok (.iastore, 1) := by decide +kernel
theorem dModel_init_885 : decode prog_14_method_118_code 885 = .ok (.iinc 1 1, 3) := by decide +kernel
theorem dModel_init_888 : decode prog_14_method_118_code 888 = .ok (.goto (-16), 3) := by decide +kernel
theorem dModel_init_891 : decode prog_14_method_118_code 891 = .ok (.aload_n 0, 1) := by decide +kernel
theorem dModel_init_892 : decode prog_14_method_118_code 892 = .ok (.invokevirtual 175, 3) := by decide +kernel
theorem dModel_init_895 : decode prog_14_method_118_code 895 = .ok (.return_, 1) := by decide +kernel
theorem dCharacter_isValidCodePoint_9a6ad_0 : decode prog_15_method_11_code 0 = .ok (.iload_n 0, 1) := by decide +kernel
theorem dCharacter_isValidCodePoint_9a6ad_1 : decode prog_15_method_11_code 1 = .ok (.bipush 16, 2) := by decide +kernel
theorem dCharacter_isValidCodePoint_9a6ad_3 : decode prog_15_method_11_code 3 = .ok (.iushr, 1) := by decide +kernel
theorem dCharacter_isValidCodePoint_9a6ad_4 : decode prog_15_method_11_code 4 = .ok (.istore_n 1, 1) := by decide +kernel
theorem dCharacter_isValidCodePoint_9a6ad_5 : decode prog_15_method_11_code 5 = .ok (.iload_n 1, 1) := by decide +kernel
theorem dCharacter_isValidCodePoint_9a6ad_6 : decode prog_15_method_11_code 6 = .ok (.bipush 17, 2) := by decide +kernel
theorem dCharacter_isValidCodePoint_9a6ad_8 : decode prog_15_method_11_code 8 = .ok (.if_icmp .ge 7, 3) := by decide +kernel
theorem dCharacter_isValidCodePoint_9a6ad_11 : decode prog_15_method_11_code 11 = .ok (.iconst 1, 1) := by decide +kernel
theorem dCharacter_isValidCodePoint_9a6ad_12 : decode prog_15_method_11_code 12 = .ok (.goto 4, 3) := by decide +kernel
theorem dCharacter_isValidCodePoint_9a6ad_15 : decode prog_15_method_11_code 15 = .ok (.iconst 0, 1) := by decide +kernel
theorem dCharacter_isValidCodePoint_9a6ad_16 : decode prog_15_method_11_code 16 = .ok (.ireturn, 1) := by decide +kernel
theorem dCharacter_highSurrogate_5068e_0 : decode prog_15_method_28_code 0 = .ok (.iload_n 0, 1) := by decide +kernel
theorem dCharacter_highSurrogate_5068e_1 : decode prog_15_method_28_code 1 = .ok (.bipush 10, 2) := by decide +kernel
theorem dCharacter_highSurrogate_5068e_3 : decode prog_15_method_28_code 3 = .ok (.iushr, 1) := by decide +kernel
theorem dCharacter_highSurrogate_5068e_4 : decode prog_15_method_28_code 4 = .ok (.ldc 110, 2) := by decide +kernel
theorem dCharacter_highSurrogate_5068e_6 : decode prog_15_method_28_code 6 = .ok (.iadd, 1) := by decide +kernel
theorem dCharacter_highSurrogate_5068e_7 : decode prog_15_method_28_code 7 = .ok (.i2c, 1) := by decide +kernel
theorem dCharacter_highSurrogate_5068e_8 : decode prog_15_method_28_code 8 = .ok (.ireturn, 1) := by decide +kernel
theorem dCharacter_lowSurrogate_5068e_0 : decode prog_15_method_29_code 0 = .ok (.iload_n 0, 1) := by decide +kernel
theorem dCharacter_lowSurrogate_5068e_1 : decode prog_15_method_29_code 1 = .ok (.sipush 1023, 3) := by decide +kernel
theorem dCharacter_lowSurrogate_5068e_4 : decode prog_15_method_29_code 4 = .ok (.iand, 1) := by decide +kernel
theorem dCharacter_lowSurrogate_5068e_5 : decode prog_15_method_29_code 5 = .ok (.ldc 76, 2) := by decide +kernel
theorem dCharacter_lowSurrogate_5068e_7 : decode prog_15_method_29_code 7 = .ok (.iadd, 1) := by decide +kernel
theorem dCharacter_lowSurrogate_5068e_8 : decode prog_15_method_29_code 8 = .ok (.i2c, 1) := by decide +kernel
theorem dCharacter_lowSurrogate_5068e_9 : decode prog_15_method_29_code 9 = .ok (.ireturn, 1) := by decide +kernel
theorem dLong_compare_74951_0 : decode prog_16_method_42_code 0 = .ok (.lload_n 0, 1) := by decide +kernel
theorem dLong_compare_74951_1 : decode prog_16_method_42_code 1 = .ok (.lload_n 2, 1) := by decide +kernel
theorem dLong_compare_74951_2 : decode prog_16_method_42_code 2 = .ok (.lcmp, 1) := by decide +kernel
theorem dLong_compare_74951_3 : decode prog_16_method_42_code 3 = .ok (.ifCond .ge 7, 3) := by decide +kernel
theorem dLong_compare_74951_6 : decode prog_16_method_42_code 6 = .ok (.iconst (-1), 1) := by decide +kernel
theorem dLong_compare_74951_7 : decode prog_16_method_42_code 7 = .ok (.goto 14, 3) := by decide +kernel
theorem dLong_compare_74951_10 : decode prog_16_method_42_code 10 = .ok (.lload_n 0, 1) := by decide +kernel
theorem dLong_compare_74951_11 : decode prog_16_method_42_code 11 = .ok (.lload_n 2, 1) := by decide +kernel
theorem dLong_compare_74951_12 : decode prog_16_method_42_code 12 = .ok (.lcmp, 1) := by decide +kernel
theorem dLong_compare_74951_13 : decode prog_16_method_42_code 13 = .ok (.ifCond .ne 7, 3) := by decide +kernel
theorem dLong_compare_74951_16 : decode prog_16_method_42_code 16 = .ok (.iconst 0, 1) := by decide +kernel
theorem dLong_compare_74951_17 : decode prog_16_method_42_code 17 = .ok (.goto 4, 3) := by decide +kernel
theorem dLong_compare_74951_20 : decode prog_16_method_42_code 20 = .ok (.iconst 1, 1) := by decide +kernel
theorem dLong_compare_74951_21 : decode prog_16_method_42_code 21 = .ok (.ireturn, 1) := by decide +kernel
theorem dMath_abs_0f7a4_0 : decode prog_17_method_59_code 0 = .ok (.iload_n 0, 1) := by decide +kernel
theorem dMath_abs_0f7a4_1 : decode prog_17_method_59_code 1 = .ok (.ifCond .ge 8, 3) := by decide +kernel
theorem dMath_abs_0f7a4_4 : decode prog_17_method_59_code 4 = .ok (.iload_n 0, 1) := by decide +kernel
theorem dMath_abs_0f7a4_5 : decode prog_17_method_59_code 5 = .ok (.ineg, 1) := by decide +kernel
theorem dMath_abs_0f7a4_6 : decode prog_17_method_59_code 6 = .ok (.goto 4, 3) := by decide +kernel
theorem dMath_abs_0f7a4_9 : decode prog_17_method_59_code 9 = .ok (.iload_n 0, 1) := by decide +kernel
theorem dMath_abs_0f7a4_10 : decode prog_17_method_59_code 10 = .ok (.ireturn, 1) := by decide +kernel
theorem dMath_max_7cf53_0 : decode prog_17_method_65_code 0 = .ok (.iload_n 0, 1) := by decide +kernel
theorem dMath_max_7cf53_1 : decode prog_17_method_65_code 1 = .ok (.iload_n 1, 1) := by decide +kernel
theorem dMath_max_7cf53_2 : decode prog_17_method_65_code 2 = .ok (.if_icmp .lt 7, 3) := by decide +kernel
theorem dMath_max_7cf53_5 : decode prog_17_method_65_code 5 = .ok (.iload_n 0, 1) := by decide +kernel
theorem dMath_max_7cf53_6 : decode prog_17_method_65_code 6 = .ok (.goto 4, 3) := by decide +kernel
theorem dMath_max_7cf53_9 : decode prog_17_method_65_code 9 = .ok (.iload_n 1, 1) := by decide +kernel
theorem dMath_max_7cf53_10 : decode prog_17_method_65_code 10 = .ok (.ireturn, 1) := by decide +kernel
theorem dMath_max_f86c9_0 : decode prog_17_method_66_code 0 = .ok (.lload_n 0, 1) := by decide +kernel
theorem dMath_max_f86c9_1 : decode prog_17_method_66_code 1 = .ok (.lload_n 2, 1) := by decide +kernel
theorem dMath_max_f86c9_2 : decode prog_17_method_66_code 2 = .ok (.lcmp, 1) := by decide +kernel
theorem dMath_max_f86c9_3 : decode prog_17_method_66_code 3 = .ok (.ifCond .lt 7, 3) := by decide +kernel
theorem dMath_max_f86c9_6 : decode prog_17_method_66_code 6 = .ok (.lload_n 0, 1) := by decide +kernel
theorem dMath_max_f86c9_7 : decode prog_17_method_66_code 7 = .ok (.goto 4, 3) := by decide +kernel
theorem dMath_max_f86c9_10 : decode prog_17_method_66_code 10 = .ok (.lload_n 2, 1) := by decide +kernel
theorem dMath_max_f86c9_11 : decode prog_17_method_66_code 11 = .ok (.lreturn, 1) := by decide +kernel
theorem dMath_min_7cf53_0 : decode prog_17_method_69_code 0 = .ok (.iload_n 0, 1) := by decide +kernel
theorem dMath_min_7cf53_1 : decode prog_17_method_69_code 1 = .ok (.iload_n 1, 1) := by decide +kernel
theorem dMath_min_7cf53_2 : decode prog_17_method_69_code 2 = .ok (.if_icmp .gt 7, 3) := by decide +kernel
theorem dMath_min_7cf53_5 : decode prog_17_method_69_code 5 = .ok (.iload_n 0, 1) := by decide +kernel
theorem dMath_min_7cf53_6 : decode prog_17_method_69_code 6 = .ok (.goto 4, 3) := by decide +kernel
theorem dMath_min_7cf53_9 : decode prog_17_method_69_code 9 = .ok (.iload_n 1, 1) := by decide +kernel
theorem dMath_min_7cf53_10 : decode prog_17_method_69_code 10 = .ok (.ireturn, 1) := by decide +kernel
theorem dMath_min_f86c9_0 : decode prog_17_method_70_code 0 = .ok (.lload_n 0, 1) := by decide +kernel
theorem dMath_min_f86c9_1 : decode prog_17_method_70_code 1 = .ok (.lload_n 2, 1) := by decide +kernel
theorem dMath_min_f86c9_2 : decode prog_17_method_70_code 2 = .ok (.lcmp, 1) := by decide +kernel
theorem dMath_min_f86c9_3 : decode prog_17_method_70_code 3 = .ok (.ifCond .gt 7, 3) := by decide +kernel
theorem dMath_min_f86c9_6 : decode prog_17_method_70_code 6 = .ok (.lload_n 0, 1) := by decide +kernel
theorem dMath_min_f86c9_7 : decode prog_17_method_70_code 7 = .ok (.goto 4, 3) := by decide +kernel
theorem dMath_min_f86c9_10 : decode prog_17_method_70_code 10 = .ok (.lload_n 2, 1) := by decide +kernel
theorem dMath_min_f86c9_11 : decode prog_17_method_70_code 11 = .ok (.lreturn, 1) := by decide +kernel
theorem dString_length_8abf5_0 : decode prog_18_method_54_code 0 = .ok (.aload_n 0, 1) := by decide +kernel
theorem dString_length_8abf5_1 : decode prog_18_method_54_code 1 = .ok (.getfield 9, 3) := by decide +kernel
theorem dString_length_8abf5_4 : decode prog_18_method_54_code 4 = .ok (.arraylength, 1) := by decide +kernel
theorem dString_length_8abf5_5 : decode prog_18_method_54_code 5 = .ok (.aload_n 0, 1) := by decide +kernel
theorem dString_length_8abf5_6 : decode prog_18_method_54_code 6 = .ok (.invokevirtual 335, 3) := by decide +kernel
theorem dString_length_8abf5_9 : decode prog_18_method_54_code 9 = .ok (.ishr, 1) := by decide +kernel
theorem dString_length_8abf5_10 : decode prog_18_method_54_code 10 = .ok (.ireturn, 1) := by decide +kernel
theorem dString_charAt_5068e_0 : decode prog_18_method_56_code 0 = .ok (.aload_n 0, 1) := by decide +kernel
theorem dString_charAt_5068e_1 : decode prog_18_method_56_code 1 = .ok (.invokevirtual 492, 3) := by decide +kernel
theorem dString_charAt_5068e_4 : decode prog_18_method_56_code 4 = .ok (.ifCond .eq 12, 3) := by decide +kernel
theorem dString_charAt_5068e_7 : decode prog_18_method_56_code 7 = .ok (.aload_n 0, 1) := by decide +kernel
theorem dString_charAt_5068e_8 : decode prog_18_method_56_code 8 = .ok (.getfield 9, 3) := by decide +kernel
theorem dString_charAt_5068e_11 : decode prog_18_method_56_code 11 = .ok (.iload_n 1, 1) := by decide +kernel
theorem dString_charAt_5068e_12 : decode prog_18_method_56_code 12 = .ok (.invokestatic 495, 3) := by decide +kernel
theorem dString_charAt_5068e_15 : decode prog_18_method_56_code 15 = .ok (.ireturn, 1) := by decide +kernel
theorem dString_charAt_5068e_16 : decode prog_18_method_56_code 16 = .ok (.aload_n 0, 1) := by decide +kernel
theorem dString_charAt_5068e_17 : decode prog_18_method_56_code 17 = .ok (.getfield 9, 3) := by decide +kernel
theorem dString_charAt_5068e_20 : decode prog_18_method_56_code 20 = .ok (.iload_n 1, 1) := by decide +kernel
theorem dString_charAt_5068e_21 : decode prog_18_method_56_code 21 = .ok (.invokestatic 498, 3) := by decide +kernel
theorem dString_charAt_5068e_24 : decode prog_18_method_56_code 24 = .ok (.ireturn, 1) := by decide +kernel
theorem dString_indexOf_0f7a4_0 : decode prog_18_method_79_code 0 = .ok (.aload_n 0, 1) := by decide +kernel
theorem dString_indexOf_0f7a4_1 : decode prog_18_method_79_code 1 = .ok (.iload_n 1, 1) := by decide +kernel
theorem dString_indexOf_0f7a4_2 : decode prog_18_method_79_code 2 = .ok (.iconst 0, 1) := by decide +kernel
theorem dString_indexOf_0f7a4_3 : decode prog_18_method_79_code 3 = .ok (.invokevirtual 633, 3) := by decide +kernel
theorem dString_indexOf_0f7a4_6 : decode prog_18_method_79_code 6 = .ok (.ireturn, 1) := by decide +kernel
theorem dString_indexOf_7cf53_0 : decode prog_18_method_80_code 0 = .ok (.aload_n 0, 1) := by decide +kernel
theorem dString_indexOf_7cf53_1 : decode prog_18_method_80_code 1 = .ok (.invokevirtual 492, 3) := by decide +kernel
theorem dString_indexOf_7cf53_4 : decode prog_18_method_80_code 4 = .ok (.ifCond .eq 19, 3) := by decide +kernel
theorem dString_indexOf_7cf53_7 : decode prog_18_method_80_code 7 = .ok (.aload_n 0, 1) := by decide +kernel
theorem dString_indexOf_7cf53_8 : decode prog_18_method_80_code 8 = .ok (.getfield 9, 3) := by decide +kernel
theorem dString_indexOf_7cf53_11 : decode prog_18_method_80_code 11 = .ok (.iload_n 1, 1) := by decide +kernel
theorem dString_indexOf_7cf53_12 : decode prog_18_method_80_code 12 = .ok (.iload_n 2, 1) := by decide +kernel
theorem dString_indexOf_7cf53_13 : decode prog_18_method_80_code 13 = .ok (.aload_n 0, 1) := by decide +kernel
theorem dString_indexOf_7cf53_14 : decode prog_18_method_80_code 14 = .ok (.invokevirtual 505, 3) := by decide +kernel
theorem dString_indexOf_7cf53_17 : decode prog_18_method_80_code 17 = .ok (.invokestatic 637, 3) := by decide +kernel
theorem dString_indexOf_7cf53_20 : decode prog_18_method_80_code 20 = .ok (.goto 16, 3) := by decide +kernel
theorem dString_indexOf_7cf53_23 : decode prog_18_method_80_code 23 = .ok (.aload_n 0, 1) := by decide +kernel
theorem dString_indexOf_7cf53_24 : decode prog_18_method_80_code 24 = .ok (.getfield 9, 3) := by decide +kernel
theorem dString_indexOf_7cf53_27 : decode prog_18_method_80_code 27 = .ok (.iload_n 1, 1) := by decide +kernel
theorem dString_indexOf_7cf53_28 : decode prog_18_method_80_code 28 = .ok (.iload_n 2, 1) := by decide +kernel
theorem dString_indexOf_7cf53_29 : decode prog_18_method_80_code 29 = .ok (.aload_n 0, 1) := by decide +kernel
theorem dString_indexOf_7cf53_30 : decode prog_18_method_80_code 30 = .ok (.invokevirtual 505, 3) := by decide +kernel
theorem dString_indexOf_7cf53_33 : decode prog_18_method_80_code 33 = .ok (.invokestatic 640, 3) := by decide +kernel
theorem dString_indexOf_7cf53_36 : decode prog_18_method_80_code 36 = .ok (.ireturn, 1) := by decide +kernel
theorem dString_coder_7d493_0 : decode prog_18_method_152_code 0 = .ok (.getstatic 38, 3) := by decide +kernel
theorem dString_coder_7d493_3 : decode prog_18_method_152_code 3 = .ok (.ifCond .eq 10, 3) := by decide +kernel
theorem dString_coder_7d493_6 : decode prog_18_method_152_code 6 = .ok (.aload_n 0, 1) := by decide +kernel
theorem dString_coder_7d493_7 : decode prog_18_method_152_code 7 = .ok (.getfield 15, 3) := by decide +kernel
theorem dString_coder_7d493_10 : decode prog_18_method_152_code 10 = .ok (.goto 4, 3) := by decide +kernel
theorem dString_coder_7d493_13 : decode prog_18_method_152_code 13 = .ok (.iconst 1, 1) := by decide +kernel
theorem dString_coder_7d493_14 : decode prog_18_method_152_code 14 = .ok (.ireturn, 1) := by decide +kernel
theorem dString_isLatin1_aae02_0 : decode prog_18_method_154_code 0 = .ok (.getstatic 38, 3) := by decide +kernel
theorem dString_isLatin1_aae02_3 : decode prog_18_method_154_code 3 = .ok (.ifCond .eq 14, 3) := by decide +kernel
theorem dString_isLatin1_aae02_6 : decode prog_18_method_154_code 6 = .ok (.aload_n 0, 1) := by decide +kernel
theorem dString_isLatin1_aae02_7 : decode prog_18_method_154_code 7 = .ok (.getfield 15, 3) := by decide +kernel
theorem dString_isLatin1_aae02_10 : decode prog_18_method_154_code 10 = .ok (.ifCond .ne 7, 3) := by decide +kernel
theorem dString_isLatin1_aae02_13 : decode prog_18_method_154_code 13 = .ok (.iconst 1, 1) := by decide +kernel
theorem dString_isLatin1_aae02_14 : decode prog_18_method_154_code 14 = .ok (.goto 4, 3) := by decide +kernel
theorem dString_isLatin1_aae02_17 : decode prog_18_method_154_code 17 = .ok (.iconst 0, 1) := by decide +kernel
theorem dString_isLatin1_aae02_18 : decode prog_18_method_154_code 18 = .ok (.ireturn, 1) := by decide +kernel
theorem dString_checkIndex_df160_0 : decode prog_18_method_155_code 0 = .ok (.iload_n 0, 1) := by decide +kernel
theorem dString_checkIndex_df160_1 : decode prog_18_method_155_code 1 = .ok (.iload_n 1, 1) := by decide +kernel
theorem dString_checkIndex_df160_2 : decode prog_18_method_155_code 2 = .ok (.getstatic 1053, 3) := by decide +kernel
theorem dString_checkIndex_df160_5 : decode prog_18_method_155_code 5 = .ok (.invokestatic 1059, 3) := by decide +kernel
theorem dString_checkIndex_df160_8 : decode prog_18_method_155_code 8 = .ok (.pop, 1) := by decide +kernel
theorem dString_checkIndex_df160_9 : decode prog_18_method_155_code 9 = .ok (.return_, 1) := by decide +kernel
theorem dString_checkBoundsBeginEnd_23922_0 : decode prog_18_method_158_code 0 = .ok (.iload_n 0, 1) := by decide +kernel
theorem dString_checkBoundsBeginEnd_23922_1 : decode prog_18_method_158_code 1 = .ok (.iload_n 1, 1) := by decide +kernel
theorem dString_checkBoundsBeginEnd_23922_2 : decode prog_18_method_158_code 2 = .ok (.iload_n 2, 1) := by decide +kernel
theorem dString_checkBoundsBeginEnd_23922_3 : decode prog_18_method_158_code 3 = .ok (.getstatic 1053, 3) := by decide +kernel
theorem dString_checkBoundsBeginEnd_23922_6 : decode prog_18_method_158_code 6 = .ok (.invokestatic 1062, 3) := by decide +kernel
theorem dString_checkBoundsBeginEnd_23922_9 : decode prog_18_method_158_code 9 = .ok (.pop, 1) := by decide +kernel
theorem dString_checkBoundsBeginEnd_23922_10 : decode prog_18_method_158_code 10 = .ok (.return_, 1) := by decide +kernel
theorem dStringLatin1_charAt_3b067_0 : decode prog_19_method_2_code 0 = .ok (.iload_n 1, 1) := by decide +kernel
theorem dStringLatin1_charAt_3b067_1 : decode prog_19_method_2_code 1 = .ok (.aload_n 0, 1) := by decide +kernel
theorem dStringLatin1_charAt_3b067_2 : decode prog_19_method_2_code 2 = .ok (.arraylength, 1) := by decide +kernel
theorem dStringLatin1_charAt_3b067_3 : decode prog_19_method_2_code 3 = .ok (.invokestatic 9, 3) := by decide +kernel
theorem dStringLatin1_charAt_3b067_6 : decode prog_19_method_2_code 6 = .ok (.aload_n 0, 1) := by decide +kernel
theorem dStringLatin1_charAt_3b067_7 : decode prog_19_method_2_code 7 = .ok (.iload_n 1, 1) := by decide +kernel
theorem dStringLatin1_charAt_3b067_8 : decode prog_19_method_2_code 8 = .ok (.baload, 1) := by decide +kernel
theorem dStringLatin1_charAt_3b067_9 : decode prog_19_method_2_code 9 = .ok (.sipush 255, 3) := by decide +kernel
theorem dStringLatin1_charAt_3b067_12 : decode prog_19_method_2_code 12 = .ok (.iand, 1) := by decide +kernel
theorem dStringLatin1_charAt_3b067_13 : decode prog_19_method_2_code 13 = .ok (.i2c, 1) := by decide +kernel
theorem dStringLatin1_charAt_3b067_14 : decode prog_19_method_2_code 14 = .ok (.ireturn, 1) := by decide +kernel
theorem dStringLatin1_canEncode_9a6ad_0 : decode prog_19_method_4_code 0 = .ok (.iload_n 0, 1) := by decide +kernel
theorem dStringLatin1_canEncode_9a6ad_1 : decode prog_19_method_4_code 1 = .ok (.ifCond .lt 14, 3) := by decide +kernel
theorem dStringLatin1_canEncode_9a6ad_4 : decode prog_19_method_4_code 4 = .ok (.iload_n 0, 1) := by decide +kernel
theorem dStringLatin1_canEncode_9a6ad_5 : decode prog_19_method_4_code 5 = .ok (.sipush 255, 3) := by decide +kernel
theorem dStringLatin1_canEncode_9a6ad_8 : decode prog_19_method_4_code 8 = .ok (.if_icmp .gt 7, 3) := by decide +kernel
theorem dStringLatin1_canEncode_9a6ad_11 : decode prog_19_method_4_code 11 = .ok (.iconst 1, 1) := by decide +kernel
theorem dStringLatin1_canEncode_9a6ad_12 : decode prog_19_method_4_code 12 = .ok (.goto 4, 3) := by decide +kernel
theorem dStringLatin1_canEncode_9a6ad_15 : decode prog_19_method_4_code 15 = .ok (.iconst 0, 1) := by decide +kernel
theorem dStringLatin1_canEncode_9a6ad_16 : decode prog_19_method_4_code 16 = .ok (.ireturn, 1) := by decide +kernel
theorem dStringLatin1_indexOf_4cfef_0 : decode prog_19_method_22_code 0 = .ok (.iload_n 1, 1) := by decide +kernel
theorem dStringLatin1_indexOf_4cfef_1 : decode prog_19_method_22_code 1 = .ok (.invokestatic 88, 3) := by decide +kernel
theorem dStringLatin1_indexOf_4cfef_4 : decode prog_19_method_22_code 4 = .ok (.ifCond .ne 5, 3) := by decide +kernel
theorem dStringLatin1_indexOf_4cfef_7 : decode prog_19_method_22_code 7 = .ok (.iconst (-1), 1) := by decide +kernel
theorem dStringLatin1_indexOf_4cfef_8 : decode prog_19_method_22_code 8 = .ok (.ireturn, 1) := by decide +kernel
theorem dStringLatin1_indexOf_4cfef_9 : decode prog_19_method_22_code 9 = .ok (.iload_n 2, 1) := by decide +kernel
theorem dStringLatin1_indexOf_4cfef_10 : decode prog_19_method_22_code 10 = .ok (.iconst 0, 1) := by decide +kernel
theorem dStringLatin1_indexOf_4cfef_11 : decode prog_19_method_22_code 11 = .ok (.invokestatic 92, 3) := by decide +kernel
theorem dStringLatin1_indexOf_4cfef_14 : decode prog_19_method_22_code 14 = .ok (.istore_n 2, 1) := by decide +kernel
theorem dStringLatin1_indexOf_4cfef_15 : decode prog_19_method_22_code 15 = .ok (.iload_n 3, 1) := by decide +kernel
theorem dStringLatin1_indexOf_4cfef_16 : decode prog_19_method_22_code 16 = .ok (.aload_n 0, 1) := by decide +kernel
theorem dStringLatin1_indexOf_4cfef_17 : decode prog_19_method_22_code 17 = .ok (.arraylength, 1) := by decide +kernel
theorem dStringLatin1_indexOf_4cfef_18 : decode prog_19_method_22_code 18 = .ok (.invokestatic 38, 3) := by decide +kernel
theorem dStringLatin1_indexOf_4cfef_21 : decode prog_19_method_22_code 21 = .ok (.istore_n 3, 1) := by decide +kernel
theorem dStringLatin1_indexOf_4cfef_22 : decode prog_19_method_22_code 22 = .ok (.iload_n 2, 1) := by decide +kernel
theorem dStringLatin1_indexOf_4cfef_23 : decode prog_19_method_22_code 23 = .ok (.iload_n 3, 1) := by decide +kernel
theorem dStringLatin1_indexOf_4cfef_24 : decode prog_19_method_22_code 24 = .ok (.if_icmp .lt 5, 3) := by decide +kernel
theorem dStringLatin1_indexOf_4cfef_27 : decode prog_19_method_22_code 27 = .ok (.iconst (-1), 1) := by decide +kernel
theorem dStringLatin1_indexOf_4cfef_28 : decode prog_19_method_22_code 28 = .ok (.ireturn, 1) := by decide +kernel
theorem dStringLatin1_indexOf_4cfef_29 : decode prog_19_method_22_code 29 = .ok (.aload_n 0, 1) := by decide +kernel
theorem dStringLatin1_indexOf_4cfef_30 : decode prog_19_method_22_code 30 = .ok (.iload_n 1, 1) := by decide +kernel
theorem dStringLatin1_indexOf_4cfef_31 : decode prog_19_method_22_code 31 = .ok (.iload_n 2, 1) := by decide +kernel
theorem dStringLatin1_indexOf_4cfef_32 : decode prog_19_method_22_code 32 = .ok (.iload_n 3, 1) := by decide +kernel
theorem dStringLatin1_indexOf_4cfef_33 : decode prog_19_method_22_code 33 = .ok (.invokestatic 95, 3) := by decide +kernel
theorem dStringLatin1_indexOf_4cfef_36 : decode prog_19_method_22_code 36 = .ok (.ireturn, 1) := by decide +kernel
theorem dStringLatin1_indexOfChar_4cfef_0 : decode prog_19_method_23_code 0 = .ok (.iload_n 1, 1) := by decide +kernel
theorem dStringLatin1_indexOfChar_4cfef_1 : decode prog_19_method_23_code 1 = .ok (.i2b, 1) := by decide +kernel
theorem dStringLatin1_indexOfChar_4cfef_2 : decode prog_19_method_23_code 2 = .ok (.istore 4, 2) := by decide +kernel
theorem dStringLatin1_indexOfChar_4cfef_4 : decode prog_19_method_23_code 4 = .ok (.iload_n 2, 1) := by decide +kernel
theorem dStringLatin1_indexOfChar_4cfef_5 : decode prog_19_method_23_code 5 = .ok (.istore 5, 2) := by decide +kernel
theorem dStringLatin1_indexOfChar_4cfef_7 : decode prog_19_method_23_code 7 = .ok (.iload 5, 2) := by decide +kernel
theorem dStringLatin1_indexOfChar_4cfef_9 : decode prog_19_method_23_code 9 = .ok (.iload_n 3, 1) := by decide +kernel
theorem dStringLatin1_indexOfChar_4cfef_10 : decode prog_19_method_23_code 10 = .ok (.if_icmp .ge 21, 3) := by decide +kernel
theorem dStringLatin1_indexOfChar_4cfef_13 : decode prog_19_method_23_code 13 = .ok (.aload_n 0, 1) := by decide +kernel
theorem dStringLatin1_indexOfChar_4cfef_14 : decode prog_19_method_23_code 14 = .ok (.iload 5, 2) := by decide +kernel
theorem dStringLatin1_indexOfChar_4cfef_16 : decode prog_19_method_23_code 16 = .ok (.baload, 1) := by decide +kernel
theorem dStringLatin1_indexOfChar_4cfef_17 : decode prog_19_method_23_code 17 = .ok (.iload 4, 2) := by decide +kernel
theorem dStringLatin1_indexOfChar_4cfef_19 : decode prog_19_method_23_code 19 = .ok (.if_icmp .ne 6, 3) := by decide +kernel
theorem dStringLatin1_indexOfChar_4cfef_22 : decode prog_19_method_23_code 22 = .ok (.iload 5, 2) := by decide +kernel
theorem dStringLatin1_indexOfChar_4cfef_24 : decode prog_19_method_23_code 24 = .ok (.ireturn, 1) := by decide +kernel
theorem dStringLatin1_indexOfChar_4cfef_25 : decode prog_19_method_23_code 25 = .ok (.iinc 5 1, 3) := by decide +kernel
theorem dStringLatin1_indexOfChar_4cfef_28 : decode prog_19_method_23_code 28 = .ok (.goto (-21), 3) := by decide +kernel
theorem dStringLatin1_indexOfChar_4cfef_31 : decode prog_19_method_23_code 31 = .ok (.iconst (-1), 1) := by decide +kernel
theorem dStringLatin1_indexOfChar_4cfef_32 : decode prog_19_method_23_code 32 = .ok (.ireturn, 1) := by decide +kernel
theorem dStringUTF16_getChar_3b067_0 : decode prog_20_method_5_code 0 = .ok (.getstatic 44, 3) := by decide +kernel
theorem dStringUTF16_getChar_3b067_3 : decode prog_20_method_5_code 3 = .ok (.ifCond .ne 25, 3) := by decide +kernel
theorem dStringUTF16_getChar_3b067_6 : decode prog_20_method_5_code 6 = .ok (.iload_n 1, 1) := by decide +kernel
theorem dStringUTF16_getChar_3b067_7 : decode prog_20_method_5_code 7 = .ok (.ifCond .lt 11, 3) := by decide +kernel
theorem dStringUTF16_getChar_3b067_10 : decode prog_20_method_5_code 10 = .ok (.iload_n 1, 1) := by decide +kernel
theorem dStringUTF16_getChar_3b067_11 : decode prog_20_method_5_code 11 = .ok (.aload_n 0, 1) := by decide +kernel
theorem dStringUTF16_getChar_3b067_12 : decode prog_20_method_5_code 12 = .ok (.invokestatic 48, 3) := by decide +kernel
theorem dStringUTF16_getChar_3b067_15 : decode prog_20_method_5_code 15 = .ok (.if_icmp .lt 13, 3) := by decide +kernel
theorem dStringUTF16_getChar_3b067_18 : decode prog_20_method_5_code 18 = .ok (.new 52, 3) := by decide +kernel
theorem dStringUTF16_getChar_3b067_21 : decode prog_20_method_5_code 21 = .ok (.dup, 1) := by decide +kernel
theorem dStringUTF16_getChar_3b067_22 : decode prog_20_method_5_code 22 = .ok (.ldc 54, 2) := by decide +kernel
theorem dStringUTF16_getChar_3b067_24 : decode prog_20_method_5_code 24 = .ok (.invokespecial 56, 3) := by decide +kernel
theorem dStringUTF16_getChar_3b067_27 : decode prog_20_method_5_code 27 = .ok (.athrow, 1) := by decide +kernel
theorem dStringUTF16_getChar_3b067_28 : decode prog_20_method_5_code 28 = .ok (.iload_n 1, 1) := by decide +kernel
theorem dStringUTF16_getChar_3b067_29 : decode prog_20_method_5_code 29 = .ok (.iconst 1, 1) := by decide +kernel
theorem dStringUTF16_getChar_3b067_30 : decode prog_20_method_5_code 30 = .ok (.ishl, 1) := by decide +kernel
theorem dStringUTF16_getChar_3b067_31 : decode prog_20_method_5_code 31 = .ok (.istore_n 1, 1) := by decide +kernel
theorem dStringUTF16_getChar_3b067_32 : decode prog_20_method_5_code 32 = .ok (.aload_n 0, 1) := by decide +kernel
theorem dStringUTF16_getChar_3b067_33 : decode prog_20_method_5_code 33 = .ok (.iload_n 1, 1) := by decide +kernel
theorem dStringUTF16_getChar_3b067_34 : decode prog_20_method_5_code 34 = .ok (.iinc 1 1, 3) := by decide +kernel
theorem dStringUTF16_getChar_3b067_37 : decode prog_20_method_5_code 37 = .ok (.baload, 1) := by decide +kernel
theorem dStringUTF16_getChar_3b067_38 : decode prog_20_method_5_code 38 = .ok (.sipush 255, 3) := by decide +kernel
theorem dStringUTF16_getChar_3b067_41 : decode prog_20_method_5_code 41 = .ok (.iand, 1) := by decide +kernel
theorem dStringUTF16_getChar_3b067_42 : decode prog_20_method_5_code 42 = .ok (.getstatic 59, 3) := by decide +kernel
theorem dStringUTF16_getChar_3b067_45 : decode prog_20_method_5_code 45 = .ok (.ishl, 1) := by decide +kernel
theorem dStringUTF16_getChar_3b067_46 : decode prog_20_method_5_code 46 = .ok (.aload_n 0, 1) := by decide +kernel
theorem dStringUTF16_getChar_3b067_47 : decode prog_20_method_5_code 47 = .ok (.iload_n 1, 1) := by decide +kernel
theorem dStringUTF16_getChar_3b067_48 : decode prog_20_method_5_code 48 = .ok (.baload, 1) := by decide +kernel
theorem dStringUTF16_getChar_3b067_49 : decode prog_20_method_5_code 49 = .ok (.sipush 255, 3) := by decide +kernel
theorem dStringUTF16_getChar_3b067_52 : decode prog_20_method_5_code 52 = .ok (.iand, 1) := by decide +kernel
theorem dStringUTF16_getChar_3b067_53 : decode prog_20_method_5_code 53 = .ok (.getstatic 63, 3) := by decide +kernel
theorem dStringUTF16_getChar_3b067_56 : decode prog_20_method_5_code 56 = .ok (.ishl, 1) := by decide +kernel
theorem dStringUTF16_getChar_3b067_57 : decode prog_20_method_5_code 57 = .ok (.ior, 1) := by decide +kernel
theorem dStringUTF16_getChar_3b067_58 : decode prog_20_method_5_code 58 = .ok (.i2c, 1) := by decide +kernel
theorem dStringUTF16_getChar_3b067_59 : decode prog_20_method_5_code 59 = .ok (.ireturn, 1) := by decide +kernel
theorem dStringUTF16_length_9d52b_0 : decode prog_20_method_6_code 0 = .ok (.aload_n 0, 1) := by decide +kernel
theorem dStringUTF16_length_9d52b_1 : decode prog_20_method_6_code 1 = .ok (.arraylength, 1) := by decide +kernel
theorem dStringUTF16_length_9d52b_2 : decode prog_20_method_6_code 2 = .ok (.iconst 1, 1) := by decide +kernel
theorem dStringUTF16_length_9d52b_3 : decode prog_20_method_6_code 3 = .ok (.ishr, 1) := by decide +kernel
theorem dStringUTF16_length_9d52b_4 : decode prog_20_method_6_code 4 = .ok (.ireturn, 1) := by decide +kernel
theorem dStringUTF16_indexOf_4cfef_0 : decode prog_20_method_40_code 0 = .ok (.iload_n 2, 1) := by decide +kernel
theorem dStringUTF16_indexOf_4cfef_1 : decode prog_20_method_40_code 1 = .ok (.iconst 0, 1) := by decide +kernel
theorem dStringUTF16_indexOf_4cfef_2 : decode prog_20_method_40_code 2 = .ok (.invokestatic 224, 3) := by decide +kernel
theorem dStringUTF16_indexOf_4cfef_5 : decode prog_20_method_40_code 5 = .ok (.istore_n 2, 1) := by decide +kernel
theorem dStringUTF16_indexOf_4cfef_6 : decode prog_20_method_40_code 6 = .ok (.iload_n 3, 1) := by decide +kernel
theorem dStringUTF16_indexOf_4cfef_7 : decode prog_20_method_40_code 7 = .ok (.aload_n 0, 1) := by decide +kernel
theorem dStringUTF16_indexOf_4cfef_8 : decode prog_20_method_40_code 8 = .ok (.arraylength, 1) := by decide +kernel
theorem dStringUTF16_indexOf_4cfef_9 : decode prog_20_method_40_code 9 = .ok (.iconst 1, 1) := by decide +kernel
theorem dStringUTF16_indexOf_4cfef_10 : decode prog_20_method_40_code 10 = .ok (.ishr, 1) := by decide +kernel
theorem dStringUTF16_indexOf_4cfef_11 : decode prog_20_method_40_code 11 = .ok (.invokestatic 183, 3) := by decide +kernel
theorem dStringUTF16_indexOf_4cfef_14 : decode prog_20_method_40_code 14 = .ok (.istore_n 3, 1) := by decide +kernel
theorem dStringUTF16_indexOf_4cfef_15 : decode prog_20_method_40_code 15 = .ok (.iload_n 2, 1) := by decide +kernel
theorem dStringUTF16_indexOf_4cfef_16 : decode prog_20_method_40_code 16 = .ok (.iload_n 3, 1) := by decide +kernel
theorem dStringUTF16_indexOf_4cfef_17 : decode prog_20_method_40_code 17 = .ok (.if_icmp .lt 5, 3) := by decide +kernel
theorem dStringUTF16_indexOf_4cfef_20 : decode prog_20_method_40_code 20 = .ok (.iconst (-1), 1) := by decide +kernel
theorem dStringUTF16_indexOf_4cfef_21 : decode prog_20_method_40_code 21 = .ok (.ireturn, 1) := by decide +kernel
theorem dStringUTF16_indexOf_4cfef_22 : decode prog_20_method_40_code 22 = .ok (.iload_n 1, 1) := by decide +kernel
theorem dStringUTF16_indexOf_4cfef_23 : decode prog_20_method_40_code 23 = .ok (.ldc 227, 2) := by decide +kernel
theorem dStringUTF16_indexOf_4cfef_25 : decode prog_20_method_40_code 25 = .ok (.if_icmp .ge 11, 3) := by decide +kernel
theorem dStringUTF16_indexOf_4cfef_28 : decode prog_20_method_40_code 28 = .ok (.aload_n 0, 1) := by decide +kernel
theorem dStringUTF16_indexOf_4cfef_29 : decode prog_20_method_40_code 29 = .ok (.iload_n 1, 1) := by decide +kernel
theorem dStringUTF16_indexOf_4cfef_30 : decode prog_20_method_40_code 30 = .ok (.iload_n 2, 1) := by decide +kernel
theorem dStringUTF16_indexOf_4cfef_31 : decode prog_20_method_40_code 31 = .ok (.iload_n 3, 1) := by decide +kernel
theorem dStringUTF16_indexOf_4cfef_32 : decode prog_20_method_40_code 32 = .ok (.invokestatic 228, 3) := by decide +kernel
theorem dStringUTF16_indexOf_4cfef_35 : decode prog_20_method_40_code 35 = .ok (.ireturn, 1) := by decide +kernel
theorem dStringUTF16_indexOf_4cfef_36 : decode prog_20_method_40_code 36 = .ok (.aload_n 0, 1) := by decide +kernel
theorem dStringUTF16_indexOf_4cfef_37 : decode prog_20_method_40_code 37 = .ok (.iload_n 1, 1) := by decide +kernel
theorem dStringUTF16_indexOf_4cfef_38 : decode prog_20_method_40_code 38 = .ok (.iload_n 2, 1) := by decide +kernel
theorem dStringUTF16_indexOf_4cfef_39 : decode prog_20_method_40_code 39 = .ok (.iload_n 3, 1) := by decide +kernel
theorem dStringUTF16_indexOf_4cfef_40 : decode prog_20_method_40_code 40 = .ok (.invokestatic 232, 3) := by decide +kernel
theorem dStringUTF16_indexOf_4cfef_43 : decode prog_20_method_40_code 43 = .ok (.ireturn, 1) := by decide +kernel
theorem dStringUTF16_indexOfChar_4cfef_0 : decode prog_20_method_47_code 0 = .ok (.iload_n 2, 1) := by decide +kernel
theorem dStringUTF16_indexOfChar_4cfef_1 : decode prog_20_method_47_code 1 = .ok (.iload_n 3, 1) := by decide +kernel
theorem dStringUTF16_indexOfChar_4cfef_2 : decode prog_20_method_47_code 2 = .ok (.aload_n 0, 1) := by decide +kernel
theorem dStringUTF16_indexOfChar_4cfef_3 : decode prog_20_method_47_code 3 = .ok (.invokestatic 96, 3) := by decide +kernel
theorem dStringUTF16_indexOfChar_4cfef_6 : decode prog_20_method_47_code 6 = .ok (.aload_n 0, 1) := by decide +kernel
theorem dStringUTF16_indexOfChar_4cfef_7 : decode prog_20_method_47_code 7 = .ok (.iload_n 1, 1) := by decide +kernel
theorem dStringUTF16_indexOfChar_4cfef_8 : decode prog_20_method_47_code 8 = .ok (.iload_n 2, 1) := by decide +kernel
theorem dStringUTF16_indexOfChar_4cfef_9 : decode prog_20_method_47_code 9 = .ok (.iload_n 3, 1) := by decide +kernel
theorem dStringUTF16_indexOfChar_4cfef_10 : decode prog_20_method_47_code 10 = .ok (.invokestatic 244, 3) := by decide +kernel
theorem dStringUTF16_indexOfChar_4cfef_13 : decode prog_20_method_47_code 13 = .ok (.ireturn, 1) := by decide +kernel
theorem dStringUTF16_indexOfCharUnsafe_4cfef_0 : decode prog_20_method_48_code 0 = .ok (.iload_n 2, 1) := by decide +kernel
theorem dStringUTF16_indexOfCharUnsafe_4cfef_1 : decode prog_20_method_48_code 1 = .ok (.istore 4, 2) := by decide +kernel
theorem dStringUTF16_indexOfCharUnsafe_4cfef_3 : decode prog_20_method_48_code 3 = .ok (.iload 4, 2) := by decide +kernel
theorem dStringUTF16_indexOfCharUnsafe_4cfef_5 : decode prog_20_method_48_code 5 = .ok (.iload_n 3, 1) := by decide +kernel
theorem dStringUTF16_indexOfCharUnsafe_4cfef_6 : decode prog_20_method_48_code 6 = .ok (.if_icmp .ge 22, 3) := by decide +kernel
theorem dStringUTF16_indexOfCharUnsafe_4cfef_9 : decode prog_20_method_48_code 9 = .ok (.aload_n 0, 1) := by decide +kernel
theorem dStringUTF16_indexOfCharUnsafe_4cfef_10 : decode prog_20_method_48_code 10 = .ok (.iload 4, 2) := by decide +kernel
theorem dStringUTF16_indexOfCharUnsafe_4cfef_12 : decode prog_20_method_48_code 12 = .ok (.invokestatic 71, 3) := by decide +kernel
theorem dStringUTF16_indexOfCharUnsafe_4cfef_15 : decode prog_20_method_48_code 15 = .ok (.iload_n 1, 1) := by decide +kernel
theorem dStringUTF16_indexOfCharUnsafe_4cfef_16 : decode prog_20_method_48_code 16 = .ok (.if_icmp .ne 6, 3) := by decide +kernel
theorem dStringUTF16_indexOfCharUnsafe_4cfef_19 : decode prog_20_method_48_code 19 = .ok (.iload 4, 2) := by decide +kernel
theorem dStringUTF16_indexOfCharUnsafe_4cfef_21 : decode prog_20_method_48_code 21 = .ok (.ireturn, 1) := by decide +kernel
theorem dStringUTF16_indexOfCharUnsafe_4cfef_22 : decode prog_20_method_48_code 22 = .ok (.iinc 4 1, 3) := by decide +kernel
theorem dStringUTF16_indexOfCharUnsafe_4cfef_25 : decode prog_20_method_48_code 25 = .ok (.goto (-22), 3) := by decide +kernel
theorem dStringUTF16_indexOfCharUnsafe_4cfef_28 : decode prog_20_method_48_code 28 = .ok (.iconst (-1), 1) := by decide +kernel
theorem dStringUTF16_indexOfCharUnsafe_4cfef_29 : decode prog_20_method_48_code 29 = .ok (.ireturn, 1) := by decide +kernel
theorem dStringUTF16_indexOfSupplementary_4cfef_0 : decode prog_20_method_49_code 0 = .ok (.iload_n 1, 1) := by decide +kernel
theorem dStringUTF16_indexOfSupplementary_4cfef_1 : decode prog_20_method_49_code 1 = .ok (.invokestatic 164, 3) := by decide +kernel
theorem dStringUTF16_indexOfSupplementary_4cfef_4 : decode prog_20_method_49_code 4 = .ok (.ifCond .eq 65, 3) := by decide +kernel
theorem dStringUTF16_indexOfSupplementary_4cfef_7 : decode prog_20_method_49_code 7 = .ok (.iload_n 1, 1) := by decide +kernel
theorem dStringUTF16_indexOfSupplementary_4cfef_8 : decode prog_20_method_49_code 8 = .ok (.invokestatic 157, 3) := by decide +kernel
theorem dStringUTF16_indexOfSupplementary_4cfef_11 : decode prog_20_method_49_code 11 = .ok (.istore 4, 2) := by decide +kernel
theorem dStringUTF16_indexOfSupplementary_4cfef_13 : decode prog_20_method_49_code 13 = .ok (.iload_n 1, 1) := by decide +kernel
theorem dStringUTF16_indexOfSupplementary_4cfef_14 : decode prog_20_method_49_code 14 = .ok (.invokestatic 161, 3) := by decide +kernel
theorem dStringUTF16_indexOfSupplementary_4cfef_17 : decode prog_20_method_49_code 17 = .ok (.istore 5, 2) := by decide +kernel
theorem dStringUTF16_indexOfSupplementary_4cfef_19 : decode prog_20_method_49_code 19 = .ok (.iload_n 2, 1) := by decide +kernel
theorem dStringUTF16_indexOfSupplementary_4cfef_20 : decode prog_20_method_49_code 20 = .ok (.iload_n 3, 1) := by decide +kernel
theorem dStringUTF16_indexOfSupplementary_4cfef_21 : decode prog_20_method_49_code 21 = .ok (.aload_n 0, 1) := by decide +kernel
theorem dStringUTF16_indexOfSupplementary_4cfef_22 : decode prog_20_method_49_code 22 = .ok (.invokestatic 96, 3) := by decide +kernel
theorem dStringUTF16_indexOfSupplementary_4cfef_25 : decode prog_20_method_49_code 25 = .ok (.iload_n 2, 1) := by decide +kernel
theorem dStringUTF16_indexOfSupplementary_4cfef_26 : decode prog_20_method_49_code 26 = .ok (.istore 6, 2) := by decide +kernel
theorem dStringUTF16_indexOfSupplementary_4cfef_28 : decode prog_20_method_49_code 28 = .ok (.iload 6, 2) := by decide +kernel
theorem dStringUTF16_indexOfSupplementary_4cfef_30 : decode prog_20_method_49_code 30 = .ok (.iload_n 3, 1) := by decide +kernel
theorem dStringUTF16_indexOfSupplementary_4cfef_31 : decode prog_20_method_49_code 31 = .ok (.iconst 1, 1) := by decide +kernel
theorem dStringUTF16_indexOfSupplementary_4cfef_32 : decode prog_20_method_49_code 32 = .ok (.isub, 1) := by decide +kernel
theorem dStringUTF16_indexOfSupplementary_4cfef_33 : decode prog_20_method_49_code 33 = .ok (.if_icmp .ge 36, 3) := by decide +kernel
theorem dStringUTF16_indexOfSupplementary_4cfef_36 : decode prog_20_method_49_code 36 = .ok (.aload_n 0, 1) := by decide +kernel
theorem dStringUTF16_indexOfSupplementary_4cfef_37 : decode prog_20_method_49_code 37 = .ok (.iload 6, 2) := by decide +kernel
theorem dStringUTF16_indexOfSupplementary_4cfef_39 : decode prog_20_method_49_code 39 = .ok (.invokestatic 71, 3) := by decide +kernel
theorem dStringUTF16_indexOfSupplementary_4cfef_42 : decode prog_20_method_49_code 42 = .ok (.iload 4, 2) := by decide +kernel
theorem dStringUTF16_indexOfSupplementary_4cfef_44 : decode prog_20_method_49_code 44 = .ok (.if_icmp .ne 19, 3) := by decide +kernel
theorem dStringUTF16_indexOfSupplementary_4cfef_47 : decode prog_20_method_49_code 47 = .ok (.aload_n 0, 1) := by decide +kernel
theorem dStringUTF16_indexOfSupplementary_4cfef_48 : decode prog_20_method_49_code 48 = .ok (.iload 6, 2) := by decide +kernel
theorem dStringUTF16_indexOfSupplementary_4cfef_50 : decode prog_20_method_49_code 50 = .ok (.iconst 1, 1) := by decide +kernel
theorem dStringUTF16_indexOfSupplementary_4cfef_51 : decode prog_20_method_49_code 51 = .ok (.iadd, 1) := by decide +kernel
theorem dStringUTF16_indexOfSupplementary_4cfef_52 : decode prog_20_method_49_code 52 = .ok (.invokestatic 71, 3) := by decide +kernel
theorem dStringUTF16_indexOfSupplementary_4cfef_55 : decode prog_20_method_49_code 55 = .ok (.iload 5, 2) := by decide +kernel
theorem dStringUTF16_indexOfSupplementary_4cfef_57 : decode prog_20_method_49_code 57 = .ok (.if_icmp .ne 6, 3) := by decide +kernel
theorem dStringUTF16_indexOfSupplementary_4cfef_60 : decode prog_20_method_49_code 60 = .ok (.iload 6, 2) := by decide +kernel
theorem dStringUTF16_indexOfSupplementary_4cfef_62 : decode prog_20_method_49_code 62 = .ok (.ireturn, 1) := by decide +kernel
theorem dStringUTF16_indexOfSupplementary_4cfef_63 : decode prog_20_method_49_code 63 = .ok (.iinc 6 1, 3) := by decide +kernel
theorem dStringUTF16_indexOfSupplementary_4cfef_66 : decode prog_20_method_49_code 66 = .ok (.goto (-38), 3) := by decide +kernel
theorem dStringUTF16_indexOfSupplementary_4cfef_69 : decode prog_20_method_49_code 69 = .ok (.iconst (-1), 1) := by decide +kernel
theorem dStringUTF16_indexOfSupplementary_4cfef_70 : decode prog_20_method_49_code 70 = .ok (.ireturn, 1) := by decide +kernel
theorem dStringUTF16_charAt_3b067_0 : decode prog_20_method_83_code 0 = .ok (.iload_n 1, 1) := by decide +kernel
theorem dStringUTF16_charAt_3b067_1 : decode prog_20_method_83_code 1 = .ok (.aload_n 0, 1) := by decide +kernel
theorem dStringUTF16_charAt_3b067_2 : decode prog_20_method_83_code 2 = .ok (.invokestatic 67, 3) := by decide +kernel
theorem dStringUTF16_charAt_3b067_5 : decode prog_20_method_83_code 5 = .ok (.aload_n 0, 1) := by decide +kernel
theorem dStringUTF16_charAt_3b067_6 : decode prog_20_method_83_code 6 = .ok (.iload_n 1, 1) := by decide +kernel
theorem dStringUTF16_charAt_3b067_7 : decode prog_20_method_83_code 7 = .ok (.invokestatic 71, 3) := by decide +kernel
theorem dStringUTF16_charAt_3b067_10 : decode prog_20_method_83_code 10 = .ok (.ireturn, 1) := by decide +kernel
theorem dStringUTF16_checkIndex_2214a_0 : decode prog_20_method_91_code 0 = .ok (.iload_n 0, 1) := by decide +kernel
theorem dStringUTF16_checkIndex_2214a_1 : decode prog_20_method_91_code 1 = .ok (.aload_n 1, 1) := by decide +kernel
theorem dStringUTF16_checkIndex_2214a_2 : decode prog_20_method_91_code 2 = .ok (.invokestatic 48, 3) := by decide +kernel
theorem dStringUTF16_checkIndex_2214a_5 : decode prog_20_method_91_code 5 = .ok (.invokestatic 414, 3) := by decide +kernel
theorem dStringUTF16_checkIndex_2214a_8 : decode prog_20_method_91_code 8 = .ok (.return_, 1) := by decide +kernel
theorem dStringUTF16_checkBoundsBeginEnd_d044e_0 : decode prog_20_method_93_code 0 = .ok (.iload_n 0, 1) := by decide +kernel
theorem dStringUTF16_checkBoundsBeginEnd_d044e_1 : decode prog_20_method_93_code 1 = .ok (.iload_n 1, 1) := by decide +kernel
theorem dStringUTF16_checkBoundsBeginEnd_d044e_2 : decode prog_20_method_93_code 2 = .ok (.aload_n 2, 1) := by decide +kernel
theorem dStringUTF16_checkBoundsBeginEnd_d044e_3 : decode prog_20_method_93_code 3 = .ok (.invokestatic 48, 3) := by decide +kernel
theorem dStringUTF16_checkBoundsBeginEnd_d044e_6 : decode prog_20_method_93_code 6 = .ok (.invokestatic 241, 3) := by decide +kernel
theorem dStringUTF16_checkBoundsBeginEnd_d044e_9 : decode prog_20_method_93_code 9 = .ok (.return_, 1) := by decide +kernel
theorem dArrays_fill_d0a16_0 : decode prog_22_method_101_code 0 = .ok (.iconst 0, 1) := by decide +kernel
theorem dArrays_fill_d0a16_1 : decode prog_22_method_101_code 1 = .ok (.istore_n 3, 1) := by decide +kernel
theorem dArrays_fill_d0a16_2 : decode prog_22_method_101_code 2 = .ok (.aload_n 0, 1) := by decide +kernel
theorem dArrays_fill_d0a16_3 : decode prog_22_method_101_code 3 = .ok (.arraylength, 1) := by decide +kernel
theorem dArrays_fill_d0a16_4 : decode prog_22_method_101_code 4 = .ok (.istore 4, 2) := by decide +kernel
theorem dArrays_fill_d0a16_6 : decode prog_22_method_101_code 6 = .ok (.iload_n 3, 1) := by decide +kernel
theorem dArrays_fill_d0a16_7 : decode prog_22_method_101_code 7 = .ok (.iload 4, 2) := by decide +kernel
theorem dArrays_fill_d0a16_9 : decode prog_22_method_101_code 9 = .ok (.if_icmp .ge 13, 3) := by decide +kernel
theorem dArrays_fill_d0a16_12 : decode prog_22_method_101_code 12 = .ok (.aload_n 0, 1) := by decide +kernel
theorem dArrays_fill_d0a16_13 : decode prog_22_method_101_code 13 = .ok (.iload_n 3, 1) := by decide +kernel
theorem dArrays_fill_d0a16_14 : decode prog_22_method_101_code 14 = .ok (.lload_n 1, 1) := by decide +kernel
theorem dArrays_fill_d0a16_15 : decode prog_22_method_101_code 15 = .ok (.lastore, 1) := by decide +kernel
theorem dArrays_fill_d0a16_16 : decode prog_22_method_101_code 16 = .ok (.iinc 3 1, 3) := by decide +kernel
theorem dArrays_fill_d0a16_19 : decode prog_22_method_101_code 19 = .ok (.goto (-13), 3) := by decide +kernel
theorem dArrays_fill_d0a16_22 : decode prog_22_method_101_code 22 = .ok (.return_, 1) := by decide +kernel
theorem dArrays_fill_53178_0 : decode prog_22_method_103_code 0 = .ok (.iconst 0, 1) := by decide +kernel
theorem dArrays_fill_53178_1 : decode prog_22_method_103_code 1 = .ok (.istore_n 2, 1) := by decide +kernel
theorem dArrays_fill_53178_2 : decode prog_22_method_103_code 2 = .ok (.aload_n 0, 1) := by decide +kernel
theorem dArrays_fill_53178_3 : decode prog_22_method_103_code 3 = .ok (.arraylength, 1) := by decide +kernel
theorem dArrays_fill_53178_4 : decode prog_22_method_103_code 4 = .ok (.istore_n 3, 1) := by decide +kernel
theorem dArrays_fill_53178_5 : decode prog_22_method_103_code 5 = .ok (.iload_n 2, 1) := by decide +kernel
theorem dArrays_fill_53178_6 : decode prog_22_method_103_code 6 = .ok (.iload_n 3, 1) := by decide +kernel
theorem dArrays_fill_53178_7 : decode prog_22_method_103_code 7 = .ok (.if_icmp .ge 13, 3) := by decide +kernel
theorem dArrays_fill_53178_10 : decode prog_22_method_103_code 10 = .ok (.aload_n 0, 1) := by decide +kernel
theorem dArrays_fill_53178_11 : decode prog_22_method_103_code 11 = .ok (.iload_n 2, 1) := by decide +kernel
theorem dArrays_fill_53178_12 : decode prog_22_method_103_code 12 = .ok (.iload_n 1, 1) := by decide +kernel
theorem dArrays_fill_53178_13 : decode prog_22_method_103_code 13 = .ok (.iastore, 1) := by decide +kernel
theorem dArrays_fill_53178_14 : decode prog_22_method_103_code 14 = .ok (.iinc 2 1, 3) := by decide +kernel
theorem dArrays_fill_53178_17 : decode prog_22_method_103_code 17 = .ok (.goto (-12), 3) := by decide +kernel
theorem dArrays_fill_53178_20 : decode prog_22_method_103_code 20 = .ok (.return_, 1) := by decide +kernel
theorem dPreconditions_checkIndex_8e157_0 : decode prog_23_method_11_code 0 = .ok (.iload_n 0, 1) := by decide +kernel
theorem dPreconditions_checkIndex_8e157_1 : decode prog_23_method_11_code 1 = .ok (.ifCond .lt 8, 3) := by decide +kernel
theorem dPreconditions_checkIndex_8e157_4 : decode prog_23_method_11_code 4 = .ok (.iload_n 0, 1) := by decide +kernel
theorem dPreconditions_checkIndex_8e157_5 : decode prog_23_method_11_code 5 = .ok (.iload_n 1, 1) := by decide +kernel
theorem dPreconditions_checkIndex_8e157_6 : decode prog_23_method_11_code 6 = .ok (.if_icmp .lt 10, 3) := by decide +kernel
theorem dPreconditions_checkIndex_8e157_9 : decode prog_23_method_11_code 9 = .ok (.aload_n 2, 1) := by decide +kernel
theorem dPreconditions_checkIndex_8e157_10 : decode prog_23_method_11_code 10 = .ok (.iload_n 0, 1) := by decide +kernel
theorem dPreconditions_checkIndex_8e157_11 : decode prog_23_method_11_code 11 = .ok (.iload_n 1, 1) := by decide +kernel
theorem dPreconditions_checkIndex_8e157_12 : decode prog_23_method_11_code 12 = .ok (.invokestatic 95, 3) := by decide +kernel
theorem dPreconditions_checkIndex_8e157_15 : decode prog_23_method_11_code 15 = .ok (.athrow, 1) := by decide +kernel
theorem dPreconditions_checkIndex_8e157_16 : decode prog_23_method_11_code 16 = .ok (.iload_n 0, 1) := by decide +kernel
theorem dPreconditions_checkIndex_8e157_17 : decode prog_23_method_11_code 17 = .ok (.ireturn, 1) := by decide +kernel
theorem dPreconditions_checkFromToIndex_8c36e_0 : decode prog_23_method_12_code 0 = .ok (.iload_n 0, 1) := by decide +kernel
theorem dPreconditions_checkFromToIndex_8c36e_1 : decode prog_23_method_12_code 1 = .ok (.ifCond .lt 13, 3) := by decide +kernel
theorem dPreconditions_checkFromToIndex_8c36e_4 : decode prog_23_method_12_code 4 = .ok (.iload_n 0, 1) := by decide +kernel
theorem dPreconditions_checkFromToIndex_8c36e_5 : decode prog_23_method_12_code 5 = .ok (.iload_n 1, 1) := by decide +kernel
theorem dPreconditions_checkFromToIndex_8c36e_6 : decode prog_23_method_12_code 6 = .ok (.if_icmp .gt 8, 3) := by decide +kernel
theorem dPreconditions_checkFromToIndex_8c36e_9 : decode prog_23_method_12_code 9 = .ok (.iload_n 1, 1) := by decide +kernel
theorem dPreconditions_checkFromToIndex_8c36e_10 : decode prog_23_method_12_code 10 = .ok (.iload_n 2, 1) := by decide +kernel
theorem dPreconditions_checkFromToIndex_8c36e_11 : decode prog_23_method_12_code 11 = .ok (.if_icmp .le 11, 3) := by decide +kernel
theorem dPreconditions_checkFromToIndex_8c36e_14 : decode prog_23_method_12_code 14 = .ok (.aload_n 3, 1) := by decide +kernel
theorem dPreconditions_checkFromToIndex_8c36e_15 : decode prog_23_method_12_code 15 = .ok (.iload_n 0, 1) := by decide +kernel
theorem dPreconditions_checkFromToIndex_8c36e_16 : decode prog_23_method_12_code 16 = .ok (.iload_n 1, 1) := by decide +kernel
theorem dPreconditions_checkFromToIndex_8c36e_17 : decode prog_23_method_12_code 17 = .ok (.iload_n 2, 1) := by decide +kernel
theorem dPreconditions_checkFromToIndex_8c36e_18 : decode prog_23_method_12_code 18 = .ok (.invokestatic 99, 3) := by decide +kernel
theorem dPreconditions_checkFromToIndex_8c36e_21 : decode prog_23_method_12_code 21 = .ok (.athrow, 1) := by decide +kernel
theorem dPreconditions_checkFromToIndex_8c36e_22 : decode prog_23_method_12_code 22 = .ok (.iload_n 0, 1) := by decide +kernel
theorem dPreconditions_checkFromToIndex_8c36e_23 : decode prog_23_method_12_code 23 = .ok (.ireturn, 1) := by decide +kernel
