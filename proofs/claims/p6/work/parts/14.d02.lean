/-! Decode rows: by program. -/
theorem dRun_smuggleBetween_130 : decode prog_9_method_30_code 130 = .ok (.getfield 71, 3) := by decide +kernel
theorem dRun_smuggleBetween_133 : decode prog_9_method_30_code 133 = .ok (.iconst 5, 1) := by decide +kernel
theorem dRun_smuggleBetween_134 : decode prog_9_method_30_code 134 = .ok (.iaload, 1) := by decide +kernel
theorem dRun_smuggleBetween_135 : decode prog_9_method_30_code 135 = .ok (.imul, 1) := by decide +kernel
theorem dRun_smuggleBetween_136 : decode prog_9_method_30_code 136 = .ok (.bipush 100, 2) := by decide +kernel
theorem dRun_smuggleBetween_138 : decode prog_9_method_30_code 138 = .ok (.idiv, 1) := by decide +kernel
theorem dRun_smuggleBetween_139 : decode prog_9_method_30_code 139 = .ok (.istore 9, 2) := by decide +kernel
theorem dRun_smuggleBetween_141 : decode prog_9_method_30_code 141 = .ok (.aload_n 0, 1) := by decide +kernel
theorem dRun_smuggleBetween_142 : decode prog_9_method_30_code 142 = .ok (.getfield 35, 3) := by decide +kernel
theorem dRun_smuggleBetween_145 : decode prog_9_method_30_code 145 = .ok (.getfield 311, 3) := by decide +kernel
theorem dRun_smuggleBetween_148 : decode prog_9_method_30_code 148 = .ok (.iload 6, 2) := by decide +kernel
theorem dRun_smuggleBetween_150 : decode prog_9_method_30_code 150 = .ok (.dup2, 1) := by decide +kernel
theorem dRun_smuggleBetween_151 : decode prog_9_method_30_code 151 = .ok (.iaload, 1) := by decide +kernel
theorem dRun_smuggleBetween_152 : decode prog_9_method_30_code 152 = .ok (.iload 8, 2) := by decide +kernel
theorem dRun_smuggleBetween_154 : decode prog_9_method_30_code 154 = .ok (.isub, 1) := by decide +kernel
theorem dRun_smuggleBetween_155 : decode prog_9_method_30_code 155 = .ok (.iastore, 1) := by decide +kernel
theorem dRun_smuggleBetween_156 : decode prog_9_method_30_code 156 = .ok (.aload_n 0, 1) := by decide +kernel
theorem dRun_smuggleBetween_157 : decode prog_9_method_30_code 157 = .ok (.getfield 35, 3) := by decide +kernel
theorem dRun_smuggleBetween_160 : decode prog_9_method_30_code 160 = .ok (.getfield 311, 3) := by decide +kernel
theorem dRun_smuggleBetween_163 : decode prog_9_method_30_code 163 = .ok (.iload 7, 2) := by decide +kernel
theorem dRun_smuggleBetween_165 : decode prog_9_method_30_code 165 = .ok (.dup2, 1) := by decide +kernel
theorem dRun_smuggleBetween_166 : decode prog_9_method_30_code 166 = .ok (.iaload, 1) := by decide +kernel
theorem dRun_smuggleBetween_167 : decode prog_9_method_30_code 167 = .ok (.iload 8, 2) := by decide +kernel
theorem dRun_smuggleBetween_169 : decode prog_9_method_30_code 169 = .ok (.iload 9, 2) := by decide +kernel
theorem dRun_smuggleBetween_171 : decode prog_9_method_30_code 171 = .ok (.isub, 1) := by decide +kernel
theorem dRun_smuggleBetween_172 : decode prog_9_method_30_code 172 = .ok (.iadd, 1) := by decide +kernel
theorem dRun_smuggleBetween_173 : decode prog_9_method_30_code 173 = .ok (.iastore, 1) := by decide +kernel
theorem dRun_smuggleBetween_174 : decode prog_9_method_30_code 174 = .ok (.aload_n 0, 1) := by decide +kernel
theorem dRun_smuggleBetween_175 : decode prog_9_method_30_code 175 = .ok (.getfield 35, 3) := by decide +kernel
theorem dRun_smuggleBetween_178 : decode prog_9_method_30_code 178 = .ok (.getfield 456, 3) := by decide +kernel
theorem dRun_smuggleBetween_181 : decode prog_9_method_30_code 181 = .ok (.iload 7, 2) := by decide +kernel
theorem dRun_smuggleBetween_183 : decode prog_9_method_30_code 183 = .ok (.dup2, 1) := by decide +kernel
theorem dRun_smuggleBetween_184 : decode prog_9_method_30_code 184 = .ok (.iaload, 1) := by decide +kernel
theorem dRun_smuggleBetween_185 : decode prog_9_method_30_code 185 = .ok (.iload 8, 2) := by decide +kernel
theorem dRun_smuggleBetween_187 : decode prog_9_method_30_code 187 = .ok (.iload 9, 2) := by decide +kernel
theorem dRun_smuggleBetween_189 : decode prog_9_method_30_code 189 = .ok (.isub, 1) := by decide +kernel
theorem dRun_smuggleBetween_190 : decode prog_9_method_30_code 190 = .ok (.iadd, 1) := by decide +kernel
theorem dRun_smuggleBetween_191 : decode prog_9_method_30_code 191 = .ok (.iastore, 1) := by decide +kernel
theorem dRun_smuggleBetween_192 : decode prog_9_method_30_code 192 = .ok (.aload_n 0, 1) := by decide +kernel
theorem dRun_smuggleBetween_193 : decode prog_9_method_30_code 193 = .ok (.getfield 87, 3) := by decide +kernel
theorem dRun_smuggleBetween_196 : decode prog_9_method_30_code 196 = .ok (.iconst 3, 1) := by decide +kernel
theorem dRun_smuggleBetween_197 : decode prog_9_method_30_code 197 = .ok (.dup2, 1) := by decide +kernel
theorem dRun_smuggleBetween_198 : decode prog_9_method_30_code 198 = .ok (.laload, 1) := by decide +kernel
theorem dRun_smuggleBetween_199 : decode prog_9_method_30_code 199 = .ok (.iload 8, 2) := by decide +kernel
theorem dRun_smuggleBetween_201 : decode prog_9_method_30_code 201 = .ok (.iload 9, 2) := by decide +kernel
theorem dRun_smuggleBetween_203 : decode prog_9_method_30_code 203 = .ok (.isub, 1) := by decide +kernel
theorem dRun_smuggleBetween_204 : decode prog_9_method_30_code 204 = .ok (.i2l, 1) := by decide +kernel
theorem dRun_smuggleBetween_205 : decode prog_9_method_30_code 205 = .ok (.ladd, 1) := by decide +kernel
theorem dRun_smuggleBetween_206 : decode prog_9_method_30_code 206 = .ok (.lastore, 1) := by decide +kernel
theorem dRun_smuggleBetween_207 : decode prog_9_method_30_code 207 = .ok (.aload_n 0, 1) := by decide +kernel
theorem dRun_smuggleBetween_208 : decode prog_9_method_30_code 208 = .ok (.getfield 87, 3) := by decide +kernel
theorem dRun_smuggleBetween_211 : decode prog_9_method_30_code 211 = .ok (.iconst 4, 1) := by decide +kernel
theorem dRun_smuggleBetween_212 : decode prog_9_method_30_code 212 = .ok (.dup2, 1) := by decide +kernel
theorem dRun_smuggleBetween_213 : decode prog_9_method_30_code 213 = .ok (.laload, 1) := by decide +kernel
theorem dRun_smuggleBetween_214 : decode prog_9_method_30_code 214 = .ok (.iload 9, 2) := by decide +kernel
theorem dRun_smuggleBetween_216 : decode prog_9_method_30_code 216 = .ok (.i2l, 1) := by decide +kernel
theorem dRun_smuggleBetween_217 : decode prog_9_method_30_code 217 = .ok (.ladd, 1) := by decide +kernel
theorem dRun_smuggleBetween_218 : decode prog_9_method_30_code 218 = .ok (.lastore, 1) := by decide +kernel
theorem dRun_smuggleBetween_219 : decode prog_9_method_30_code 219 = .ok (.return_, 1) := by decide +kernel
theorem dTape_init_0 : decode prog_10_method_1_code 0 = .ok (.aload_n 0, 1) := by decide +kernel
theorem dTape_init_1 : decode prog_10_method_1_code 1 = .ok (.invokespecial 3, 3) := by decide +kernel
theorem dTape_init_4 : decode prog_10_method_1_code 4 = .ok (.aload_n 0, 1) := by decide +kernel
theorem dTape_init_5 : decode prog_10_method_1_code 5 = .ok (.sipush 1600, 3) := by decide +kernel
theorem dTape_init_8 : decode prog_10_method_1_code 8 = .ok (.newarray .int, 2) := by decide +kernel
theorem dTape_init_10 : decode prog_10_method_1_code 10 = .ok (.putfield 9, 3) := by decide +kernel
theorem dTape_init_13 : decode prog_10_method_1_code 13 = .ok (.aload_n 0, 1) := by decide +kernel
theorem dTape_init_14 : decode prog_10_method_1_code 14 = .ok (.bipush 32, 2) := by decide +kernel
theorem dTape_init_16 : decode prog_10_method_1_code 16 = .ok (.newarray .long, 2) := by decide +kernel
theorem dTape_init_18 : decode prog_10_method_1_code 18 = .ok (.putfield 15, 3) := by decide +kernel
theorem dTape_init_21 : decode prog_10_method_1_code 21 = .ok (.aload_n 0, 1) := by decide +kernel
theorem dTape_init_22 : decode prog_10_method_1_code 22 = .ok (.sipush 1601, 3) := by decide +kernel
theorem dTape_init_25 : decode prog_10_method_1_code 25 = .ok (.newarray .int, 2) := by decide +kernel
theorem dTape_init_27 : decode prog_10_method_1_code 27 = .ok (.putfield 19, 3) := by decide +kernel
theorem dTape_init_30 : decode prog_10_method_1_code 30 = .ok (.aload_n 0, 1) := by decide +kernel
theorem dTape_init_31 : decode prog_10_method_1_code 31 = .ok (.sipush 1601, 3) := by decide +kernel
theorem dTape_init_34 : decode prog_10_method_1_code 34 = .ok (.newarray .int, 2) := by decide +kernel
theorem dTape_init_36 : decode prog_10_method_1_code 36 = .ok (.putfield 22, 3) := by decide +kernel
theorem dTape_init_39 : decode prog_10_method_1_code 39 = .ok (.aload_n 0, 1) := by decide +kernel
theorem dTape_init_40 : decode prog_10_method_1_code 40 = .ok (.sipush 1601, 3) := by decide +kernel
theorem dTape_init_43 : decode prog_10_method_1_code 43 = .ok (.newarray .int, 2) := by decide +kernel
theorem dTape_init_45 : decode prog_10_method_1_code 45 = .ok (.putfield 25, 3) := by decide +kernel
theorem dTape_init_48 : decode prog_10_method_1_code 48 = .ok (.aload_n 0, 1) := by decide +kernel
theorem dTape_init_49 : decode prog_10_method_1_code 49 = .ok (.sipush 1601, 3) := by decide +kernel
theorem dTape_init_52 : decode prog_10_method_1_code 52 = .ok (.newarray .long, 2) := by decide +kernel
theorem dTape_init_54 : decode prog_10_method_1_code 54 = .ok (.putfield 28, 3) := by decide +kernel
theorem dTape_init_57 : decode prog_10_method_1_code 57 = .ok (.aload_n 0, 1) := by decide +kernel
theorem dTape_init_58 : decode prog_10_method_1_code 58 = .ok (.iconst 0, 1) := by decide +kernel
theorem dTape_init_59 : decode prog_10_method_1_code 59 = .ok (.putfield 31, 3) := by decide +kernel
theorem dTape_init_62 : decode prog_10_method_1_code 62 = .ok (.aload_n 0, 1) := by decide +kernel
theorem dTape_init_63 : decode prog_10_method_1_code 63 = .ok (.iconst 0, 1) := by decide +kernel
theorem dTape_init_64 : decode prog_10_method_1_code 64 = .ok (.putfield 35, 3) := by decide +kernel
theorem dTape_init_67 : decode prog_10_method_1_code 67 = .ok (.aload_n 0, 1) := by decide +kernel
theorem dTape_init_68 : decode prog_10_method_1_code 68 = .ok (.iconst (-1), 1) := by decide +kernel
theorem dTape_init_69 : decode prog_10_method_1_code 69 = .ok (.putfield 38, 3) := by decide +kernel
theorem dTape_init_72 : decode prog_10_method_1_code 72 = .ok (.aload_n 0, 1) := by decide +kernel
theorem dTape_init_73 : decode prog_10_method_1_code 73 = .ok (.iconst 0, 1) := by decide +kernel
theorem dTape_init_74 : decode prog_10_method_1_code 74 = .ok (.putfield 41, 3) := by decide +kernel
theorem dTape_init_77 : decode prog_10_method_1_code 77 = .ok (.aload_n 0, 1) := by decide +kernel
theorem dTape_init_78 : decode prog_10_method_1_code 78 = .ok (.iconst 0, 1) := by decide +kernel
theorem dTape_init_79 : decode prog_10_method_1_code 79 = .ok (.putfield 45, 3) := by decide +kernel
theorem dTape_init_82 : decode prog_10_method_1_code 82 = .ok (.iconst 0, 1) := by decide +kernel
theorem dTape_init_83 : decode prog_10_method_1_code 83 = .ok (.istore_n 1, 1) := by decide +kernel
theorem dTape_init_84 : decode prog_10_method_1_code 84 = .ok (.lconst 0, 1) := by decide +kernel
theorem dTape_init_85 : decode prog_10_method_1_code 85 = .ok (.lstore_n 2, 1) := by decide +kernel
theorem dTape_init_86 : decode prog_10_method_1_code 86 = .ok (.iconst 0, 1) := by decide +kernel
theorem dTape_init_87 : decode prog_10_method_1_code 87 = .ok (.istore 4, 2) := by decide +kernel
theorem dTape_init_89 : decode prog_10_method_1_code 89 = .ok (.iload 4, 2) := by decide +kernel
theorem dTape_init_91 : decode prog_10_method_1_code 91 = .ok (.ldc 48, 2) := by decide +kernel
theorem dTape_init_93 : decode prog_10_method_1_code 93 = .ok (.invokevirtual 50, 3) := by decide +kernel
theorem dTape_init_96 : decode prog_10_method_1_code 96 = .ok (.if_icmp .ge 55, 3) := by decide +kernel
theorem dTape_init_99 : decode prog_10_method_1_code 99 = .ok (.ldc 48, 2) := by decide +kernel
theorem dTape_init_101 : decode prog_10_method_1_code 101 = .ok (.iload 4, 2) := by decide +kernel
theorem dTape_init_103 : decode prog_10_method_1_code 103 = .ok (.invokevirtual 55, 3) := by decide +kernel
theorem dTape_init_106 : decode prog_10_method_1_code 106 = .ok (.invokestatic 59, 3) := by decide +kernel
theorem dTape_init_109 : decode prog_10_method_1_code 109 = .ok (.ifCond .eq 18, 3) := by decide +kernel
theorem dTape_init_112 : decode prog_10_method_1_code 112 = .ok (.lload_n 2, 1) := by decide +kernel
theorem dTape_init_113 : decode prog_10_method_1_code 113 = .ok (.ldc 48, 2) := by decide +kernel
theorem dTape_init_115 : decode prog_10_method_1_code 115 = .ok (.iload 4, 2) := by decide +kernel
theorem dTape_init_117 : decode prog_10_method_1_code 117 = .ok (.invokevirtual 55, 3) := by decide +kernel
theorem dTape_init_120 : decode prog_10_method_1_code 120 = .ok (.invokestatic 63, 3) := by decide +kernel
theorem dTape_init_123 : decode prog_10_method_1_code 123 = .ok (.lstore_n 2, 1) := by decide +kernel
theorem dTape_init_124 : decode prog_10_method_1_code 124 = .ok (.goto 21, 3) := by decide +kernel
theorem dTape_init_127 : decode prog_10_method_1_code 127 = .ok (.iload_n 1, 1) := by decide +kernel
theorem dTape_init_128 : decode prog_10_method_1_code 128 = .ok (.bipush 32, 2) := by decide +kernel
theorem dTape_init_130 : decode prog_10_method_1_code 130 = .ok (.if_icmp .ge 15, 3) := by decide +kernel
theorem dTape_init_133 : decode prog_10_method_1_code 133 = .ok (.aload_n 0, 1) := by decide +kernel
theorem dTape_init_134 : decode prog_10_method_1_code 134 = .ok (.getfield 15, 3) := by decide +kernel
theorem dTape_init_137 : decode prog_10_method_1_code 137 = .ok (.iload_n 1, 1) := by decide +kernel
theorem dTape_init_138 : decode prog_10_method_1_code 138 = .ok (.lload_n 2, 1) := by decide +kernel
theorem dTape_init_139 : decode prog_10_method_1_code 139 = .ok (.lastore, 1) := by decide +kernel
theorem dTape_init_140 : decode prog_10_method_1_code 140 = .ok (.iinc 1 1, 3) := by decide +kernel
theorem dTape_init_143 : decode prog_10_method_1_code 143 = .ok (.lconst 0, 1) := by decide +kernel
theorem dTape_init_144 : decode prog_10_method_1_code 144 = .ok (.lstore_n 2, 1) := by decide +kernel
theorem dTape_init_145 : decode prog_10_method_1_code 145 = .ok (.iinc 4 1, 3) := by decide +kernel
theorem dTape_init_148 : decode prog_10_method_1_code 148 = .ok (.goto (-59), 3) := by decide +kernel
theorem dTape_init_151 : decode prog_10_method_1_code 151 = .ok (.return_, 1) := by decide +kernel
theorem dTape_append_0 : decode prog_10_method_2_code 0 = .ok (.bipush 24, 2) := by decide +kernel
theorem dTape_append_2 : decode prog_10_method_2_code 2 = .ok (.istore_n 2, 1) := by decide +kernel
theorem dTape_append_3 : decode prog_10_method_2_code 3 = .ok (.iload_n 2, 1) := by decide +kernel
theorem dTape_append_4 : decode prog_10_method_2_code 4 = .ok (.ifCond .lt 45, 3) := by decide +kernel
theorem dTape_append_7 : decode prog_10_method_2_code 7 = .ok (.aload_n 0, 1) := by decide +kernel
theorem dTape_append_8 : decode prog_10_method_2_code 8 = .ok (.getfield 31, 3) := by decide +kernel
theorem dTape_append_11 : decode prog_10_method_2_code 11 = .ok (.sipush 1600, 3) := by decide +kernel
theorem dTape_append_14 : decode prog_10_method_2_code 14 = .ok (.if_icmp .ge 35, 3) := by decide +kernel
theorem dTape_append_17 : decode prog_10_method_2_code 17 = .ok (.aload_n 0, 1) := by decide +kernel
theorem dTape_append_18 : decode prog_10_method_2_code 18 = .ok (.getfield 9, 3) := by decide +kernel
theorem dTape_append_21 : decode prog_10_method_2_code 21 = .ok (.aload_n 0, 1) := by decide +kernel
theorem dTape_append_22 : decode prog_10_method_2_code 22 = .ok (.getfield 31, 3) := by decide +kernel
theorem dTape_append_25 : decode prog_10_method_2_code 25 = .ok (.iload_n 1, 1) := by decide +kernel
theorem dTape_append_26 : decode prog_10_method_2_code 26 = .ok (.iload_n 2, 1) := by decide +kernel
theorem dTape_append_27 : decode prog_10_method_2_code 27 = .ok (.iushr, 1) := by decide +kernel
theorem dTape_append_28 : decode prog_10_method_2_code 28 = .ok (.sipush 255, 3) := by decide +kernel
theorem dTape_append_31 : decode prog_10_method_2_code 31 = .ok (.iand, 1) := by decide +kernel
theorem dTape_append_32 : decode prog_10_method_2_code 32 = .ok (.iastore, 1) := by decide +kernel
theorem dTape_append_33 : decode prog_10_method_2_code 33 = .ok (.aload_n 0, 1) := by decide +kernel
theorem dTape_append_34 : decode prog_10_method_2_code 34 = .ok (.dup, 1) := by decide +kernel
theorem dTape_append_35 : decode prog_10_method_2_code 35 = .ok (.getfield 31, 3) := by decide +kernel
theorem dTape_append_38 : decode prog_10_method_2_code 38 = .ok (.iconst 1, 1) := by decide +kernel
theorem dTape_append_39 : decode prog_10_method_2_code 39 = .ok (.iadd, 1) := by decide +kernel
theorem dTape_append_40 : decode prog_10_method_2_code 40 = .ok (.putfield 31, 3) := by decide +kernel
theorem dTape_append_43 : decode prog_10_method_2_code 43 = .ok (.iinc 2 (-8), 3) := by decide +kernel
theorem dTape_append_46 : decode prog_10_method_2_code 46 = .ok (.goto (-43), 3) := by decide +kernel
theorem dTape_append_49 : decode prog_10_method_2_code 49 = .ok (.return_, 1) := by decide +kernel
theorem dTape_startReading_0 : decode prog_10_method_3_code 0 = .ok (.aload_n 0, 1) := by decide +kernel
theorem dTape_startReading_1 : decode prog_10_method_3_code 1 = .ok (.iload_n 1, 1) := by decide +kernel
theorem dTape_startReading_2 : decode prog_10_method_3_code 2 = .ok (.putfield 41, 3) := by decide +kernel
theorem dTape_startReading_5 : decode prog_10_method_3_code 5 = .ok (.aload_n 0, 1) := by decide +kernel
theorem dTape_startReading_6 : decode prog_10_method_3_code 6 = .ok (.iconst 0, 1) := by decide +kernel
theorem dTape_startReading_7 : decode prog_10_method_3_code 7 = .ok (.putfield 35, 3) := by decide +kernel
theorem dTape_startReading_10 : decode prog_10_method_3_code 10 = .ok (.aload_n 0, 1) := by decide +kernel
theorem dTape_startReading_11 : decode prog_10_method_3_code 11 = .ok (.iconst (-1), 1) := by decide +kernel
theorem dTape_startReading_12 : decode prog_10_method_3_code 12 = .ok (.putfield 38, 3) := by decide +kernel
theorem dTape_startReading_15 : decode prog_10_method_3_code 15 = .ok (.iconst 0, 1) := by decide +kernel
theorem dTape_startReading_16 : decode prog_10_method_3_code 16 = .ok (.istore_n 2, 1) := by decide +kernel
theorem dTape_startReading_17 : decode prog_10_method_3_code 17 = .ok (.iconst 1, 1) := by decide +kernel
theorem dTape_startReading_18 : decode prog_10_method_3_code 18 = .ok (.istore_n 3, 1) := by decide +kernel
theorem dTape_startReading_19 : decode prog_10_method_3_code 19 = .ok (.iconst 0, 1) := by decide +kernel
theorem dTape_startReading_20 : decode prog_10_method_3_code 20 = .ok (.istore 4, 2) := by decide +kernel
theorem dTape_startReading_22 : decode prog_10_method_3_code 22 = .ok (.iload 4, 2) := by decide +kernel
theorem dTape_startReading_24 : decode prog_10_method_3_code 24 = .ok (.sipush 1601, 3) := by decide +kernel
theorem dTape_startReading_27 : decode prog_10_method_3_code 27 = .ok (.if_icmp .ge 48, 3) := by decide +kernel
theorem dTape_startReading_30 : decode prog_10_method_3_code 30 = .ok (.iload_n 3, 1) := by decide +kernel
theorem dTape_startReading_31 : decode prog_10_method_3_code 31 = .ok (.ifCond .eq 44, 3) := by decide +kernel
theorem dTape_startReading_34 : decode prog_10_method_3_code 34 = .ok (.aload_n 0, 1) := by decide +kernel
theorem dTape_startReading_35 : decode prog_10_method_3_code 35 = .ok (.iload 4, 2) := by decide +kernel
theorem dTape_startReading_37 : decode prog_10_method_3_code 37 = .ok (.iload_n 2, 1) := by decide +kernel
theorem dTape_startReading_38 : decode prog_10_method_3_code 38 = .ok (.invokevirtual 67, 3) := by decide +kernel
theorem dTape_startReading_41 : decode prog_10_method_3_code 41 = .ok (.istore_n 2, 1) := by decide +kernel
theorem dTape_startReading_42 : decode prog_10_method_3_code 42 = .ok (.aload_n 0, 1) := by decide +kernel
theorem dTape_startReading_43 : decode prog_10_method_3_code 43 = .ok (.getfield 19, 3) := by decide +kernel
theorem dTape_startReading_46 : decode prog_10_method_3_code 46 = .ok (.iload 4, 2) := by decide +kernel
theorem dTape_startReading_48 : decode prog_10_method_3_code 48 = .ok (.iaload, 1) := by decide +kernel
theorem dTape_startReading_49 : decode prog_10_method_3_code 49 = .ok (.ifCond .eq 18, 3) := by decide +kernel
theorem dTape_startReading_52 : decode prog_10_method_3_code 52 = .ok (.aload_n 0, 1) := by decide +kernel
theorem dTape_startReading_53 : decode prog_10_method_3_code 53 = .ok (.getfield 19, 3) := by decide +kernel
theorem dTape_startReading_56 : decode prog_10_method_3_code 56 = .ok (.iload 4, 2) := by decide +kernel
theorem dTape_startReading_58 : decode prog_10_method_3_code 58 = .ok (.iaload, 1) := by decide +kernel
theorem dTape_startReading_59 : decode prog_10_method_3_code 59 = .ok (.iconst 5, 1) := by decide +kernel
theorem dTape_startReading_60 : decode prog_10_method_3_code 60 = .ok (.if_icmp .eq 7, 3) := by decide +kernel
theorem dTape_startReading_63 : decode prog_10_method_3_code 63 = .ok (.iconst 1, 1) := by decide +kernel
theorem dTape_startReading_64 : decode prog_10_method_3_code 64 = .ok (.goto 4, 3) := by decide +kernel
theorem dTape_startReading_67 : decode prog_10_method_3_code 67 = .ok (.iconst 0, 1) := by decide +kernel
theorem dTape_startReading_68 : decode prog_10_method_3_code 68 = .ok (.istore_n 3, 1) := by decide +kernel
theorem dTape_startReading_69 : decode prog_10_method_3_code 69 = .ok (.iinc 4 1, 3) := by decide +kernel
theorem dTape_startReading_72 : decode prog_10_method_3_code 72 = .ok (.goto (-50), 3) := by decide +kernel
theorem dTape_startReading_75 : decode prog_10_method_3_code 75 = .ok (.aload_n 0, 1) := by decide +kernel
theorem dTape_startReading_76 : decode prog_10_method_3_code 76 = .ok (.iconst 0, 1) := by decide +kernel
theorem dTape_startReading_77 : decode prog_10_method_3_code 77 = .ok (.putfield 45, 3) := by decide +kernel
theorem dTape_startReading_80 : decode prog_10_method_3_code 80 = .ok (.return_, 1) := by decide +kernel
theorem dTape_cutToken_0 : decode prog_10_method_4_code 0 = .ok (.iload_n 2, 1) := by decide +kernel
theorem dTape_cutToken_1 : decode prog_10_method_4_code 1 = .ok (.istore_n 3, 1) := by decide +kernel
theorem dTape_cutToken_2 : decode prog_10_method_4_code 2 = .ok (.iload_n 3, 1) := by decide +kernel
theorem dTape_cutToken_3 : decode prog_10_method_4_code 3 = .ok (.aload_n 0, 1) := by decide +kernel
theorem dTape_cutToken_4 : decode prog_10_method_4_code 4 = .ok (.getfield 31, 3) := by decide +kernel
theorem dTape_cutToken_7 : decode prog_10_method_4_code 7 = .ok (.if_icmp .ge 29, 3) := by decide +kernel
theorem dTape_cutToken_10 : decode prog_10_method_4_code 10 = .ok (.aload_n 0, 1) := by decide +kernel
theorem dTape_cutToken_11 : decode prog_10_method_4_code 11 = .ok (.iload_n 3, 1) := by decide +kernel
theorem dTape_cutToken_12 : decode prog_10_method_4_code 12 = .ok (.invokevirtual 71, 3) := by decide +kernel
theorem dTape_cutToken_15 : decode prog_10_method_4_code 15 = .ok (.bipush 32, 2) := by decide +kernel
theorem dTape_cutToken_17 : decode prog_10_method_4_code 17 = .ok (.if_icmp .eq 13, 3) := by decide +kernel
theorem dTape_cutToken_20 : decode prog_10_method_4_code 20 = .ok (.aload_n 0, 1) := by decide +kernel
theorem dTape_cutToken_21 : decode prog_10_method_4_code 21 = .ok (.iload_n 3, 1) := by decide +kernel
theorem dTape_cutToken_22 : decode prog_10_method_4_code 22 = .ok (.invokevirtual 71, 3) := by decide +kernel
theorem dTape_cutToken_25 : decode prog_10_method_4_code 25 = .ok (.bipush 10, 2) := by decide +kernel
theorem dTape_cutToken_27 : decode prog_10_method_4_code 27 = .ok (.if_icmp .ne 9, 3) := by decide +kernel
theorem dTape_cutToken_30 : decode prog_10_method_4_code 30 = .ok (.iinc 3 1, 3) := by decide +kernel
theorem dTape_cutToken_33 : decode prog_10_method_4_code 33 = .ok (.goto (-31), 3) := by decide +kernel
theorem dTape_cutToken_36 : decode prog_10_method_4_code 36 = .ok (.aload_n 0, 1) := by decide +kernel
theorem dTape_cutToken_37 : decode prog_10_method_4_code 37 = .ok (.getfield 22, 3) := by decide +kernel
theorem dTape_cutToken_40 : decode prog_10_method_4_code 40 = .ok (.iload_n 1, 1) := by decide +kernel
theorem dTape_cutToken_41 : decode prog_10_method_4_code 41 = .ok (.iload_n 3, 1) := by decide +kernel
theorem dTape_cutToken_42 : decode prog_10_method_4_code 42 = .ok (.iastore, 1) := by decide +kernel
theorem dTape_cutToken_43 : decode prog_10_method_4_code 43 = .ok (.aload_n 0, 1) := by decide +kernel
theorem dTape_cutToken_44 : decode prog_10_method_4_code 44 = .ok (.getfield 25, 3) := by decide +kernel
theorem dTape_cutToken_47 : decode prog_10_method_4_code 47 = .ok (.iload_n 1, 1) := by decide +kernel
theorem dTape_cutToken_48 : decode prog_10_method_4_code 48 = .ok (.iconst (-1), 1) := by decide +kernel
theorem dTape_cutToken_49 : decode prog_10_method_4_code 49 = .ok (.iastore, 1) := by decide +kernel
theorem dTape_cutToken_50 : decode prog_10_method_4_code 50 = .ok (.iload_n 3, 1) := by decide +kernel
theorem dTape_cutToken_51 : decode prog_10_method_4_code 51 = .ok (.aload_n 0, 1) := by decide +kernel
theorem dTape_cutToken_52 : decode prog_10_method_4_code 52 = .ok (.getfield 31, 3) := by decide +kernel
theorem dTape_cutToken_55 : decode prog_10_method_4_code 55 = .ok (.if_icmp .lt 12, 3) := by decide +kernel
theorem dTape_cutToken_58 : decode prog_10_method_4_code 58 = .ok (.aload_n 0, 1) := by decide +kernel
theorem dTape_cutToken_59 : decode prog_10_method_4_code 59 = .ok (.getfield 19, 3) := by decide +kernel
theorem dTape_cutToken_62 : decode prog_10_method_4_code 62 = .ok (.iload_n 1, 1) := by decide +kernel
theorem dTape_cutToken_63 : decode prog_10_method_4_code 63 = .ok (.iconst 0, 1) := by decide +kernel
theorem dTape_cutToken_64 : decode prog_10_method_4_code 64 = .ok (.iastore, 1) := by decide +kernel
theorem dTape_cutToken_65 : decode prog_10_method_4_code 65 = .ok (.iload_n 3, 1) := by decide +kernel
theorem dTape_cutToken_66 : decode prog_10_method_4_code 66 = .ok (.ireturn, 1) := by decide +kernel
theorem dTape_cutToken_67 : decode prog_10_method_4_code 67 = .ok (.aload_n 0, 1) := by decide +kernel
theorem dTape_cutToken_68 : decode prog_10_method_4_code 68 = .ok (.iload_n 3, 1) := by decide +kernel
theorem dTape_cutToken_69 : decode prog_10_method_4_code 69 = .ok (.invokevirtual 71, 3) := by decide +kernel
theorem dTape_cutToken_72 : decode prog_10_method_4_code 72 = .ok (.invokestatic 59, 3) := by decide +kernel
theorem dTape_cutToken_75 : decode prog_10_method_4_code 75 = .ok (.ifCond .eq 35, 3) := by decide +kernel
theorem dTape_cutToken_78 : decode prog_10_method_4_code 78 = .ok (.aload_n 0, 1) := by decide +kernel
theorem dTape_cutToken_79 : decode prog_10_method_4_code 79 = .ok (.getfield 41, 3) := by decide +kernel
theorem dTape_cutToken_82 : decode prog_10_method_4_code 82 = .ok (.ifCond .eq 21, 3) := by decide +kernel
theorem dTape_cutToken_85 : decode prog_10_method_4_code 85 = .ok (.aload_n 0, 1) := by decide +kernel
theorem dTape_cutToken_86 : decode prog_10_method_4_code 86 = .ok (.iload_n 3, 1) := by decide +kernel
theorem dTape_cutToken_87 : decode prog_10_method_4_code 87 = .ok (.invokevirtual 75, 3) := by decide +kernel
theorem dTape_cutToken_90 : decode prog_10_method_4_code 90 = .ok (.iconst (-1), 1) := by decide +kernel
theorem dTape_cutToken_91 : decode prog_10_method_4_code 91 = .ok (.if_icmp .eq 12, 3) := by decide +kernel
theorem dTape_cutToken_94 : decode prog_10_method_4_code 94 = .ok (.aload_n 0, 1) := by decide +kernel
theorem dTape_cutToken_95 : decode prog_10_method_4_code 95 = .ok (.iload_n 1, 1) := by decide +kernel
theorem dTape_cutToken_96 : decode prog_10_method_4_code 96 = .ok (.iload_n 3, 1) := by decide +kernel
theorem dTape_cutToken_97 : decode prog_10_method_4_code 97 = .ok (.invokevirtual 78, 3) := by decide +kernel
theorem dTape_cutToken_100 : decode prog_10_method_4_code 100 = .ok (.goto 9, 3) := by decide +kernel
theorem dTape_cutToken_103 : decode prog_10_method_4_code 103 = .ok (.aload_n 0, 1) := by decide +kernel
theorem dTape_cutToken_104 : decode prog_10_method_4_code 104 = .ok (.iload_n 1, 1) := by decide +kernel
theorem dTape_cutToken_105 : decode prog_10_method_4_code 105 = .ok (.iload_n 3, 1) := by decide +kernel
theorem dTape_cutToken_106 : decode prog_10_method_4_code 106 = .ok (.invokevirtual 81, 3) := by decide +kernel
theorem dTape_cutToken_109 : decode prog_10_method_4_code 109 = .ok (.ireturn, 1) := by decide +kernel
theorem dTape_cutToken_110 : decode prog_10_method_4_code 110 = .ok (.aload_n 0, 1) := by decide +kernel
theorem dTape_cutToken_111 : decode prog_10_method_4_code 111 = .ok (.iload_n 3, 1) := by decide +kernel
theorem dTape_cutToken_112 : decode prog_10_method_4_code 112 = .ok (.invokevirtual 71, 3) := by decide +kernel
theorem dTape_cutToken_115 : decode prog_10_method_4_code 115 = .ok (.invokestatic 84, 3) := by decide +kernel
theorem dTape_cutToken_118 : decode prog_10_method_4_code 118 = .ok (.ifCond .eq 10, 3) := by decide +kernel
theorem dTape_cutToken_121 : decode prog_10_method_4_code 121 = .ok (.aload_n 0, 1) := by decide +kernel
theorem dTape_cutToken_122 : decode prog_10_method_4_code 122 = .ok (.iload_n 1, 1) := by decide +kernel
theorem dTape_cutToken_123 : decode prog_10_method_4_code 123 = .ok (.iload_n 3, 1) := by decide +kernel
theorem dTape_cutToken_124 : decode prog_10_method_4_code 124 = .ok (.invokevirtual 87, 3) := by decide +kernel
theorem dTape_cutToken_127 : decode prog_10_method_4_code 127 = .ok (.ireturn, 1) := by decide +kernel
theorem dTape_cutToken_128 : decode prog_10_method_4_code 128 = .ok (.aload_n 0, 1) := by decide +kernel
theorem dTape_cutToken_129 : decode prog_10_method_4_code 129 = .ok (.getfield 19, 3) := by decide +kernel
theorem dTape_cutToken_132 : decode prog_10_method_4_code 132 = .ok (.iload_n 1, 1) := by decide +kernel
theorem dTape_cutToken_133 : decode prog_10_method_4_code 133 = .ok (.ldc 90, 2) := by decide +kernel
theorem dTape_cutToken_135 : decode prog_10_method_4_code 135 = .ok (.aload_n 0, 1) := by decide +kernel
theorem dTape_cutToken_136 : decode prog_10_method_4_code 136 = .ok (.iload_n 3, 1) := by decide +kernel
theorem dTape_cutToken_137 : decode prog_10_method_4_code 137 = .ok (.invokevirtual 71, 3) := by decide +kernel
theorem dTape_cutToken_140 : decode prog_10_method_4_code 140 = .ok (.i2c, 1) := by decide +kernel
theorem dTape_cutToken_141 : decode prog_10_method_4_code 141 = .ok (.invokevirtual 92, 3) := by decide +kernel
theorem dTape_cutToken_144 : decode prog_10_method_4_code 144 = .ok (.ifCond .ge 7, 3) := by decide +kernel
theorem dTape_cutToken_147 : decode prog_10_method_4_code 147 = .ok (.iconst 5, 1) := by decide +kernel
theorem dTape_cutToken_148 : decode prog_10_method_4_code 148 = .ok (.goto 4, 3) := by decide +kernel
theorem dTape_cutToken_151 : decode prog_10_method_4_code 151 = .ok (.iconst 4, 1) := by decide +kernel
theorem dTape_cutToken_152 : decode prog_10_method_4_code 152 = .ok (.iastore, 1) := by decide +kernel
theorem dTape_cutToken_153 : decode prog_10_method_4_code 153 = .ok (.aload_n 0, 1) := by decide +kernel
theorem dTape_cutToken_154 : decode prog_10_method_4_code 154 = .ok (.getfield 25, 3) := by decide +kernel
theorem dTape_cutToken_157 : decode prog_10_method_4_code 157 = .ok (.iload_n 1, 1) := by decide +kernel
theorem dTape_cutToken_158 : decode prog_10_method_4_code 158 = .ok (.aload_n 0, 1) := by decide +kernel
theorem dTape_cutToken_159 : decode prog_10_method_4_code 159 = .ok (.iload_n 3, 1) := by decide +kernel
theorem dTape_cutToken_160 : decode prog_10_method_4_code 160 = .ok (.invokevirtual 71, 3) := by decide +kernel
theorem dTape_cutToken_163 : decode prog_10_method_4_code 163 = .ok (.iastore, 1) := by decide +kernel
theorem dTape_cutToken_164 : decode prog_10_method_4_code 164 = .ok (.iload_n 3, 1) := by decide +kernel
theorem dTape_cutToken_165 : decode prog_10_method_4_code 165 = .ok (.iconst 1, 1) := by decide +kernel
theorem dTape_cutToken_166 : decode prog_10_method_4_code 166 = .ok (.iadd, 1) := by decide +kernel
theorem dTape_cutToken_167 : decode prog_10_method_4_code 167 = .ok (.ireturn, 1) := by decide +kernel
theorem dTape_cutPlace_0 : decode prog_10_method_5_code 0 = .ok (.aload_n 0, 1) := by decide +kernel
theorem dTape_cutPlace_1 : decode prog_10_method_5_code 1 = .ok (.getfield 19, 3) := by decide +kernel
theorem dTape_cutPlace_4 : decode prog_10_method_5_code 4 = .ok (.iload_n 1, 1) := by decide +kernel
theorem dTape_cutPlace_5 : decode prog_10_method_5_code 5 = .ok (.iconst 3, 1) := by decide +kernel
theorem dTape_cutPlace_6 : decode prog_10_method_5_code 6 = .ok (.iastore, 1) := by decide +kernel
theorem dTape_cutPlace_7 : decode prog_10_method_5_code 7 = .ok (.aload_n 0, 1) := by decide +kernel
theorem dTape_cutPlace_8 : decode prog_10_method_5_code 8 = .ok (.getfield 25, 3) := by decide +kernel
theorem dTape_cutPlace_11 : decode prog_10_method_5_code 11 = .ok (.iload_n 1, 1) := by decide +kernel
theorem dTape_cutPlace_12 : decode prog_10_method_5_code 12 = .ok (.aload_n 0, 1) := by decide +kernel
theorem dTape_cutPlace_13 : decode prog_10_method_5_code 13 = .ok (.iload_n 2, 1) := by decide +kernel
theorem dTape_cutPlace_14 : decode prog_10_method_5_code 14 = .ok (.invokevirtual 75, 3) := by decide +kernel
theorem dTape_cutPlace_17 : decode prog_10_method_5_code 17 = .ok (.iastore, 1) := by decide +kernel
theorem dTape_cutPlace_18 : decode prog_10_method_5_code 18 = .ok (.aload_n 0, 1) := by decide +kernel
theorem dTape_cutPlace_19 : decode prog_10_method_5_code 19 = .ok (.iload_n 2, 1) := by decide +kernel
theorem dTape_cutPlace_20 : decode prog_10_method_5_code 20 = .ok (.iconst 2, 1) := by decide +kernel
theorem dTape_cutPlace_21 : decode prog_10_method_5_code 21 = .ok (.iadd, 1) := by decide +kernel
theorem dTape_cutPlace_22 : decode prog_10_method_5_code 22 = .ok (.invokevirtual 71, 3) := by decide +kernel
theorem dTape_cutPlace_25 : decode prog_10_method_5_code 25 = .ok (.invokestatic 84, 3) := by decide +kernel
theorem dTape_cutPlace_28 : decode prog_10_method_5_code 28 = .ok (.ifCond .eq 9, 3) := by decide +kernel
theorem dTape_cutPlace_31 : decode prog_10_method_5_code 31 = .ok (.iload_n 2, 1) := by decide +kernel
theorem dTape_cutPlace_32 : decode prog_10_method_5_code 32 = .ok (.iconst 3, 1) := by decide +kernel
theorem dTape_cutPlace_33 : decode prog_10_method_5_code 33 = .ok (.iadd, 1) := by decide +kernel
theorem dTape_cutPlace_34 : decode prog_10_method_5_code 34 = .ok (.goto 6, 3) := by decide +kernel
theorem dTape_cutPlace_37 : decode prog_10_method_5_code 37 = .ok (.iload_n 2, 1) := by decide +kernel
theorem dTape_cutPlace_38 : decode prog_10_method_5_code 38 = .ok (.iconst 2, 1) := by decide +kernel
theorem dTape_cutPlace_39 : decode prog_10_method_5_code 39 = .ok (.iadd, 1) := by decide +kernel
theorem dTape_cutPlace_40 : decode prog_10_method_5_code 40 = .ok (.ireturn, 1) := by decide +kernel
theorem dTape_placeAt_0 : decode prog_10_method_6_code 0 = .ok (.aload_n 0, 1) := by decide +kernel
theorem dTape_placeAt_1 : decode prog_10_method_6_code 1 = .ok (.iload_n 1, 1) := by decide +kernel
theorem dTape_placeAt_2 : decode prog_10_method_6_code 2 = .ok (.invokevirtual 71, 3) := by decide +kernel
theorem dTape_placeAt_5 : decode prog_10_method_6_code 5 = .ok (.bipush 112, 2) := by decide +kernel
theorem dTape_placeAt_7 : decode prog_10_method_6_code 7 = .ok (.if_icmp .ne 16, 3) := by decide +kernel
theorem dTape_placeAt_10 : decode prog_10_method_6_code 10 = .ok (.aload_n 0, 1) := by decide +kernel
theorem dTape_placeAt_11 : decode prog_10_method_6_code 11 = .ok (.iload_n 1, 1) := by decide +kernel
theorem dTape_placeAt_12 : decode prog_10_method_6_code 12 = .ok (.iconst 1, 1) := by decide +kernel
theorem dTape_placeAt_13 : decode prog_10_method_6_code 13 = .ok (.iadd, 1) := by decide +kernel
theorem dTape_placeAt_14 : decode prog_10_method_6_code 14 = .ok (.invokevirtual 71, 3) := by decide +kernel
theorem dTape_placeAt_17 : decode prog_10_method_6_code 17 = .ok (.invokestatic 84, 3) := by decide +kernel
theorem dTape_placeAt_20 : decode prog_10_method_6_code 20 = .ok (.ifCond .ne 5, 3) := by decide +kernel
theorem dTape_placeAt_23 : decode prog_10_method_6_code 23 = .ok (.iconst (-1), 1) := by decide +kernel
theorem dTape_placeAt_24 : decode prog_10_method_6_code 24 = .ok (.ireturn, 1) := by decide +kernel
theorem dTape_placeAt_25 : decode prog_10_method_6_code 25 = .ok (.aload_n 0, 1) := by decide +kernel
theorem dTape_placeAt_26 : decode prog_10_method_6_code 26 = .ok (.iload_n 1, 1) := by decide +kernel
theorem dTape_placeAt_27 : decode prog_10_method_6_code 27 = .ok (.iconst 1, 1) := by decide +kernel
theorem dTape_placeAt_28 : decode prog_10_method_6_code 28 = .ok (.iadd, 1) := by decide +kernel
theorem dTape_placeAt_29 : decode prog_10_method_6_code 29 = .ok (.invokevirtual 71, 3) := by decide +kernel
theorem dTape_placeAt_32 : decode prog_10_method_6_code 32 = .ok (.bipush 48, 2) := by decide +kernel
theorem dTape_placeAt_34 : decode prog_10_method_6_code 34 = .ok (.isub, 1) := by decide +kernel
theorem dTape_placeAt_35 : decode prog_10_method_6_code 35 = .ok (.istore_n 2, 1) := by decide +kernel
theorem dTape_placeAt_36 : decode prog_10_method_6_code 36 = .ok (.iload_n 1, 1) := by decide +kernel
theorem dTape_placeAt_37 : decode prog_10_method_6_code 37 = .ok (.iconst 2, 1) := by decide +kernel
theorem dTape_placeAt_38 : decode prog_10_method_6_code 38 = .ok (.iadd, 1) := by decide +kernel
theorem dTape_placeAt_39 : decode prog_10_method_6_code 39 = .ok (.istore_n 3, 1) := by decide +kernel
theorem dTape_placeAt_40 : decode prog_10_method_6_code 40 = .ok (.aload_n 0, 1) := by decide +kernel
theorem dTape_placeAt_41 : decode prog_10_method_6_code 41 = .ok (.iload_n 3, 1) := by decide +kernel
theorem dTape_placeAt_42 : decode prog_10_method_6_code 42 = .ok (.invokevirtual 71, 3) := by decide +kernel
theorem dTape_placeAt_45 : decode prog_10_method_6_code 45 = .ok (.invokestatic 84, 3) := by decide +kernel
theorem dTape_placeAt_48 : decode prog_10_method_6_code 48 = .ok (.ifCond .eq 20, 3) := by decide +kernel
theorem dTape_placeAt_51 : decode prog_10_method_6_code 51 = .ok (.iload_n 2, 1) := by decide +kernel
theorem dTape_placeAt_52 : decode prog_10_method_6_code 52 = .ok (.bipush 10, 2) := by decide +kernel
theorem dTape_placeAt_54 : decode prog_10_method_6_code 54 = .ok (.imul, 1) := by decide +kernel
theorem dTape_placeAt_55 : decode prog_10_method_6_code 55 = .ok (.aload_n 0, 1) := by decide +kernel
theorem dTape_placeAt_56 : decode prog_10_method_6_code 56 = .ok (.iload_n 3, 1) := by decide +kernel
theorem dTape_placeAt_57 : decode prog_10_method_6_code 57 = .ok (.invokevirtual 71, 3) := by decide +kernel
theorem dTape_placeAt_60 : decode prog_10_method_6_code 60 = .ok (.iadd, 1) := by decide +kernel
theorem dTape_placeAt_61 : decode prog_10_method_6_code 61 = .ok (.bipush 48, 2) := by decide +kernel
theorem dTape_placeAt_63 : decode prog_10_method_6_code 63 = .ok (.isub, 1) := by decide +kernel
theorem dTape_placeAt_64 : decode prog_10_method_6_code 64 = .ok (.istore_n 2, 1) := by decide +kernel
theorem dTape_placeAt_65 : decode prog_10_method_6_code 65 = .ok (.iinc 3 1, 3) := by decide +kernel
theorem dTape_placeAt_68 : decode prog_10_method_6_code 68 = .ok (.aload_n 0, 1) := by decide +kernel
theorem dTape_placeAt_69 : decode prog_10_method_6_code 69 = .ok (.iload_n 3, 1) := by decide +kernel
theorem dTape_placeAt_70 : decode prog_10_method_6_code 70 = .ok (.invokevirtual 71, 3) := by decide +kernel
theorem dTape_placeAt_73 : decode prog_10_method_6_code 73 = .ok (.invokestatic 84, 3) := by decide +kernel
theorem dTape_placeAt_76 : decode prog_10_method_6_code 76 = .ok (.ifCond .ne 14, 3) := by decide +kernel
theorem dTape_placeAt_79 : decode prog_10_method_6_code 79 = .ok (.aload_n 0, 1) := by decide +kernel
theorem dTape_placeAt_80 : decode prog_10_method_6_code 80 = .ok (.iload_n 3, 1) := by decide +kernel
theorem dTape_placeAt_81 : decode prog_10_method_6_code 81 = .ok (.invokevirtual 71, 3) := by decide +kernel
theorem dTape_placeAt_84 : decode prog_10_method_6_code 84 = .ok (.invokestatic 59, 3) := by decide +kernel
theorem dTape_placeAt_87 : decode prog_10_method_6_code 87 = .ok (.ifCond .eq 7, 3) := by decide +kernel
theorem dTape_placeAt_90 : decode prog_10_method_6_code 90 = .ok (.iconst 1, 1) := by decide +kernel
theorem dTape_placeAt_91 : decode prog_10_method_6_code 91 = .ok (.goto 4, 3) := by decide +kernel
theorem dTape_placeAt_94 : decode prog_10_method_6_code 94 = .ok (.iconst 0, 1) := by decide +kernel
theorem dTape_placeAt_95 : decode prog_10_method_6_code 95 = .ok (.istore 4, 2) := by decide +kernel
theorem dTape_placeAt_97 : decode prog_10_method_6_code 97 = .ok (.iload 4, 2) := by decide +kernel
theorem dTape_placeAt_99 : decode prog_10_method_6_code 99 = .ok (.ifCond .ne 9, 3) := by decide +kernel
theorem dTape_placeAt_102 : decode prog_10_method_6_code 102 = .ok (.iload_n 2, 1) := by decide +kernel
theorem dTape_placeAt_103 : decode prog_10_method_6_code 103 = .ok (.bipush 16, 2) := by decide +kernel
theorem dTape_placeAt_105 : decode prog_10_method_6_code 105 = .ok (.if_icmp .lt 7, 3) := by decide +kernel
theorem dTape_placeAt_108 : decode prog_10_method_6_code 108 = .ok (.iconst (-1), 1) := by decide +kernel
theorem dTape_placeAt_109 : decode prog_10_method_6_code 109 = .ok (.goto 4, 3) := by decide +kernel
theorem dTape_placeAt_112 : decode prog_10_method_6_code 112 = .ok (.iload_n 2, 1) := by decide +kernel
theorem dTape_placeAt_113 : decode prog_10_method_6_code 113 = .ok (.ireturn, 1) := by decide +kernel
theorem dTape_cutWord_0 : decode prog_10_method_7_code 0 = .ok (.iload_n 2, 1) := by decide +kernel
theorem dTape_cutWord_1 : decode prog_10_method_7_code 1 = .ok (.istore_n 3, 1) := by decide +kernel
theorem dTape_cutWord_2 : decode prog_10_method_7_code 2 = .ok (.lconst 0, 1) := by decide +kernel
theorem dTape_cutWord_3 : decode prog_10_method_7_code 3 = .ok (.lstore 4, 2) := by decide +kernel
theorem dTape_cutWord_5 : decode prog_10_method_7_code 5 = .ok (.iload_n 3, 1) := by decide +kernel
theorem dTape_cutWord_6 : decode prog_10_method_7_code 6 = .ok (.aload_n 0, 1) := by decide +kernel
theorem dTape_cutWord_7 : decode prog_10_method_7_code 7 = .ok (.getfield 31, 3) := by decide +kernel
theorem dTape_cutWord_10 : decode prog_10_method_7_code 10 = .ok (.if_icmp .ge 32, 3) := by decide +kernel
theorem dTape_cutWord_13 : decode prog_10_method_7_code 13 = .ok (.aload_n 0, 1) := by decide +kernel
theorem dTape_cutWord_14 : decode prog_10_method_7_code 14 = .ok (.iload_n 3, 1) := by decide +kernel
theorem dTape_cutWord_15 : decode prog_10_method_7_code 15 = .ok (.invokevirtual 71, 3) := by decide +kernel
theorem dTape_cutWord_18 : decode prog_10_method_7_code 18 = .ok (.invokestatic 59, 3) := by decide +kernel
theorem dTape_cutWord_21 : decode prog_10_method_7_code 21 = .ok (.ifCond .eq 21, 3) := by decide +kernel
theorem dTape_cutWord_24 : decode prog_10_method_7_code 24 = .ok (.lload 4, 2) := by decide +kernel
theorem dTape_cutWord_26 : decode prog_10_method_7_code 26 = .ok (.aload_n 0, 1) := by decide +kernel
theorem dTape_cutWord_27 : decode prog_10_method_7_code 27 = .ok (.iload_n 3, 1) := by decide +kernel
theorem dTape_cutWord_28 : decode prog_10_method_7_code 28 = .ok (.invokevirtual 71, 3) := by decide +kernel
theorem dTape_cutWord_31 : decode prog_10_method_7_code 31 = .ok (.invokestatic 63, 3) := by decide +kernel
theorem dTape_cutWord_34 : decode prog_10_method_7_code 34 = .ok (.lstore 4, 2) := by decide +kernel
theorem dTape_cutWord_36 : decode prog_10_method_7_code 36 = .ok (.iinc 3 1, 3) := by decide +kernel
theorem dTape_cutWord_39 : decode prog_10_method_7_code 39 = .ok (.goto (-34), 3) := by decide +kernel
theorem dTape_cutWord_42 : decode prog_10_method_7_code 42 = .ok (.aload_n 0, 1) := by decide +kernel
theorem dTape_cutWord_43 : decode prog_10_method_7_code 43 = .ok (.getfield 19, 3) := by decide +kernel
theorem dTape_cutWord_46 : decode prog_10_method_7_code 46 = .ok (.iload_n 1, 1) := by decide +kernel
theorem dTape_cutWord_47 : decode prog_10_method_7_code 47 = .ok (.iload_n 3, 1) := by decide +kernel
theorem dTape_cutWord_48 : decode prog_10_method_7_code 48 = .ok (.iload_n 2, 1) := by decide +kernel
theorem dTape_cutWord_49 : decode prog_10_method_7_code 49 = .ok (.isub, 1) := by decide +kernel
theorem dTape_cutWord_50 : decode prog_10_method_7_code 50 = .ok (.bipush 8, 2) := by decide +kernel
theorem dTape_cutWord_52 : decode prog_10_method_7_code 52 = .ok (.if_icmp .le 7, 3) := by decide +kernel
theorem dTape_cutWord_55 : decode prog_10_method_7_code 55 = .ok (.iconst 5, 1) := by decide +kernel
theorem dTape_cutWord_56 : decode prog_10_method_7_code 56 = .ok (.goto 4, 3) := by decide +kernel
theorem dTape_cutWord_59 : decode prog_10_method_7_code 59 = .ok (.iconst 1, 1) := by decide +kernel
theorem dTape_cutWord_60 : decode prog_10_method_7_code 60 = .ok (.iastore, 1) := by decide +kernel
theorem dTape_cutWord_61 : decode prog_10_method_7_code 61 = .ok (.aload_n 0, 1) := by decide +kernel
theorem dTape_cutWord_62 : decode prog_10_method_7_code 62 = .ok (.getfield 28, 3) := by decide +kernel
theorem dTape_cutWord_65 : decode prog_10_method_7_code 65 = .ok (.iload_n 1, 1) := by decide +kernel
theorem dTape_cutWord_66 : decode prog_10_method_7_code 66 = .ok (.lload 4, 2) := by decide +kernel
theorem dTape_cutWord_68 : decode prog_10_method_7_code 68 = .ok (.lastore, 1) := by decide +kernel
theorem dTape_cutWord_69 : decode prog_10_method_7_code 69 = .ok (.iconst 0, 1) := by decide +kernel
theorem dTape_cutWord_70 : decode prog_10_method_7_code 70 = .ok (.istore 6, 2) := by decide +kernel
theorem dTape_cutWord_72 : decode prog_10_method_7_code 72 = .ok (.iload 6, 2) := by decide +kernel
theorem dTape_cutWord_74 : decode prog_10_method_7_code 74 = .ok (.bipush 32, 2) := by decide +kernel
theorem dTape_cutWord_76 : decode prog_10_method_7_code 76 = .ok (.if_icmp .ge 30, 3) := by decide +kernel
theorem dTape_cutWord_79 : decode prog_10_method_7_code 79 = .ok (.aload_n 0, 1) := by decide +kernel
theorem dTape_cutWord_80 : decode prog_10_method_7_code 80 = .ok (.getfield 15, 3) := by decide +kernel
theorem dTape_cutWord_83 : decode prog_10_method_7_code 83 = .ok (.iload 6, 2) := by decide +kernel
theorem dTape_cutWord_85 : decode prog_10_method_7_code 85 = .ok (.laload, 1) := by decide +kernel
theorem dTape_cutWord_86 : decode prog_10_method_7_code 86 = .ok (.lload 4, 2) := by decide +kernel
theorem dTape_cutWord_88 : decode prog_10_method_7_code 88 = .ok (.lcmp, 1) := by decide +kernel
theorem dTape_cutWord_89 : decode prog_10_method_7_code 89 = .ok (.ifCond .ne 11, 3) := by decide +kernel
theorem dTape_cutWord_92 : decode prog_10_method_7_code 92 = .ok (.aload_n 0, 1) := by decide +kernel
theorem dTape_cutWord_93 : decode prog_10_method_7_code 93 = .ok (.getfield 25, 3) := by decide +kernel
theorem dTape_cutWord_96 : decode prog_10_method_7_code 96 = .ok (.iload_n 1, 1) := by decide +kernel
theorem dTape_cutWord_97 : decode prog_10_method_7_code 97 = .ok (.iload 6, 2) := by decide +kernel
theorem dTape_cutWord_99 : decode prog_10_method_7_code 99 = .ok (.iastore, 1) := by decide +kernel
theorem dTape_cutWord_100 : decode prog_10_method_7_code 100 = .ok (.iinc 6 1, 3) := by decide +kernel
theorem dTape_cutWord_103 : decode prog_10_method_7_code 103 = .ok (.goto (-31), 3) := by decide +kernel
theorem dTape_cutWord_106 : decode prog_10_method_7_code 106 = .ok (.iload_n 3, 1) := by decide +kernel
theorem dTape_cutWord_107 : decode prog_10_method_7_code 107 = .ok (.ireturn, 1) := by decide +kernel
theorem dTape_cutNumber_0 : decode prog_10_method_8_code 0 = .ok (.iload_n 2, 1) := by decide +kernel
theorem dTape_cutNumber_1 : decode prog_10_method_8_code 1 = .ok (.istore_n 3, 1) := by decide +kernel
theorem dTape_cutNumber_2 : decode prog_10_method_8_code 2 = .ok (.iconst 0, 1) := by decide +kernel
theorem dTape_cutNumber_3 : decode prog_10_method_8_code 3 = .ok (.istore 4, 2) := by decide +kernel
theorem dTape_cutNumber_5 : decode prog_10_method_8_code 5 = .ok (.iload_n 3, 1) := by decide +kernel
theorem dTape_cutNumber_6 : decode prog_10_method_8_code 6 = .ok (.aload_n 0, 1) := by decide +kernel
theorem dTape_cutNumber_7 : decode prog_10_method_8_code 7 = .ok (.getfield 31, 3) := by decide +kernel
theorem dTape_cutNumber_10 : decode prog_10_method_8_code 10 = .ok (.if_icmp .ge 36, 3) := by decide +kernel
theorem dTape_cutNumber_13 : decode prog_10_method_8_code 13 = .ok (.aload_n 0, 1) := by decide +kernel
theorem dTape_cutNumber_14 : decode prog_10_method_8_code 14 = .ok (.iload_n 3, 1) := by decide +kernel
theorem dTape_cutNumber_15 : decode prog_10_method_8_code 15 = .ok (.invokevirtual 71, 3) := by decide +kernel
theorem dTape_cutNumber_18 : decode prog_10_method_8_code 18 = .ok (.invokestatic 84, 3) := by decide +kernel
theorem dTape_cutNumber_21 : decode prog_10_method_8_code 21 = .ok (.ifCond .eq 25, 3) := by decide +kernel
theorem dTape_cutNumber_24 : decode prog_10_method_8_code 24 = .ok (.iload 4, 2) := by decide +kernel
theorem dTape_cutNumber_26 : decode prog_10_method_8_code 26 = .ok (.bipush 10, 2) := by decide +kernel
theorem dTape_cutNumber_28 : decode prog_10_method_8_code 28 = .ok (.imul, 1) := by decide +kernel
theorem dTape_cutNumber_29 : decode prog_10_method_8_code 29 = .ok (.aload_n 0, 1) := by decide +kernel
theorem dTape_cutNumber_30 : decode prog_10_method_8_code 30 = .ok (.iload_n 3, 1) := by decide +kernel
theorem dTape_cutNumber_31 : decode prog_10_method_8_code 31 = .ok (.invokevirtual 71, 3) := by decide +kernel
theorem dTape_cutNumber_34 : decode prog_10_method_8_code 34 = .ok (.iadd, 1) := by decide +kernel
theorem dTape_cutNumber_35 : decode prog_10_method_8_code 35 = .ok (.bipush 48, 2) := by decide +kernel
theorem dTape_cutNumber_37 : decode prog_10_method_8_code 37 = .ok (.isub, 1) := by decide +kernel
theorem dTape_cutNumber_38 : decode prog_10_method_8_code 38 = .ok (.istore 4, 2) := by decide +kernel
theorem dTape_cutNumber_40 : decode prog_10_method_8_code 40 = .ok (.iinc 3 1, 3) := by decide +kernel
theorem dTape_cutNumber_43 : decode prog_10_method_8_code 43 = .ok (.goto (-38), 3) := by decide +kernel
theorem dTape_cutNumber_46 : decode prog_10_method_8_code 46 = .ok (.aload_n 0, 1) := by decide +kernel
theorem dTape_cutNumber_47 : decode prog_10_method_8_code 47 = .ok (.getfield 19, 3) := by decide +kernel
theorem dTape_cutNumber_50 : decode prog_10_method_8_code 50 = .ok (.iload_n 1, 1) := by decide +kernel
theorem dTape_cutNumber_51 : decode prog_10_method_8_code 51 = .ok (.iload_n 3, 1) := by decide +kernel
theorem dTape_cutNumber_52 : decode prog_10_method_8_code 52 = .ok (.iload_n 2, 1) := by decide +kernel
theorem dTape_cutNumber_53 : decode prog_10_method_8_code 53 = .ok (.isub, 1) := by decide +kernel
theorem dTape_cutNumber_54 : decode prog_10_method_8_code 54 = .ok (.iconst 4, 1) := by decide +kernel
theorem dTape_cutNumber_55 : decode prog_10_method_8_code 55 = .ok (.if_icmp .gt 14, 3) := by decide +kernel
theorem dTape_cutNumber_58 : decode prog_10_method_8_code 58 = .ok (.aload_n 0, 1) := by decide +kernel
theorem dTape_cutNumber_59 : decode prog_10_method_8_code 59 = .ok (.iload_n 3, 1) := by decide +kernel
theorem dTape_cutNumber_60 : decode prog_10_method_8_code 60 = .ok (.invokevirtual 71, 3) := by decide +kernel
theorem dTape_cutNumber_63 : decode prog_10_method_8_code 63 = .ok (.invokestatic 59, 3) := by decide +kernel
theorem dTape_cutNumber_66 : decode prog_10_method_8_code 66 = .ok (.ifCond .eq 7, 3) := by decide +kernel
theorem dTape_cutNumber_69 : decode prog_10_method_8_code 69 = .ok (.iconst 5, 1) := by decide +kernel
theorem dTape_cutNumber_70 : decode prog_10_method_8_code 70 = .ok (.goto 4, 3) := by decide +kernel
theorem dTape_cutNumber_73 : decode prog_10_method_8_code 73 = .ok (.iconst 2, 1) := by decide +kernel
theorem dTape_cutNumber_74 : decode prog_10_method_8_code 74 = .ok (.iastore, 1) := by decide +kernel
theorem dTape_cutNumber_75 : decode prog_10_method_8_code 75 = .ok (.aload_n 0, 1) := by decide +kernel
theorem dTape_cutNumber_76 : decode prog_10_method_8_code 76 = .ok (.getfield 25, 3) := by decide +kernel
theorem dTape_cutNumber_79 : decode prog_10_method_8_code 79 = .ok (.iload_n 1, 1) := by decide +kernel
theorem dTape_cutNumber_80 : decode prog_10_method_8_code 80 = .ok (.iload 4, 2) := by decide +kernel
theorem dTape_cutNumber_82 : decode prog_10_method_8_code 82 = .ok (.iastore, 1) := by decide +kernel
theorem dTape_cutNumber_83 : decode prog_10_method_8_code 83 = .ok (.iload_n 3, 1) := by decide +kernel
theorem dTape_cutNumber_84 : decode prog_10_method_8_code 84 = .ok (.ireturn, 1) := by decide +kernel
theorem dTape_byteAt_0 : decode prog_10_method_9_code 0 = .ok (.iload_n 1, 1) := by decide +kernel
theorem dTape_byteAt_1 : decode prog_10_method_9_code 1 = .ok (.ifCond .lt 18, 3) := by decide +kernel
theorem dTape_byteAt_4 : decode prog_10_method_9_code 4 = .ok (.iload_n 1, 1) := by decide +kernel
theorem dTape_byteAt_5 : decode prog_10_method_9_code 5 = .ok (.aload_n 0, 1) := by decide +kernel
theorem dTape_byteAt_6 : decode prog_10_method_9_code 6 = .ok (.getfield 31, 3) := by decide +kernel
theorem dTape_byteAt_9 : decode prog_10_method_9_code 9 = .ok (.if_icmp .ge 10, 3) := by decide +kernel
theorem dTape_byteAt_12 : decode prog_10_method_9_code 12 = .ok (.iload_n 1, 1) := by decide +kernel
theorem dTape_byteAt_13 : decode prog_10_method_9_code 13 = .ok (.sipush 1600, 3) := by decide +kernel
theorem dTape_byteAt_16 : decode prog_10_method_9_code 16 = .ok (.if_icmp .lt 7, 3) := by decide +kernel
theorem dTape_byteAt_19 : decode prog_10_method_9_code 19 = .ok (.iconst 0, 1) := by decide +kernel
theorem dTape_byteAt_20 : decode prog_10_method_9_code 20 = .ok (.goto 9, 3) := by decide +kernel
theorem dTape_byteAt_23 : decode prog_10_method_9_code 23 = .ok (.aload_n 0, 1) := by decide +kernel
theorem dTape_byteAt_24 : decode prog_10_method_9_code 24 = .ok (.getfield 9, 3) := by decide +kernel
theorem dTape_byteAt_27 : decode prog_10_method_9_code 27 = .ok (.iload_n 1, 1) := by decide +kernel
theorem dTape_byteAt_28 : decode prog_10_method_9_code 28 = .ok (.iaload, 1) := by decide +kernel
theorem dTape_byteAt_29 : decode prog_10_method_9_code 29 = .ok (.ireturn, 1) := by decide +kernel
theorem dTape_isLetter_0 : decode prog_10_method_10_code 0 = .ok (.iload_n 0, 1) := by decide +kernel
theorem dTape_isLetter_1 : decode prog_10_method_10_code 1 = .ok (.bipush 97, 2) := by decide +kernel
theorem dTape_isLetter_3 : decode prog_10_method_10_code 3 = .ok (.if_icmp .lt 13, 3) := by decide +kernel
theorem dTape_isLetter_6 : decode prog_10_method_10_code 6 = .ok (.iload_n 0, 1) := by decide +kernel
theorem dTape_isLetter_7 : decode prog_10_method_10_code 7 = .ok (.bipush 122, 2) := by decide +kernel
theorem dTape_isLetter_9 : decode prog_10_method_10_code 9 = .ok (.if_icmp .gt 7, 3) := by decide +kernel
theorem dTape_isLetter_12 : decode prog_10_method_10_code 12 = .ok (.iconst 1, 1) := by decide +kernel
theorem dTape_isLetter_13 : decode prog_10_method_10_code 13 = .ok (.goto 4, 3) := by decide +kernel
theorem dTape_isLetter_16 : decode prog_10_method_10_code 16 = .ok (.iconst 0, 1) := by decide +kernel
theorem dTape_isLetter_17 : decode prog_10_method_10_code 17 = .ok (.ireturn, 1) := by decide +kernel
theorem dTape_isDigit_0 : decode prog_10_method_11_code 0 = .ok (.iload_n 0, 1) := by decide +kernel
theorem dTape_isDigit_1 : decode prog_10_method_11_code 1 = .ok (.bipush 48, 2) := by decide +kernel
theorem dTape_isDigit_3 : decode prog_10_method_11_code 3 = .ok (.if_icmp .lt 13, 3) := by decide +kernel
theorem dTape_isDigit_6 : decode prog_10_method_11_code 6 = .ok (.iload_n 0, 1) := by decide +kernel
theorem dTape_isDigit_7 : decode prog_10_method_11_code 7 = .ok (.bipush 57, 2) := by decide +kernel
theorem dTape_isDigit_9 : decode prog_10_method_11_code 9 = .ok (.if_icmp .gt 7, 3) := by decide +kernel
theorem dTape_isDigit_12 : decode prog_10_method_11_code 12 = .ok (.iconst 1, 1) := by decide +kernel
theorem dTape_isDigit_13 : decode prog_10_method_11_code 13 = .ok (.goto 4, 3) := by decide +kernel
theorem dTape_isDigit_16 : decode prog_10_method_11_code 16 = .ok (.iconst 0, 1) := by decide +kernel
theorem dTape_isDigit_17 : decode prog_10_method_11_code 17 = .ok (.ireturn, 1) := by decide +kernel
theorem dTape_withLetter_0 : decode prog_10_method_12_code 0 = .ok (.lload_n 0, 1) := by decide +kernel
theorem dTape_withLetter_1 : decode prog_10_method_12_code 1 = .ok (.ldc2_w 95, 3) := by decide +kernel
theorem dTape_withLetter_4 : decode prog_10_method_12_code 4 = .ok (.lmul, 1) := by decide +kernel
theorem dTape_withLetter_5 : decode prog_10_method_12_code 5 = .ok (.iload_n 2, 1) := by decide +kernel
theorem dTape_withLetter_6 : decode prog_10_method_12_code 6 = .ok (.i2l, 1) := by decide +kernel
theorem dTape_withLetter_7 : decode prog_10_method_12_code 7 = .ok (.ladd, 1) := by decide +kernel
theorem dTape_withLetter_8 : decode prog_10_method_12_code 8 = .ok (.ldc2_w 97, 3) := by decide +kernel
theorem dTape_withLetter_11 : decode prog_10_method_12_code 11 = .ok (.lsub, 1) := by decide +kernel
theorem dTape_withLetter_12 : decode prog_10_method_12_code 12 = .ok (.lconst 1, 1) := by decide +kernel
theorem dTape_withLetter_13 : decode prog_10_method_12_code 13 = .ok (.ladd, 1) := by decide +kernel
theorem dTape_withLetter_14 : decode prog_10_method_12_code 14 = .ok (.lreturn, 1) := by decide +kernel
theorem dTape_kind_0 : decode prog_10_method_13_code 0 = .ok (.aload_n 0, 1) := by decide +kernel
theorem dTape_kind_1 : decode prog_10_method_13_code 1 = .ok (.getfield 19, 3) := by decide +kernel
theorem dTape_kind_4 : decode prog_10_method_13_code 4 = .ok (.aload_n 0, 1) := by decide +kernel
theorem dTape_kind_5 : decode prog_10_method_13_code 5 = .ok (.getfield 45, 3) := by decide +kernel
theorem dTape_kind_8 : decode prog_10_method_13_code 8 = .ok (.iaload, 1) := by decide +kernel
theorem dTape_kind_9 : decode prog_10_method_13_code 9 = .ok (.ireturn, 1) := by decide +kernel
theorem dTape_value_0 : decode prog_10_method_14_code 0 = .ok (.aload_n 0, 1) := by decide +kernel
theorem dTape_value_1 : decode prog_10_method_14_code 1 = .ok (.getfield 25, 3) := by decide +kernel
theorem dTape_value_4 : decode prog_10_method_14_code 4 = .ok (.aload_n 0, 1) := by decide +kernel
theorem dTape_value_5 : decode prog_10_method_14_code 5 = .ok (.getfield 45, 3) := by decide +kernel
theorem dTape_value_8 : decode prog_10_method_14_code 8 = .ok (.iaload, 1) := by decide +kernel
theorem dTape_value_9 : decode prog_10_method_14_code 9 = .ok (.ireturn, 1) := by decide +kernel
theorem dTape_name_0 : decode prog_10_method_15_code 0 = .ok (.aload_n 0, 1) := by decide +kernel
theorem dTape_name_1 : decode prog_10_method_15_code 1 = .ok (.getfield 28, 3) := by decide +kernel
theorem dTape_name_4 : decode prog_10_method_15_code 4 = .ok (.aload_n 0, 1) := by decide +kernel
theorem dTape_name_5 : decode prog_10_method_15_code 5 = .ok (.getfield 45, 3) := by decide +kernel
theorem dTape_name_8 : decode prog_10_method_15_code 8 = .ok (.laload, 1) := by decide +kernel
theorem dTape_name_9 : decode prog_10_method_15_code 9 = .ok (.lreturn, 1) := by decide +kernel
theorem dTape_step_0 : decode prog_10_method_16_code 0 = .ok (.aload_n 0, 1) := by decide +kernel
theorem dTape_step_1 : decode prog_10_method_16_code 1 = .ok (.getfield 19, 3) := by decide +kernel
theorem dTape_step_4 : decode prog_10_method_16_code 4 = .ok (.aload_n 0, 1) := by decide +kernel
theorem dTape_step_5 : decode prog_10_method_16_code 5 = .ok (.getfield 45, 3) := by decide +kernel
theorem dTape_step_8 : decode prog_10_method_16_code 8 = .ok (.iaload, 1) := by decide +kernel
theorem dTape_step_9 : decode prog_10_method_16_code 9 = .ok (.ifCond .eq 36, 3) := by decide +kernel
theorem dTape_step_12 : decode prog_10_method_16_code 12 = .ok (.aload_n 0, 1) := by decide +kernel
theorem dTape_step_13 : decode prog_10_method_16_code 13 = .ok (.getfield 19, 3) := by decide +kernel
theorem dTape_step_16 : decode prog_10_method_16_code 16 = .ok (.aload_n 0, 1) := by decide +kernel
theorem dTape_step_17 : decode prog_10_method_16_code 17 = .ok (.getfield 45, 3) := by decide +kernel
theorem dTape_step_20 : decode prog_10_method_16_code 20 = .ok (.iaload, 1) := by decide +kernel
theorem dTape_step_21 : decode prog_10_method_16_code 21 = .ok (.iconst 5, 1) := by decide +kernel
theorem dTape_step_22 : decode prog_10_method_16_code 22 = .ok (.if_icmp .eq 23, 3) := by decide +kernel
theorem dTape_step_25 : decode prog_10_method_16_code 25 = .ok (.aload_n 0, 1) := by decide +kernel
theorem dTape_step_26 : decode prog_10_method_16_code 26 = .ok (.getfield 45, 3) := by decide +kernel
theorem dTape_step_29 : decode prog_10_method_16_code 29 = .ok (.sipush 1600, 3) := by decide +kernel
theorem dTape_step_32 : decode prog_10_method_16_code 32 = .ok (.if_icmp .ge 13, 3) := by decide +kernel
theorem dTape_step_35 : decode prog_10_method_16_code 35 = .ok (.aload_n 0, 1) := by decide +kernel
theorem dTape_step_36 : decode prog_10_method_16_code 36 = .ok (.dup, 1) := by decide +kernel
theorem dTape_step_37 : decode prog_10_method_16_code 37 = .ok (.getfield 45, 3) := by decide +kernel
theorem dTape_step_40 : decode prog_10_method_16_code 40 = .ok (.iconst 1, 1) := by decide +kernel
theorem dTape_step_41 : decode prog_10_method_16_code 41 = .ok (.iadd, 1) := by decide +kernel
theorem dTape_step_42 : decode prog_10_method_16_code 42 = .ok (.putfield 45, 3) := by decide +kernel
theorem dTape_step_45 : decode prog_10_method_16_code 45 = .ok (.return_, 1) := by decide +kernel
theorem dTape_refuse_0 : decode prog_10_method_17_code 0 = .ok (.aload_n 0, 1) := by decide +kernel
theorem dTape_refuse_1 : decode prog_10_method_17_code 1 = .ok (.getfield 35, 3) := by decide +kernel
theorem dTape_refuse_4 : decode prog_10_method_17_code 4 = .ok (.ifCond .ne 38, 3) := by decide +kernel
theorem dTape_refuse_7 : decode prog_10_method_17_code 7 = .ok (.aload_n 0, 1) := by decide +kernel
theorem dTape_refuse_8 : decode prog_10_method_17_code 8 = .ok (.aload_n 0, 1) := by decide +kernel
theorem dTape_refuse_9 : decode prog_10_method_17_code 9 = .ok (.getfield 19, 3) := by decide +kernel
theorem dTape_refuse_12 : decode prog_10_method_17_code 12 = .ok (.aload_n 0, 1) := by decide +kernel
theorem dTape_refuse_13 : decode prog_10_method_17_code 13 = .ok (.getfield 45, 3) := by decide +kernel
theorem dTape_refuse_16 : decode prog_10_method_17_code 16 = .ok (.iaload, 1) := by decide +kernel
theorem dTape_refuse_17 : decode prog_10_method_17_code 17 = .ok (.iconst 5, 1) := by decide +kernel
theorem dTape_refuse_18 : decode prog_10_method_17_code 18 = .ok (.if_icmp .ne 7, 3) := by decide +kernel
theorem dTape_refuse_21 : decode prog_10_method_17_code 21 = .ok (.iconst 1, 1) := by decide +kernel
theorem dTape_refuse_22 : decode prog_10_method_17_code 22 = .ok (.goto 4, 3) := by decide +kernel
theorem dTape_refuse_25 : decode prog_10_method_17_code 25 = .ok (.iload_n 1, 1) := by decide +kernel
theorem dTape_refuse_26 : decode prog_10_method_17_code 26 = .ok (.putfield 35, 3) := by decide +kernel
theorem dTape_refuse_29 : decode prog_10_method_17_code 29 = .ok (.aload_n 0, 1) := by decide +kernel
theorem dTape_refuse_30 : decode prog_10_method_17_code 30 = .ok (.aload_n 0, 1) := by decide +kernel
theorem dTape_refuse_31 : decode prog_10_method_17_code 31 = .ok (.getfield 22, 3) := by decide +kernel
theorem dTape_refuse_34 : decode prog_10_method_17_code 34 = .ok (.aload_n 0, 1) := by decide +kernel
theorem dTape_refuse_35 : decode prog_10_method_17_code 35 = .ok (.getfield 45, 3) := by decide +kernel
theorem dTape_refuse_38 : decode prog_10_method_17_code 38 = .ok (.iaload, 1) := by decide +kernel
theorem dTape_refuse_39 : decode prog_10_method_17_code 39 = .ok (.putfield 38, 3) := by decide +kernel
theorem dTape_refuse_42 : decode prog_10_method_17_code 42 = .ok (.return_, 1) := by decide +kernel
theorem dTape_isWord_0 : decode prog_10_method_18_code 0 = .ok (.aload_n 0, 1) := by decide +kernel
theorem dTape_isWord_1 : decode prog_10_method_18_code 1 = .ok (.getfield 35, 3) := by decide +kernel
theorem dTape_isWord_4 : decode prog_10_method_18_code 4 = .ok (.ifCond .ne 33, 3) := by decide +kernel
theorem dTape_isWord_7 : decode prog_10_method_18_code 7 = .ok (.aload_n 0, 1) := by decide +kernel
theorem dTape_isWord_8 : decode prog_10_method_18_code 8 = .ok (.getfield 19, 3) := by decide +kernel
theorem dTape_isWord_11 : decode prog_10_method_18_code 11 = .ok (.aload_n 0, 1) := by decide +kernel
theorem dTape_isWord_12 : decode prog_10_method_18_code 12 = .ok (.getfield 45, 3) := by decide +kernel
theorem dTape_isWord_15 : decode prog_10_method_18_code 15 = .ok (.iaload, 1) := by decide +kernel
theorem dTape_isWord_16 : decode prog_10_method_18_code 16 = .ok (.iconst 1, 1) := by decide +kernel
theorem dTape_isWord_17 : decode prog_10_method_18_code 17 = .ok (.if_icmp .ne 20, 3) := by decide +kernel
theorem dTape_isWord_20 : decode prog_10_method_18_code 20 = .ok (.aload_n 0, 1) := by decide +kernel
theorem dTape_isWord_21 : decode prog_10_method_18_code 21 = .ok (.getfield 25, 3) := by decide +kernel
theorem dTape_isWord_24 : decode prog_10_method_18_code 24 = .ok (.aload_n 0, 1) := by decide +kernel
theorem dTape_isWord_25 : decode prog_10_method_18_code 25 = .ok (.getfield 45, 3) := by decide +kernel
theorem dTape_isWord_28 : decode prog_10_method_18_code 28 = .ok (.iaload, 1) := by decide +kernel
theorem dTape_isWord_29 : decode prog_10_method_18_code 29 = .ok (.iload_n 1, 1) := by decide +kernel
theorem dTape_isWord_30 : decode prog_10_method_18_code 30 = .ok (.if_icmp .ne 7, 3) := by decide +kernel
theorem dTape_isWord_33 : decode prog_10_method_18_code 33 = .ok (.iconst 1, 1) := by decide +kernel
theorem dTape_isWord_34 : decode prog_10_method_18_code 34 = .ok (.goto 4, 3) := by decide +kernel
theorem dTape_isWord_37 : decode prog_10_method_18_code 37 = .ok (.iconst 0, 1) := by decide +kernel
theorem dTape_isWord_38 : decode prog_10_method_18_code 38 = .ok (.ireturn, 1) := by decide +kernel
theorem dTape_isSign_0 : decode prog_10_method_19_code 0 = .ok (.aload_n 0, 1) := by decide +kernel
theorem dTape_isSign_1 : decode prog_10_method_19_code 1 = .ok (.getfield 35, 3) := by decide +kernel
theorem dTape_isSign_4 : decode prog_10_method_19_code 4 = .ok (.ifCond .ne 33, 3) := by decide +kernel
theorem dTape_isSign_7 : decode prog_10_method_19_code 7 = .ok (.aload_n 0, 1) := by decide +kernel
theorem dTape_isSign_8 : decode prog_10_method_19_code 8 = .ok (.getfield 19, 3) := by decide +kernel
theorem dTape_isSign_11 : decode prog_10_method_19_code 11 = .ok (.aload_n 0, 1) := by decide +kernel
theorem dTape_isSign_12 : decode prog_10_method_19_code 12 = .ok (.getfield 45, 3) := by decide +kernel
theorem dTape_isSign_15 : decode prog_10_method_19_code 15 = .ok (.iaload, 1) := by decide +kernel
theorem dTape_isSign_16 : decode prog_10_method_19_code 16 = .ok (.iconst 4, 1) := by decide +kernel
theorem dTape_isSign_17 : decode prog_10_method_19_code 17 = .ok (.if_icmp .ne 20, 3) := by decide +kernel
theorem dTape_isSign_20 : decode prog_10_method_19_code 20 = .ok (.aload_n 0, 1) := by decide +kernel
theorem dTape_isSign_21 : decode prog_10_method_19_code 21 = .ok (.getfield 25, 3) := by decide +kernel
theorem dTape_isSign_24 : decode prog_10_method_19_code 24 = .ok (.aload_n 0, 1) := by decide +kernel
theorem dTape_isSign_25 : decode prog_10_method_19_code 25 = .ok (.getfield 45, 3) := by decide +kernel
theorem dTape_isSign_28 : decode prog_10_method_19_code 28 = .ok (.iaload, 1) := by decide +kernel
theorem dTape_isSign_29 : decode prog_10_method_19_code 29 = .ok (.iload_n 1, 1) := by decide +kernel
theorem dTape_isSign_30 : decode prog_10_method_19_code 30 = .ok (.if_icmp .ne 7, 3) := by decide +kernel
theorem dTape_isSign_33 : decode prog_10_method_19_code 33 = .ok (.iconst 1, 1) := by decide +kernel
theorem dTape_isSign_34 : decode prog_10_method_19_code 34 = .ok (.goto 4, 3) := by decide +kernel
theorem dTape_isSign_37 : decode prog_10_method_19_code 37 = .ok (.iconst 0, 1) := by decide +kernel
theorem dTape_isSign_38 : decode prog_10_method_19_code 38 = .ok (.ireturn, 1) := by decide +kernel
theorem dTape_isNumber_0 : decode prog_10_method_20_code 0 = .ok (.aload_n 0, 1) := by decide +kernel
theorem dTape_isNumber_1 : decode prog_10_method_20_code 1 = .ok (.getfield 35, 3) := by decide +kernel
theorem dTape_isNumber_4 : decode prog_10_method_20_code 4 = .ok (.ifCond .ne 20, 3) := by decide +kernel
theorem dTape_isNumber_7 : decode prog_10_method_20_code 7 = .ok (.aload_n 0, 1) := by decide +kernel
theorem dTape_isNumber_8 : decode prog_10_method_20_code 8 = .ok (.getfield 19, 3) := by decide +kernel
theorem dTape_isNumber_11 : decode prog_10_method_20_code 11 = .ok (.aload_n 0, 1) := by decide +kernel
theorem dTape_isNumber_12 : decode prog_10_method_20_code 12 = .ok (.getfield 45, 3) := by decide +kernel
theorem dTape_isNumber_15 : decode prog_10_method_20_code 15 = .ok (.iaload, 1) := by decide +kernel
theorem dTape_isNumber_16 : decode prog_10_method_20_code 16 = .ok (.iconst 2, 1) := by decide +kernel
theorem dTape_isNumber_17 : decode prog_10_method_20_code 17 = .ok (.if_icmp .ne 7, 3) := by decide +kernel
theorem dTape_isNumber_20 : decode prog_10_method_20_code 20 = .ok (.iconst 1, 1) := by decide +kernel
theorem dTape_isNumber_21 : decode prog_10_method_20_code 21 = .ok (.goto 4, 3) := by decide +kernel
theorem dTape_isNumber_24 : decode prog_10_method_20_code 24 = .ok (.iconst 0, 1) := by decide +kernel
theorem dTape_isNumber_25 : decode prog_10_method_20_code 25 = .ok (.ireturn, 1) := by decide +kernel
theorem dTape_atEnd_0 : decode prog_10_method_21_code 0 = .ok (.aload_n 0, 1) := by decide +kernel
theorem dTape_atEnd_1 : decode prog_10_method_21_code 1 = .ok (.getfield 19, 3) := by decide +kernel
theorem dTape_atEnd_4 : decode prog_10_method_21_code 4 = .ok (.aload_n 0, 1) := by decide +kernel
theorem dTape_atEnd_5 : decode prog_10_method_21_code 5 = .ok (.getfield 45, 3) := by decide +kernel
theorem dTape_atEnd_8 : decode prog_10_method_21_code 8 = .ok (.iaload, 1) := by decide +kernel
theorem dTape_atEnd_9 : decode prog_10_method_21_code 9 = .ok (.ifCond .ne 7, 3) := by decide +kernel
theorem dTape_atEnd_12 : decode prog_10_method_21_code 12 = .ok (.iconst 1, 1) := by decide +kernel
theorem dTape_atEnd_13 : decode prog_10_method_21_code 13 = .ok (.goto 4, 3) := by decide +kernel
theorem dTape_atEnd_16 : decode prog_10_method_21_code 16 = .ok (.iconst 0, 1) := by decide +kernel
theorem dTape_atEnd_17 : decode prog_10_method_21_code 17 = .ok (.ireturn, 1) := by decide +kernel
theorem dTape_passIf_0 : decode prog_10_method_22_code 0 = .ok (.iload_n 1, 1) := by decide +kernel
theorem dTape_passIf_1 : decode prog_10_method_22_code 1 = .ok (.ifCond .eq 10, 3) := by decide +kernel
theorem dTape_passIf_4 : decode prog_10_method_22_code 4 = .ok (.aload_n 0, 1) := by decide +kernel
theorem dTape_passIf_5 : decode prog_10_method_22_code 5 = .ok (.invokevirtual 99, 3) := by decide +kernel
theorem dTape_passIf_8 : decode prog_10_method_22_code 8 = .ok (.goto 8, 3) := by decide +kernel
theorem dTape_passIf_11 : decode prog_10_method_22_code 11 = .ok (.aload_n 0, 1) := by decide +kernel
theorem dTape_passIf_12 : decode prog_10_method_22_code 12 = .ok (.iconst 2, 1) := by decide +kernel
theorem dTape_passIf_13 : decode prog_10_method_22_code 13 = .ok (.invokevirtual 102, 3) := by decide +kernel
theorem dTape_passIf_16 : decode prog_10_method_22_code 16 = .ok (.return_, 1) := by decide +kernel
theorem dTape_closeLine_0 : decode prog_10_method_23_code 0 = .ok (.aload_n 0, 1) := by decide +kernel
theorem dTape_closeLine_1 : decode prog_10_method_23_code 1 = .ok (.aload_n 0, 1) := by decide +kernel
theorem dTape_closeLine_2 : decode prog_10_method_23_code 2 = .ok (.bipush 59, 2) := by decide +kernel
theorem dTape_closeLine_4 : decode prog_10_method_23_code 4 = .ok (.invokevirtual 106, 3) := by decide +kernel
theorem dTape_closeLine_7 : decode prog_10_method_23_code 7 = .ok (.invokevirtual 109, 3) := by decide +kernel
theorem dTape_closeLine_10 : decode prog_10_method_23_code 10 = .ok (.aload_n 0, 1) := by decide +kernel
theorem dTape_closeLine_11 : decode prog_10_method_23_code 11 = .ok (.getfield 35, 3) := by decide +kernel
theorem dTape_closeLine_14 : decode prog_10_method_23_code 14 = .ok (.ifCond .ne 7, 3) := by decide +kernel
theorem dTape_closeLine_17 : decode prog_10_method_23_code 17 = .ok (.iconst 1, 1) := by decide +kernel
theorem dTape_closeLine_18 : decode prog_10_method_23_code 18 = .ok (.goto 4, 3) := by decide +kernel
theorem dTape_closeLine_21 : decode prog_10_method_23_code 21 = .ok (.iconst 0, 1) := by decide +kernel
theorem dTape_closeLine_22 : decode prog_10_method_23_code 22 = .ok (.ireturn, 1) := by decide +kernel
theorem dTape_takeNumber_0 : decode prog_10_method_24_code 0 = .ok (.aload_n 0, 1) := by decide +kernel
theorem dTape_takeNumber_1 : decode prog_10_method_24_code 1 = .ok (.getfield 25, 3) := by decide +kernel
theorem dTape_takeNumber_4 : decode prog_10_method_24_code 4 = .ok (.aload_n 0, 1) := by decide +kernel
theorem dTape_takeNumber_5 : decode prog_10_method_24_code 5 = .ok (.getfield 45, 3) := by decide +kernel
theorem dTape_takeNumber_8 : decode prog_10_method_24_code 8 = .ok (.iaload, 1) := by decide +kernel
theorem dTape_takeNumber_9 : decode prog_10_method_24_code 9 = .ok (.istore_n 3, 1) := by decide +kernel
theorem dTape_takeNumber_10 : decode prog_10_method_24_code 10 = .ok (.aload_n 0, 1) := by decide +kernel
theorem dTape_takeNumber_11 : decode prog_10_method_24_code 11 = .ok (.invokevirtual 113, 3) := by decide +kernel
theorem dTape_takeNumber_14 : decode prog_10_method_24_code 14 = .ok (.ifCond .ne 11, 3) := by decide +kernel
theorem dTape_takeNumber_17 : decode prog_10_method_24_code 17 = .ok (.aload_n 0, 1) := by decide +kernel
theorem dTape_takeNumber_18 : decode prog_10_method_24_code 18 = .ok (.iconst 2, 1) := by decide +kernel
theorem dTape_takeNumber_19 : decode prog_10_method_24_code 19 = .ok (.invokevirtual 102, 3) := by decide +kernel
theorem dTape_takeNumber_22 : decode prog_10_method_24_code 22 = .ok (.goto 27, 3) := by decide +kernel
theorem dTape_takeNumber_25 : decode prog_10_method_24_code 25 = .ok (.iload_n 3, 1) := by decide +kernel
theorem dTape_takeNumber_26 : decode prog_10_method_24_code 26 = .ok (.iload_n 1, 1) := by decide +kernel
theorem dTape_takeNumber_27 : decode prog_10_method_24_code 27 = .ok (.if_icmp .lt 8, 3) := by decide +kernel
theorem dTape_takeNumber_30 : decode prog_10_method_24_code 30 = .ok (.iload_n 3, 1) := by decide +kernel
theorem dTape_takeNumber_31 : decode prog_10_method_24_code 31 = .ok (.iload_n 2, 1) := by decide +kernel
theorem dTape_takeNumber_32 : decode prog_10_method_24_code 32 = .ok (.if_icmp .le 11, 3) := by decide +kernel
theorem dTape_takeNumber_35 : decode prog_10_method_24_code 35 = .ok (.aload_n 0, 1) := by decide +kernel
theorem dTape_takeNumber_36 : decode prog_10_method_24_code 36 = .ok (.iconst 4, 1) := by decide +kernel
theorem dTape_takeNumber_37 : decode prog_10_method_24_code 37 = .ok (.invokevirtual 102, 3) := by decide +kernel
theorem dTape_takeNumber_40 : decode prog_10_method_24_code 40 = .ok (.goto 9, 3) := by decide +kernel
theorem dTape_takeNumber_43 : decode prog_10_method_24_code 43 = .ok (.aload_n 0, 1) := by decide +kernel
theorem dTape_takeNumber_44 : decode prog_10_method_24_code 44 = .ok (.invokevirtual 99, 3) := by decide +kernel
theorem dTape_takeNumber_47 : decode prog_10_method_24_code 47 = .ok (.iload_n 3, 1) := by decide +kernel
theorem dTape_takeNumber_48 : decode prog_10_method_24_code 48 = .ok (.ireturn, 1) := by decide +kernel
theorem dTape_takeNumber_49 : decode prog_10_method_24_code 49 = .ok (.iconst (-1), 1) := by decide +kernel
theorem dTape_takeNumber_50 : decode prog_10_method_24_code 50 = .ok (.ireturn, 1) := by decide +kernel
theorem dTape_takeNumberBehind_0 : decode prog_10_method_25_code 0 = .ok (.aload_n 0, 1) := by decide +kernel
theorem dTape_takeNumberBehind_1 : decode prog_10_method_25_code 1 = .ok (.aload_n 0, 1) := by decide +kernel
theorem dTape_takeNumberBehind_2 : decode prog_10_method_25_code 2 = .ok (.iload_n 1, 1) := by decide +kernel
theorem dTape_takeNumberBehind_3 : decode prog_10_method_25_code 3 = .ok (.invokevirtual 117, 3) := by decide +kernel
theorem dTape_takeNumberBehind_6 : decode prog_10_method_25_code 6 = .ok (.invokevirtual 109, 3) := by decide +kernel
theorem dTape_takeNumberBehind_9 : decode prog_10_method_25_code 9 = .ok (.aload_n 0, 1) := by decide +kernel
theorem dTape_takeNumberBehind_10 : decode prog_10_method_25_code 10 = .ok (.iload_n 2, 1) := by decide +kernel
theorem dTape_takeNumberBehind_11 : decode prog_10_method_25_code 11 = .ok (.iload_n 3, 1) := by decide +kernel
theorem dTape_takeNumberBehind_12 : decode prog_10_method_25_code 12 = .ok (.invokevirtual 120, 3) := by decide +kernel
theorem dTape_takeNumberBehind_15 : decode prog_10_method_25_code 15 = .ok (.ireturn, 1) := by decide +kernel
theorem dTape_takePlaceUnlike_0 : decode prog_10_method_26_code 0 = .ok (.aload_n 0, 1) := by decide +kernel
theorem dTape_takePlaceUnlike_1 : decode prog_10_method_26_code 1 = .ok (.getfield 25, 3) := by decide +kernel
theorem dTape_takePlaceUnlike_4 : decode prog_10_method_26_code 4 = .ok (.aload_n 0, 1) := by decide +kernel
theorem dTape_takePlaceUnlike_5 : decode prog_10_method_26_code 5 = .ok (.getfield 45, 3) := by decide +kernel
theorem dTape_takePlaceUnlike_8 : decode prog_10_method_26_code 8 = .ok (.iaload, 1) := by decide +kernel
theorem dTape_takePlaceUnlike_9 : decode prog_10_method_26_code 9 = .ok (.istore_n 2, 1) := by decide +kernel
theorem dTape_takePlaceUnlike_10 : decode prog_10_method_26_code 10 = .ok (.aload_n 0, 1) := by decide +kernel
theorem dTape_takePlaceUnlike_11 : decode prog_10_method_26_code 11 = .ok (.getfield 35, 3) := by decide +kernel
theorem dTape_takePlaceUnlike_14 : decode prog_10_method_26_code 14 = .ok (.ifCond .ne 16, 3) := by decide +kernel
theorem dTape_takePlaceUnlike_17 : decode prog_10_method_26_code 17 = .ok (.aload_n 0, 1) := by decide +kernel
theorem dTape_takePlaceUnlike_18 : decode prog_10_method_26_code 18 = .ok (.getfield 19, 3) := by decide +kernel
theorem dTape_takePlaceUnlike_21 : decode prog_10_method_26_code 21 = .ok (.aload_n 0, 1) := by decide +kernel
theorem dTape_takePlaceUnlike_22 : decode prog_10_method_26_code 22 = .ok (.getfield 45, 3) := by decide +kernel
theorem dTape_takePlaceUnlike_25 : decode prog_10_method_26_code 25 = .ok (.iaload, 1) := by decide +kernel
theorem dTape_takePlaceUnlike_26 : decode prog_10_method_26_code 26 = .ok (.iconst 3, 1) := by decide +kernel
theorem dTape_takePlaceUnlike_27 : decode prog_10_method_26_code 27 = .ok (.if_icmp .eq 11, 3) := by decide +kernel
theorem dTape_takePlaceUnlike_30 : decode prog_10_method_26_code 30 = .ok (.aload_n 0, 1) := by decide +kernel
theorem dTape_takePlaceUnlike_31 : decode prog_10_method_26_code 31 = .ok (.iconst 2, 1) := by decide +kernel
theorem dTape_takePlaceUnlike_32 : decode prog_10_method_26_code 32 = .ok (.invokevirtual 102, 3) := by decide +kernel
theorem dTape_takePlaceUnlike_35 : decode prog_10_method_26_code 35 = .ok (.goto 22, 3) := by decide +kernel
theorem dTape_takePlaceUnlike_38 : decode prog_10_method_26_code 38 = .ok (.iload_n 2, 1) := by decide +kernel
theorem dTape_takePlaceUnlike_39 : decode prog_10_method_26_code 39 = .ok (.iload_n 1, 1) := by decide +kernel
theorem dTape_takePlaceUnlike_40 : decode prog_10_method_26_code 40 = .ok (.if_icmp .ne 11, 3) := by decide +kernel
theorem dTape_takePlaceUnlike_43 : decode prog_10_method_26_code 43 = .ok (.aload_n 0, 1) := by decide +kernel
theorem dTape_takePlaceUnlike_44 : decode prog_10_method_26_code 44 = .ok (.iconst 4, 1) := by decide +kernel
theorem dTape_takePlaceUnlike_45 : decode prog_10_method_26_code 45 = .ok (.invokevirtual 102, 3) := by decide +kernel
theorem dTape_takePlaceUnlike_48 : decode prog_10_method_26_code 48 = .ok (.goto 9, 3) := by decide +kernel
theorem dTape_takePlaceUnlike_51 : decode prog_10_method_26_code 51 = .ok (.aload_n 0, 1) := by decide +kernel
theorem dTape_takePlaceUnlike_52 : decode prog_10_method_26_code 52 = .ok (.invokevirtual 99, 3) := by decide +kernel
theorem dTape_takePlaceUnlike_55 : decode prog_10_method_26_code 55 = .ok (.iload_n 2, 1) := by decide +kernel
theorem dTape_takePlaceUnlike_56 : decode prog_10_method_26_code 56 = .ok (.ireturn, 1) := by decide +kernel
theorem dTape_takePlaceUnlike_57 : decode prog_10_method_26_code 57 = .ok (.iconst (-1), 1) := by decide +kernel
theorem dTape_takePlaceUnlike_58 : decode prog_10_method_26_code 58 = .ok (.ireturn, 1) := by decide +kernel
theorem dTrade_init_0 : decode prog_11_method_1_code 0 = .ok (.aload_n 0, 1) := by decide +kernel
theorem dTrade_init_1 : decode prog_11_method_1_code 1 = .ok (.invokespecial 3, 3) := by decide +kernel
theorem dTrade_init_4 : decode prog_11_method_1_code 4 = .ok (.aload_n 0, 1) := by decide +kernel
theorem dTrade_init_5 : decode prog_11_method_1_code 5 = .ok (.bipush 6, 2) := by decide +kernel
theorem dTrade_init_7 : decode prog_11_method_1_code 7 = .ok (.newarray .int, 2) := by decide +kernel
theorem dTrade_init_9 : decode prog_11_method_1_code 9 = .ok (.putfield 9, 3) := by decide +kernel
theorem dTrade_init_12 : decode prog_11_method_1_code 12 = .ok (.aload_n 0, 1) := by decide +kernel
theorem dTrade_init_13 : decode prog_11_method_1_code 13 = .ok (.iconst 0, 1) := by decide +kernel
theorem dTrade_init_14 : decode prog_11_method_1_code 14 = .ok (.putfield 15, 3) := by decide +kernel
theorem dTrade_init_17 : decode prog_11_method_1_code 17 = .ok (.aload_n 0, 1) := by decide +kernel
theorem dTrade_init_18 : decode prog_11_method_1_code 18 = .ok (.iconst 1, 1) := by decide +kernel
theorem dTrade_init_19 : decode prog_11_method_1_code 19 = .ok (.putfield 19, 3) := by decide +kernel
theorem dTrade_init_22 : decode prog_11_method_1_code 22 = .ok (.aload_n 0, 1) := by decide +kernel
theorem dTrade_init_23 : decode prog_11_method_1_code 23 = .ok (.iconst 5, 1) := by decide +kernel
theorem dTrade_init_24 : decode prog_11_method_1_code 24 = .ok (.putfield 22, 3) := by decide +kernel
theorem dTrade_init_27 : decode prog_11_method_1_code 27 = .ok (.aload_n 0, 1) := by decide +kernel
theorem dTrade_init_28 : decode prog_11_method_1_code 28 = .ok (.iconst 1, 1) := by decide +kernel
theorem dTrade_init_29 : decode prog_11_method_1_code 29 = .ok (.putfield 25, 3) := by decide +kernel
theorem dTrade_init_32 : decode prog_11_method_1_code 32 = .ok (.aload_n 0, 1) := by decide +kernel
theorem dTrade_init_33 : decode prog_11_method_1_code 33 = .ok (.sipush 500, 3) := by decide +kernel
theorem dTrade_init_36 : decode prog_11_method_1_code 36 = .ok (.putfield 28, 3) := by decide +kernel
theorem dTrade_init_39 : decode prog_11_method_1_code 39 = .ok (.aload_n 0, 1) := by decide +kernel
theorem dTrade_init_40 : decode prog_11_method_1_code 40 = .ok (.bipush 20, 2) := by decide +kernel
theorem dTrade_init_42 : decode prog_11_method_1_code 42 = .ok (.putfield 31, 3) := by decide +kernel
theorem dTrade_init_45 : decode prog_11_method_1_code 45 = .ok (.return_, 1) := by decide +kernel
theorem dWay_init_0 : decode prog_12_method_1_code 0 = .ok (.aload_n 0, 1) := by decide +kernel
theorem dWay_init_1 : decode prog_12_method_1_code 1 = .ok (.invokespecial 3, 3) := by decide +kernel
theorem dWay_init_4 : decode prog_12_method_1_code 4 = .ok (.aload_n 0, 1) := by decide +kernel
theorem dWay_init_5 : decode prog_12_method_1_code 5 = .ok (.iconst 0, 1) := by decide +kernel
theorem dWay_init_6 : decode prog_12_method_1_code 6 = .ok (.putfield 9, 3) := by decide +kernel
theorem dWay_init_9 : decode prog_12_method_1_code 9 = .ok (.aload_n 0, 1) := by decide +kernel
theorem dWay_init_10 : decode prog_12_method_1_code 10 = .ok (.iconst (-1), 1) := by decide +kernel
theorem dWay_init_11 : decode prog_12_method_1_code 11 = .ok (.putfield 15, 3) := by decide +kernel
theorem dWay_init_14 : decode prog_12_method_1_code 14 = .ok (.aload_n 0, 1) := by decide +kernel
theorem dWay_init_15 : decode prog_12_method_1_code 15 = .ok (.iconst (-1), 1) := by decide +kernel
theorem dWay_init_16 : decode prog_12_method_1_code 16 = .ok (.putfield 18, 3) := by decide +kernel
theorem dWay_init_19 : decode prog_12_method_1_code 19 = .ok (.aload_n 0, 1) := by decide +kernel
theorem dWay_init_20 : decode prog_12_method_1_code 20 = .ok (.iconst 0, 1) := by decide +kernel
theorem dWay_init_21 : decode prog_12_method_1_code 21 = .ok (.putfield 21, 3) := by decide +kernel
theorem dWay_init_24 : decode prog_12_method_1_code 24 = .ok (.aload_n 0, 1) := by decide +kernel
theorem dWay_init_25 : decode prog_12_method_1_code 25 = .ok (.iconst 0, 1) := by decide +kernel
theorem dWay_init_26 : decode prog_12_method_1_code 26 = .ok (.putfield 24, 3) := by decide +kernel
theorem dWay_init_29 : decode prog_12_method_1_code 29 = .ok (.aload_n 0, 1) := by decide +kernel
theorem dWay_init_30 : decode prog_12_method_1_code 30 = .ok (.lconst 0, 1) := by decide +kernel
theorem dWay_init_31 : decode prog_12_method_1_code 31 = .ok (.putfield 27, 3) := by decide +kernel
theorem dWay_init_34 : decode prog_12_method_1_code 34 = .ok (.aload_n 0, 1) := by decide +kernel
theorem dWay_init_35 : decode prog_12_method_1_code 35 = .ok (.iconst (-1), 1) := by decide +kernel
theorem dWay_init_36 : decode prog_12_method_1_code 36 = .ok (.putfield 31, 3) := by decide +kernel
theorem dWay_init_39 : decode prog_12_method_1_code 39 = .ok (.aload_n 0, 1) := by decide +kernel
theorem dWay_init_40 : decode prog_12_method_1_code 40 = .ok (.lconst 0, 1) := by decide +kernel
theorem dWay_init_41 : decode prog_12_method_1_code 41 = .ok (.putfield 34, 3) := by decide +kernel
theorem dWay_init_44 : decode prog_12_method_1_code 44 = .ok (.return_, 1) := by decide +kernel
theorem dWay_choose_0 : decode prog_12_method_2_code 0 = .ok (.aload_n 0, 1) := by decide +kernel
theorem dWay_choose_1 : decode prog_12_method_2_code 1 = .ok (.iconst 0, 1) := by decide +kernel
theorem dWay_choose_2 : decode prog_12_method_2_code 2 = .ok (.putfield 9, 3) := by decide +kernel
theorem dWay_choose_5 : decode prog_12_method_2_code 5 = .ok (.aload_n 0, 1) := by decide +kernel
theorem dWay_choose_6 : decode prog_12_method_2_code 6 = .ok (.iconst (-1), 1) := by decide +kernel
theorem dWay_choose_7 : decode prog_12_method_2_code 7 = .ok (.putfield 15, 3) := by decide +kernel
theorem dWay_choose_10 : decode prog_12_method_2_code 10 = .ok (.aload_n 0, 1) := by decide +kernel
theorem dWay_choose_11 : decode prog_12_method_2_code 11 = .ok (.iconst (-1), 1) := by decide +kernel
theorem dWay_choose_12 : decode prog_12_method_2_code 12 = .ok (.putfield 18, 3) := by decide +kernel
theorem dWay_choose_15 : decode prog_12_method_2_code 15 = .ok (.aload_n 0, 1) := by decide +kernel
theorem dWay_choose_16 : decode prog_12_method_2_code 16 = .ok (.iconst 0, 1) := by decide +kernel
theorem dWay_choose_17 : decode prog_12_method_2_code 17 = .ok (.putfield 21, 3) := by decide +kernel
theorem dWay_choose_20 : decode prog_12_method_2_code 20 = .ok (.aload_n 0, 1) := by decide +kernel
theorem dWay_choose_21 : decode prog_12_method_2_code 21 = .ok (.iconst 0, 1) := by decide +kernel
theorem dWay_choose_22 : decode prog_12_method_2_code 22 = .ok (.putfield 24, 3) := by decide +kernel
theorem dWay_choose_25 : decode prog_12_method_2_code 25 = .ok (.aload_n 0, 1) := by decide +kernel
theorem dWay_choose_26 : decode prog_12_method_2_code 26 = .ok (.lconst 0, 1) := by decide +kernel
theorem dWay_choose_27 : decode prog_12_method_2_code 27 = .ok (.putfield 27, 3) := by decide +kernel
theorem dWay_choose_30 : decode prog_12_method_2_code 30 = .ok (.aload_n 0, 1) := by decide +kernel
theorem dWay_choose_31 : decode prog_12_method_2_code 31 = .ok (.iconst (-1), 1) := by decide +kernel
theorem dWay_choose_32 : decode prog_12_method_2_code 32 = .ok (.putfield 31, 3) := by decide +kernel
theorem dWay_choose_35 : decode prog_12_method_2_code 35 = .ok (.aload_n 0, 1) := by decide +kernel
theorem dWay_choose_36 : decode prog_12_method_2_code 36 = .ok (.ldc2_w 37, 3) := by decide +kernel
theorem dWay_choose_39 : decode prog_12_method_2_code 39 = .ok (.putfield 34, 3) := by decide +kernel
theorem dWay_choose_42 : decode prog_12_method_2_code 42 = .ok (.iconst 0, 1) := by decide +kernel
theorem dWay_choose_43 : decode prog_12_method_2_code 43 = .ok (.istore_n 3, 1) := by decide +kernel
theorem dWay_choose_44 : decode prog_12_method_2_code 44 = .ok (.iload_n 3, 1) := by decide +kernel
theorem dWay_choose_45 : decode prog_12_method_2_code 45 = .ok (.aload_n 1, 1) := by decide +kernel
theorem dWay_choose_46 : decode prog_12_method_2_code 46 = .ok (.getfield 39, 3) := by decide +kernel
theorem dWay_choose_49 : decode prog_12_method_2_code 49 = .ok (.getfield 45, 3) := by decide +kernel
theorem dWay_choose_52 : decode prog_12_method_2_code 52 = .ok (.if_icmp .ge 43, 3) := by decide +kernel
theorem dWay_choose_55 : decode prog_12_method_2_code 55 = .ok (.aload_n 1, 1) := by decide +kernel
theorem dWay_choose_56 : decode prog_12_method_2_code 56 = .ok (.iload_n 3, 1) := by decide +kernel
theorem dWay_choose_57 : decode prog_12_method_2_code 57 = .ok (.invokevirtual 50, 3) := by decide +kernel
theorem dWay_choose_60 : decode prog_12_method_2_code 60 = .ok (.iconst (-1), 1) := by decide +kernel
theorem dWay_choose_61 : decode prog_12_method_2_code 61 = .ok (.if_icmp .eq 28, 3) := by decide +kernel
theorem dWay_choose_64 : decode prog_12_method_2_code 64 = .ok (.aload_n 1, 1) := by decide +kernel
theorem dWay_choose_65 : decode prog_12_method_2_code 65 = .ok (.getfield 54, 3) := by decide +kernel
theorem dWay_choose_68 : decode prog_12_method_2_code 68 = .ok (.aload_n 0, 1) := by decide +kernel
theorem dWay_choose_69 : decode prog_12_method_2_code 69 = .ok (.getfield 34, 3) := by decide +kernel
theorem dWay_choose_72 : decode prog_12_method_2_code 72 = .ok (.lcmp, 1) := by decide +kernel
theorem dWay_choose_73 : decode prog_12_method_2_code 73 = .ok (.ifCond .le 16, 3) := by decide +kernel
theorem dWay_choose_76 : decode prog_12_method_2_code 76 = .ok (.aload_n 0, 1) := by decide +kernel
theorem dWay_choose_77 : decode prog_12_method_2_code 77 = .ok (.iload_n 3, 1) := by decide +kernel
theorem dWay_choose_78 : decode prog_12_method_2_code 78 = .ok (.putfield 31, 3) := by decide +kernel
theorem dWay_choose_81 : decode prog_12_method_2_code 81 = .ok (.aload_n 0, 1) := by decide +kernel
theorem dWay_choose_82 : decode prog_12_method_2_code 82 = .ok (.aload_n 1, 1) := by decide +kernel
theorem dWay_choose_83 : decode prog_12_method_2_code 83 = .ok (.getfield 54, 3) := by decide +kernel
theorem dWay_choose_86 : decode prog_12_method_2_code 86 = .ok (.putfield 34, 3) := by decide +kernel
theorem dWay_choose_89 : decode prog_12_method_2_code 89 = .ok (.iinc 3 1, 3) := by decide +kernel
theorem dWay_choose_92 : decode prog_12_method_2_code 92 = .ok (.goto (-48), 3) := by decide +kernel
theorem dWay_choose_95 : decode prog_12_method_2_code 95 = .ok (.aload_n 0, 1) := by decide +kernel
theorem dWay_choose_96 : decode prog_12_method_2_code 96 = .ok (.getfield 31, 3) := by decide +kernel
theorem dWay_choose_99 : decode prog_12_method_2_code 99 = .ok (.iconst (-1), 1) := by decide +kernel
theorem dWay_choose_100 : decode prog_12_method_2_code 100 = .ok (.if_icmp .eq 27, 3) := by decide +kernel
theorem dWay_choose_103 : decode prog_12_method_2_code 103 = .ok (.aload_n 0, 1) := by decide +kernel
theorem dWay_choose_104 : decode prog_12_method_2_code 104 = .ok (.aload_n 1, 1) := by decide +kernel
theorem dWay_choose_105 : decode prog_12_method_2_code 105 = .ok (.iload_n 2, 1) := by decide +kernel
theorem dWay_choose_106 : decode prog_12_method_2_code 106 = .ok (.invokevirtual 57, 3) := by decide +kernel
theorem dWay_choose_109 : decode prog_12_method_2_code 109 = .ok (.aload_n 0, 1) := by decide +kernel
theorem dWay_choose_110 : decode prog_12_method_2_code 110 = .ok (.aload_n 1, 1) := by decide +kernel
theorem dWay_choose_111 : decode prog_12_method_2_code 111 = .ok (.iload_n 2, 1) := by decide +kernel
theorem dWay_choose_112 : decode prog_12_method_2_code 112 = .ok (.invokevirtual 61, 3) := by decide +kernel
theorem dWay_choose_115 : decode prog_12_method_2_code 115 = .ok (.aload_n 0, 1) := by decide +kernel
theorem dWay_choose_116 : decode prog_12_method_2_code 116 = .ok (.aload_n 1, 1) := by decide +kernel
theorem dWay_choose_117 : decode prog_12_method_2_code 117 = .ok (.iload_n 2, 1) := by decide +kernel
theorem dWay_choose_118 : decode prog_12_method_2_code 118 = .ok (.invokevirtual 64, 3) := by decide +kernel
theorem dWay_choose_121 : decode prog_12_method_2_code 121 = .ok (.aload_n 0, 1) := by decide +kernel
theorem dWay_choose_122 : decode prog_12_method_2_code 122 = .ok (.aload_n 1, 1) := by decide +kernel
theorem dWay_choose_123 : decode prog_12_method_2_code 123 = .ok (.iload_n 2, 1) := by decide +kernel
theorem dWay_choose_124 : decode prog_12_method_2_code 124 = .ok (.invokevirtual 67, 3) := by decide +kernel
theorem dWay_choose_127 : decode prog_12_method_2_code 127 = .ok (.return_, 1) := by decide +kernel
theorem dWay_weigh_0 : decode prog_12_method_3_code 0 = .ok (.iload 4, 2) := by decide +kernel
theorem dWay_weigh_2 : decode prog_12_method_3_code 2 = .ok (.ifCond .le 46, 3) := by decide +kernel
theorem dWay_weigh_5 : decode prog_12_method_3_code 5 = .ok (.lload 6, 2) := by decide +kernel
theorem dWay_weigh_7 : decode prog_12_method_3_code 7 = .ok (.aload_n 0, 1) := by decide +kernel
theorem dWay_weigh_8 : decode prog_12_method_3_code 8 = .ok (.getfield 27, 3) := by decide +kernel
theorem dWay_weigh_11 : decode prog_12_method_3_code 11 = .ok (.lcmp, 1) := by decide +kernel
theorem dWay_weigh_12 : decode prog_12_method_3_code 12 = .ok (.ifCond .le 36, 3) := by decide +kernel
theorem dWay_weigh_15 : decode prog_12_method_3_code 15 = .ok (.aload_n 0, 1) := by decide +kernel
theorem dWay_weigh_16 : decode prog_12_method_3_code 16 = .ok (.iload_n 1, 1) := by decide +kernel
theorem dWay_weigh_17 : decode prog_12_method_3_code 17 = .ok (.putfield 9, 3) := by decide +kernel
theorem dWay_weigh_20 : decode prog_12_method_3_code 20 = .ok (.aload_n 0, 1) := by decide +kernel
theorem dWay_weigh_21 : decode prog_12_method_3_code 21 = .ok (.iload_n 2, 1) := by decide +kernel
theorem dWay_weigh_22 : decode prog_12_method_3_code 22 = .ok (.putfield 15, 3) := by decide +kernel
theorem dWay_weigh_25 : decode prog_12_method_3_code 25 = .ok (.aload_n 0, 1) := by decide +kernel
theorem dWay_weigh_26 : decode prog_12_method_3_code 26 = .ok (.iload_n 3, 1) := by decide +kernel
theorem dWay_weigh_27 : decode prog_12_method_3_code 27 = .ok (.putfield 18, 3) := by decide +kernel
theorem dWay_weigh_30 : decode prog_12_method_3_code 30 = .ok (.aload_n 0, 1) := by decide +kernel
theorem dWay_weigh_31 : decode prog_12_method_3_code 31 = .ok (.iload 4, 2) := by decide +kernel
theorem dWay_weigh_33 : decode prog_12_method_3_code 33 = .ok (.putfield 21, 3) := by decide +kernel
theorem dWay_weigh_36 : decode prog_12_method_3_code 36 = .ok (.aload_n 0, 1) := by decide +kernel
theorem dWay_weigh_37 : decode prog_12_method_3_code 37 = .ok (.iload 5, 2) := by decide +kernel
theorem dWay_weigh_39 : decode prog_12_method_3_code 39 = .ok (.putfield 24, 3) := by decide +kernel
theorem dWay_weigh_42 : decode prog_12_method_3_code 42 = .ok (.aload_n 0, 1) := by decide +kernel
theorem dWay_weigh_43 : decode prog_12_method_3_code 43 = .ok (.lload 6, 2) := by decide +kernel
theorem dWay_weigh_45 : decode prog_12_method_3_code 45 = .ok (.putfield 27, 3) := by decide +kernel
theorem dWay_weigh_48 : decode prog_12_method_3_code 48 = .ok (.return_, 1) := by decide +kernel
theorem dWay_affordable_0 : decode prog_12_method_4_code 0 = .ok (.aload_n 0, 1) := by decide +kernel
theorem dWay_affordable_1 : decode prog_12_method_4_code 1 = .ok (.getfield 70, 3) := by decide +kernel
theorem dWay_affordable_4 : decode prog_12_method_4_code 4 = .ok (.getfield 74, 3) := by decide +kernel
theorem dWay_affordable_7 : decode prog_12_method_4_code 7 = .ok (.istore_n 3, 1) := by decide +kernel
theorem dWay_affordable_8 : decode prog_12_method_4_code 8 = .ok (.iload_n 2, 1) := by decide +kernel
theorem dWay_affordable_9 : decode prog_12_method_4_code 9 = .ok (.ifCond .gt 7, 3) := by decide +kernel
theorem dWay_affordable_12 : decode prog_12_method_4_code 12 = .ok (.iload_n 3, 1) := by decide +kernel
theorem dWay_affordable_13 : decode prog_12_method_4_code 13 = .ok (.goto 18, 3) := by decide +kernel
theorem dWay_affordable_16 : decode prog_12_method_4_code 16 = .ok (.iload_n 3, 1) := by decide +kernel
theorem dWay_affordable_17 : decode prog_12_method_4_code 17 = .ok (.i2l, 1) := by decide +kernel
theorem dWay_affordable_18 : decode prog_12_method_4_code 18 = .ok (.aload_n 0, 1) := by decide +kernel
theorem dWay_affordable_19 : decode prog_12_method_4_code 19 = .ok (.getfield 79, 3) := by decide +kernel
theorem dWay_affordable_22 : decode prog_12_method_4_code 22 = .ok (.iload_n 1, 1) := by decide +kernel
theorem dWay_affordable_23 : decode prog_12_method_4_code 23 = .ok (.laload, 1) := by decide +kernel
theorem dWay_affordable_24 : decode prog_12_method_4_code 24 = .ok (.iload_n 2, 1) := by decide +kernel
theorem dWay_affordable_25 : decode prog_12_method_4_code 25 = .ok (.i2l, 1) := by decide +kernel
theorem dWay_affordable_26 : decode prog_12_method_4_code 26 = .ok (.ldiv, 1) := by decide +kernel
theorem dWay_affordable_27 : decode prog_12_method_4_code 27 = .ok (.invokestatic 83, 3) := by decide +kernel
theorem dWay_affordable_30 : decode prog_12_method_4_code 30 = .ok (.l2i, 1) := by decide +kernel
theorem dWay_affordable_31 : decode prog_12_method_4_code 31 = .ok (.ireturn, 1) := by decide +kernel
theorem dWay_weighCarrying_0 : decode prog_12_method_5_code 0 = .ok (.iconst 0, 1) := by decide +kernel
theorem dWay_weighCarrying_1 : decode prog_12_method_5_code 1 = .ok (.istore_n 3, 1) := by decide +kernel
theorem dWay_weighCarrying_2 : decode prog_12_method_5_code 2 = .ok (.iload_n 3, 1) := by decide +kernel
theorem dWay_weighCarrying_3 : decode prog_12_method_5_code 3 = .ok (.aload_n 1, 1) := by decide +kernel
theorem dWay_weighCarrying_4 : decode prog_12_method_5_code 4 = .ok (.getfield 39, 3) := by decide +kernel
theorem dWay_weighCarrying_7 : decode prog_12_method_5_code 7 = .ok (.getfield 89, 3) := by decide +kernel
theorem dWay_weighCarrying_10 : decode prog_12_method_5_code 10 = .ok (.if_icmp .ge 144, 3) := by decide +kernel
theorem dWay_weighCarrying_13 : decode prog_12_method_5_code 13 = .ok (.iconst 0, 1) := by decide +kernel
theorem dWay_weighCarrying_14 : decode prog_12_method_5_code 14 = .ok (.istore 4, 2) := by decide +kernel
theorem dWay_weighCarrying_16 : decode prog_12_method_5_code 16 = .ok (.iload 4, 2) := by decide +kernel
theorem dWay_weighCarrying_18 : decode prog_12_method_5_code 18 = .ok (.aload_n 1, 1) := by decide +kernel
theorem dWay_weighCarrying_19 : decode prog_12_method_5_code 19 = .ok (.getfield 39, 3) := by decide +kernel
theorem dWay_weighCarrying_22 : decode prog_12_method_5_code 22 = .ok (.getfield 92, 3) := by decide +kernel
theorem dWay_weighCarrying_25 : decode prog_12_method_5_code 25 = .ok (.if_icmp .ge 123, 3) := by decide +kernel
theorem dWay_weighCarrying_28 : decode prog_12_method_5_code 28 = .ok (.aload_n 1, 1) := by decide +kernel
theorem dWay_weighCarrying_29 : decode prog_12_method_5_code 29 = .ok (.getfield 39, 3) := by decide +kernel
theorem dWay_weighCarrying_32 : decode prog_12_method_5_code 32 = .ok (.aload_n 1, 1) := by decide +kernel
theorem dWay_weighCarrying_33 : decode prog_12_method_5_code 33 = .ok (.getfield 39, 3) := by decide +kernel
theorem dWay_weighCarrying_36 : decode prog_12_method_5_code 36 = .ok (.getfield 95, 3) := by decide +kernel
theorem dWay_weighCarrying_39 : decode prog_12_method_5_code 39 = .ok (.iload 4, 2) := by decide +kernel
theorem dWay_weighCarrying_41 : decode prog_12_method_5_code 41 = .ok (.iaload, 1) := by decide +kernel
theorem dWay_weighCarrying_42 : decode prog_12_method_5_code 42 = .ok (.aload_n 1, 1) := by decide +kernel
theorem dWay_weighCarrying_43 : decode prog_12_method_5_code 43 = .ok (.getfield 39, 3) := by decide +kernel
theorem dWay_weighCarrying_46 : decode prog_12_method_5_code 46 = .ok (.getfield 99, 3) := by decide +kernel
theorem dWay_weighCarrying_49 : decode prog_12_method_5_code 49 = .ok (.iload_n 3, 1) := by decide +kernel
theorem dWay_weighCarrying_50 : decode prog_12_method_5_code 50 = .ok (.iaload, 1) := by decide +kernel
theorem dWay_weighCarrying_51 : decode prog_12_method_5_code 51 = .ok (.invokevirtual 102, 3) := by decide +kernel
theorem dWay_weighCarrying_54 : decode prog_12_method_5_code 54 = .ok (.istore 5, 2) := by decide +kernel
theorem dWay_weighCarrying_56 : decode prog_12_method_5_code 56 = .ok (.aload_n 1, 1) := by decide +kernel
theorem dWay_weighCarrying_57 : decode prog_12_method_5_code 57 = .ok (.iload 4, 2) := by decide +kernel
theorem dWay_weighCarrying_59 : decode prog_12_method_5_code 59 = .ok (.iload 5, 2) := by decide +kernel
theorem dWay_weighCarrying_61 : decode prog_12_method_5_code 61 = .ok (.invokevirtual 106, 3) := by decide +kernel
theorem dWay_weighCarrying_64 : decode prog_12_method_5_code 64 = .ok (.istore 6, 2) := by decide +kernel
theorem dWay_weighCarrying_66 : decode prog_12_method_5_code 66 = .ok (.aload_n 1, 1) := by decide +kernel
theorem dWay_weighCarrying_67 : decode prog_12_method_5_code 67 = .ok (.iload_n 2, 1) := by decide +kernel
theorem dWay_weighCarrying_68 : decode prog_12_method_5_code 68 = .ok (.iload 6, 2) := by decide +kernel
theorem dWay_weighCarrying_70 : decode prog_12_method_5_code 70 = .ok (.invokestatic 109, 3) := by decide +kernel
theorem dWay_weighCarrying_73 : decode prog_12_method_5_code 73 = .ok (.aload_n 1, 1) := by decide +kernel
theorem dWay_weighCarrying_74 : decode prog_12_method_5_code 74 = .ok (.getfield 113, 3) := by decide +kernel
theorem dWay_weighCarrying_77 : decode prog_12_method_5_code 77 = .ok (.getfield 117, 3) := by decide +kernel
theorem dWay_weighCarrying_80 : decode prog_12_method_5_code 80 = .ok (.iload 4, 2) := by decide +kernel
theorem dWay_weighCarrying_82 : decode prog_12_method_5_code 82 = .ok (.iaload, 1) := by decide +kernel
theorem dWay_weighCarrying_83 : decode prog_12_method_5_code 83 = .ok (.bipush 10, 2) := by decide +kernel
theorem dWay_weighCarrying_85 : decode prog_12_method_5_code 85 = .ok (.idiv, 1) := by decide +kernel
theorem dWay_weighCarrying_86 : decode prog_12_method_5_code 86 = .ok (.invokestatic 122, 3) := by decide +kernel
theorem dWay_weighCarrying_89 : decode prog_12_method_5_code 89 = .ok (.istore 7, 2) := by decide +kernel
theorem dWay_weighCarrying_91 : decode prog_12_method_5_code 91 = .ok (.iload 5, 2) := by decide +kernel
theorem dWay_weighCarrying_93 : decode prog_12_method_5_code 93 = .ok (.iconst (-1), 1) := by decide +kernel
theorem dWay_weighCarrying_94 : decode prog_12_method_5_code 94 = .ok (.if_icmp .eq 48, 3) := by decide +kernel
theorem dWay_weighCarrying_97 : decode prog_12_method_5_code 97 = .ok (.iload 7, 2) := by decide +kernel
theorem dWay_weighCarrying_99 : decode prog_12_method_5_code 99 = .ok (.ifCond .le 43, 3) := by decide +kernel
theorem dWay_weighCarrying_102 : decode prog_12_method_5_code 102 = .ok (.aload_n 1, 1) := by decide +kernel
theorem dWay_weighCarrying_103 : decode prog_12_method_5_code 103 = .ok (.iload_n 3, 1) := by decide +kernel
theorem dWay_weighCarrying_104 : decode prog_12_method_5_code 104 = .ok (.iload 5, 2) := by decide +kernel
theorem dWay_weighCarrying_106 : decode prog_12_method_5_code 106 = .ok (.invokevirtual 124, 3) := by decide +kernel
theorem dWay_weighCarrying_109 : decode prog_12_method_5_code 109 = .ok (.istore 8, 2) := by decide +kernel
theorem dWay_weighCarrying_111 : decode prog_12_method_5_code 111 = .ok (.aload_n 0, 1) := by decide +kernel
theorem dWay_weighCarrying_112 : decode prog_12_method_5_code 112 = .ok (.iconst 1, 1) := by decide +kernel
theorem dWay_weighCarrying_113 : decode prog_12_method_5_code 113 = .ok (.iload_n 3, 1) := by decide +kernel
theorem dWay_weighCarrying_114 : decode prog_12_method_5_code 114 = .ok (.iload 4, 2) := by decide +kernel
theorem dWay_weighCarrying_116 : decode prog_12_method_5_code 116 = .ok (.iload 7, 2) := by decide +kernel
theorem dWay_weighCarrying_118 : decode prog_12_method_5_code 118 = .ok (.iload 7, 2) := by decide +kernel
theorem dWay_weighCarrying_120 : decode prog_12_method_5_code 120 = .ok (.iload 8, 2) := by decide +kernel
theorem dWay_weighCarrying_122 : decode prog_12_method_5_code 122 = .ok (.imul, 1) := by decide +kernel
theorem dWay_weighCarrying_123 : decode prog_12_method_5_code 123 = .ok (.iload 7, 2) := by decide +kernel
theorem dWay_weighCarrying_125 : decode prog_12_method_5_code 125 = .ok (.i2l, 1) := by decide +kernel
theorem dWay_weighCarrying_126 : decode prog_12_method_5_code 126 = .ok (.iload 8, 2) := by decide +kernel
theorem dWay_weighCarrying_128 : decode prog_12_method_5_code 128 = .ok (.i2l, 1) := by decide +kernel
theorem dWay_weighCarrying_129 : decode prog_12_method_5_code 129 = .ok (.aload_n 0, 1) := by decide +kernel
theorem dWay_weighCarrying_130 : decode prog_12_method_5_code 130 = .ok (.getfield 34, 3) := by decide +kernel
theorem dWay_weighCarrying_133 : decode prog_12_method_5_code 133 = .ok (.lmul, 1) := by decide +kernel
theorem dWay_weighCarrying_134 : decode prog_12_method_5_code 134 = .ok (.iload 6, 2) := by decide +kernel
theorem dWay_weighCarrying_136 : decode prog_12_method_5_code 136 = .ok (.i2l, 1) := by decide +kernel
theorem dWay_weighCarrying_137 : decode prog_12_method_5_code 137 = .ok (.lsub, 1) := by decide +kernel
theorem dWay_weighCarrying_138 : decode prog_12_method_5_code 138 = .ok (.lmul, 1) := by decide +kernel
theorem dWay_weighCarrying_139 : decode prog_12_method_5_code 139 = .ok (.invokevirtual 127, 3) := by decide +kernel
theorem dWay_weighCarrying_142 : decode prog_12_method_5_code 142 = .ok (.iinc 4 1, 3) := by decide +kernel
theorem dWay_weighCarrying_145 : decode prog_12_method_5_code 145 = .ok (.goto (-129), 3) := by decide +kernel
theorem dWay_weighCarrying_148 : decode prog_12_method_5_code 148 = .ok (.iinc 3 1, 3) := by decide +kernel
theorem dWay_weighCarrying_151 : decode prog_12_method_5_code 151 = .ok (.goto (-149), 3) := by decide +kernel
theorem dWay_weighCarrying_154 : decode prog_12_method_5_code 154 = .ok (.return_, 1) := by decide +kernel
theorem dWay_weighFarming_0 : decode prog_12_method_6_code 0 = .ok (.aload_n 1, 1) := by decide +kernel
theorem dWay_weighFarming_1 : decode prog_12_method_6_code 1 = .ok (.getfield 70, 3) := by decide +kernel
theorem dWay_weighFarming_4 : decode prog_12_method_6_code 4 = .ok (.getfield 131, 3) := by decide +kernel
theorem dWay_weighFarming_7 : decode prog_12_method_6_code 7 = .ok (.istore_n 3, 1) := by decide +kernel
theorem dWay_weighFarming_8 : decode prog_12_method_6_code 8 = .ok (.aload_n 1, 1) := by decide +kernel
theorem dWay_weighFarming_9 : decode prog_12_method_6_code 9 = .ok (.iload_n 2, 1) := by decide +kernel
theorem dWay_weighFarming_10 : decode prog_12_method_6_code 10 = .ok (.iload_n 3, 1) := by decide +kernel
theorem dWay_weighFarming_11 : decode prog_12_method_6_code 11 = .ok (.invokestatic 109, 3) := by decide +kernel
theorem dWay_weighFarming_14 : decode prog_12_method_6_code 14 = .ok (.istore 4, 2) := by decide +kernel
theorem dWay_weighFarming_16 : decode prog_12_method_6_code 16 = .ok (.iconst 0, 1) := by decide +kernel
theorem dWay_weighFarming_17 : decode prog_12_method_6_code 17 = .ok (.istore 5, 2) := by decide +kernel
theorem dWay_weighFarming_19 : decode prog_12_method_6_code 19 = .ok (.iload 5, 2) := by decide +kernel
theorem dWay_weighFarming_21 : decode prog_12_method_6_code 21 = .ok (.aload_n 1, 1) := by decide +kernel
theorem dWay_weighFarming_22 : decode prog_12_method_6_code 22 = .ok (.getfield 39, 3) := by decide +kernel
theorem dWay_weighFarming_25 : decode prog_12_method_6_code 25 = .ok (.getfield 89, 3) := by decide +kernel
theorem dWay_weighFarming_28 : decode prog_12_method_6_code 28 = .ok (.if_icmp .ge 63, 3) := by decide +kernel
theorem dWay_weighFarming_31 : decode prog_12_method_6_code 31 = .ok (.aload_n 1, 1) := by decide +kernel
theorem dWay_weighFarming_32 : decode prog_12_method_6_code 32 = .ok (.iload_n 2, 1) := by decide +kernel
theorem dWay_weighFarming_33 : decode prog_12_method_6_code 33 = .ok (.iload 5, 2) := by decide +kernel
theorem dWay_weighFarming_35 : decode prog_12_method_6_code 35 = .ok (.invokevirtual 134, 3) := by decide +kernel
theorem dWay_weighFarming_38 : decode prog_12_method_6_code 38 = .ok (.ifCond .eq 47, 3) := by decide +kernel
theorem dWay_weighFarming_41 : decode prog_12_method_6_code 41 = .ok (.iload 4, 2) := by decide +kernel
theorem dWay_weighFarming_43 : decode prog_12_method_6_code 43 = .ok (.ifCond .le 42, 3) := by decide +kernel
theorem dWay_weighFarming_46 : decode prog_12_method_6_code 46 = .ok (.aload_n 1, 1) := by decide +kernel
theorem dWay_weighFarming_47 : decode prog_12_method_6_code 47 = .ok (.iload 5, 2) := by decide +kernel
theorem dWay_weighFarming_49 : decode prog_12_method_6_code 49 = .ok (.iconst 0, 1) := by decide +kernel
theorem dWay_weighFarming_50 : decode prog_12_method_6_code 50 = .ok (.invokevirtual 124, 3) := by decide +kernel
theorem dWay_weighFarming_53 : decode prog_12_method_6_code 53 = .ok (.istore 6, 2) := by decide +kernel
theorem dWay_weighFarming_55 : decode prog_12_method_6_code 55 = .ok (.aload_n 0, 1) := by decide +kernel
theorem dWay_weighFarming_56 : decode prog_12_method_6_code 56 = .ok (.iconst 2, 1) := by decide +kernel
theorem dWay_weighFarming_57 : decode prog_12_method_6_code 57 = .ok (.iload 5, 2) := by decide +kernel
theorem dWay_weighFarming_59 : decode prog_12_method_6_code 59 = .ok (.iconst (-1), 1) := by decide +kernel
theorem dWay_weighFarming_60 : decode prog_12_method_6_code 60 = .ok (.iload 4, 2) := by decide +kernel
theorem dWay_weighFarming_62 : decode prog_12_method_6_code 62 = .ok (.iload 4, 2) := by decide +kernel
theorem dWay_weighFarming_64 : decode prog_12_method_6_code 64 = .ok (.iload 6, 2) := by decide +kernel
theorem dWay_weighFarming_66 : decode prog_12_method_6_code 66 = .ok (.imul, 1) := by decide +kernel
theorem dWay_weighFarming_67 : decode prog_12_method_6_code 67 = .ok (.iload 4, 2) := by decide +kernel
theorem dWay_weighFarming_69 : decode prog_12_method_6_code 69 = .ok (.i2l, 1) := by decide +kernel
theorem dWay_weighFarming_70 : decode prog_12_method_6_code 70 = .ok (.iload 6, 2) := by decide +kernel
theorem dWay_weighFarming_72 : decode prog_12_method_6_code 72 = .ok (.i2l, 1) := by decide +kernel
theorem dWay_weighFarming_73 : decode prog_12_method_6_code 73 = .ok (.aload_n 0, 1) := by decide +kernel
theorem dWay_weighFarming_74 : decode prog_12_method_6_code 74 = .ok (.getfield 34, 3) := by decide +kernel
theorem dWay_weighFarming_77 : decode prog_12_method_6_code 77 = .ok (.lmul, 1) := by decide +kernel
theorem dWay_weighFarming_78 : decode prog_12_method_6_code 78 = .ok (.iload_n 3, 1) := by decide +kernel
theorem dWay_weighFarming_79 : decode prog_12_method_6_code 79 = .ok (.i2l, 1) := by decide +kernel
theorem dWay_weighFarming_80 : decode prog_12_method_6_code 80 = .ok (.lsub, 1) := by decide +kernel
theorem dWay_weighFarming_81 : decode prog_12_method_6_code 81 = .ok (.lmul, 1) := by decide +kernel
theorem dWay_weighFarming_82 : decode prog_12_method_6_code 82 = .ok (.invokevirtual 127, 3) := by decide +kernel
theorem dWay_weighFarming_85 : decode prog_12_method_6_code 85 = .ok (.iinc 5 1, 3) := by decide +kernel
theorem dWay_weighFarming_88 : decode prog_12_method_6_code 88 = .ok (.goto (-69), 3) := by decide +kernel
theorem dWay_weighFarming_91 : decode prog_12_method_6_code 91 = .ok (.return_, 1) := by decide +kernel
theorem dWay_weighFounding_0 : decode prog_12_method_7_code 0 = .ok (.iconst 0, 1) := by decide +kernel
theorem dWay_weighFounding_1 : decode prog_12_method_7_code 1 = .ok (.istore_n 3, 1) := by decide +kernel
theorem dWay_weighFounding_2 : decode prog_12_method_7_code 2 = .ok (.iload_n 3, 1) := by decide +kernel
theorem dWay_weighFounding_3 : decode prog_12_method_7_code 3 = .ok (.aload_n 1, 1) := by decide +kernel
theorem dWay_weighFounding_4 : decode prog_12_method_7_code 4 = .ok (.getfield 39, 3) := by decide +kernel
theorem dWay_weighFounding_7 : decode prog_12_method_7_code 7 = .ok (.getfield 89, 3) := by decide +kernel
theorem dWay_weighFounding_10 : decode prog_12_method_7_code 10 = .ok (.if_icmp .ge 87, 3) := by decide +kernel
theorem dWay_weighFounding_13 : decode prog_12_method_7_code 13 = .ok (.aload_n 1, 1) := by decide +kernel
theorem dWay_weighFounding_14 : decode prog_12_method_7_code 14 = .ok (.iload_n 2, 1) := by decide +kernel
theorem dWay_weighFounding_15 : decode prog_12_method_7_code 15 = .ok (.iload_n 3, 1) := by decide +kernel
theorem dWay_weighFounding_16 : decode prog_12_method_7_code 16 = .ok (.invokevirtual 138, 3) := by decide +kernel
theorem dWay_weighFounding_19 : decode prog_12_method_7_code 19 = .ok (.ifCond .ne 72, 3) := by decide +kernel
theorem dWay_weighFounding_22 : decode prog_12_method_7_code 22 = .ok (.aload_n 1, 1) := by decide +kernel
theorem dWay_weighFounding_23 : decode prog_12_method_7_code 23 = .ok (.getfield 79, 3) := by decide +kernel
theorem dWay_weighFounding_26 : decode prog_12_method_7_code 26 = .ok (.iload_n 2, 1) := by decide +kernel
theorem dWay_weighFounding_27 : decode prog_12_method_7_code 27 = .ok (.laload, 1) := by decide +kernel
theorem dWay_weighFounding_28 : decode prog_12_method_7_code 28 = .ok (.aload_n 1, 1) := by decide +kernel
theorem dWay_weighFounding_29 : decode prog_12_method_7_code 29 = .ok (.getfield 70, 3) := by decide +kernel
theorem dWay_weighFounding_32 : decode prog_12_method_7_code 32 = .ok (.getfield 141, 3) := by decide +kernel
theorem dWay_weighFounding_35 : decode prog_12_method_7_code 35 = .ok (.i2l, 1) := by decide +kernel
theorem dWay_weighFounding_36 : decode prog_12_method_7_code 36 = .ok (.lcmp, 1) := by decide +kernel
theorem dWay_weighFounding_37 : decode prog_12_method_7_code 37 = .ok (.ifCond .lt 54, 3) := by decide +kernel
theorem dWay_weighFounding_40 : decode prog_12_method_7_code 40 = .ok (.aload_n 1, 1) := by decide +kernel
theorem dWay_weighFounding_41 : decode prog_12_method_7_code 41 = .ok (.iload_n 3, 1) := by decide +kernel
theorem dWay_weighFounding_42 : decode prog_12_method_7_code 42 = .ok (.iconst 0, 1) := by decide +kernel
theorem dWay_weighFounding_43 : decode prog_12_method_7_code 43 = .ok (.invokevirtual 124, 3) := by decide +kernel
theorem dWay_weighFounding_46 : decode prog_12_method_7_code 46 = .ok (.i2l, 1) := by decide +kernel
theorem dWay_weighFounding_47 : decode prog_12_method_7_code 47 = .ok (.aload_n 0, 1) := by decide +kernel
theorem dWay_weighFounding_48 : decode prog_12_method_7_code 48 = .ok (.getfield 34, 3) := by decide +kernel
theorem dWay_weighFounding_51 : decode prog_12_method_7_code 51 = .ok (.lmul, 1) := by decide +kernel
theorem dWay_weighFounding_52 : decode prog_12_method_7_code 52 = .ok (.aload_n 1, 1) := by decide +kernel
theorem dWay_weighFounding_53 : decode prog_12_method_7_code 53 = .ok (.getfield 70, 3) := by decide +kernel
theorem dWay_weighFounding_56 : decode prog_12_method_7_code 56 = .ok (.getfield 131, 3) := by decide +kernel
theorem dWay_weighFounding_59 : decode prog_12_method_7_code 59 = .ok (.i2l, 1) := by decide +kernel
theorem dWay_weighFounding_60 : decode prog_12_method_7_code 60 = .ok (.lsub, 1) := by decide +kernel
theorem dWay_weighFounding_61 : decode prog_12_method_7_code 61 = .ok (.lstore 4, 2) := by decide +kernel
theorem dWay_weighFounding_63 : decode prog_12_method_7_code 63 = .ok (.aload_n 0, 1) := by decide +kernel
theorem dWay_weighFounding_64 : decode prog_12_method_7_code 64 = .ok (.iconst 3, 1) := by decide +kernel
theorem dWay_weighFounding_65 : decode prog_12_method_7_code 65 = .ok (.iload_n 3, 1) := by decide +kernel
theorem dWay_weighFounding_66 : decode prog_12_method_7_code 66 = .ok (.iconst (-1), 1) := by decide +kernel
theorem dWay_weighFounding_67 : decode prog_12_method_7_code 67 = .ok (.iconst 1, 1) := by decide +kernel
theorem dWay_weighFounding_68 : decode prog_12_method_7_code 68 = .ok (.iconst 0, 1) := by decide +kernel
theorem dWay_weighFounding_69 : decode prog_12_method_7_code 69 = .ok (.ldc2_w 144, 3) := by decide +kernel
theorem dWay_weighFounding_72 : decode prog_12_method_7_code 72 = .ok (.lload 4, 2) := by decide +kernel
theorem dWay_weighFounding_74 : decode prog_12_method_7_code 74 = .ok (.lmul, 1) := by decide +kernel
theorem dWay_weighFounding_75 : decode prog_12_method_7_code 75 = .ok (.aload_n 1, 1) := by decide +kernel
theorem dWay_weighFounding_76 : decode prog_12_method_7_code 76 = .ok (.getfield 70, 3) := by decide +kernel
theorem dWay_weighFounding_79 : decode prog_12_method_7_code 79 = .ok (.getfield 141, 3) := by decide +kernel
theorem dWay_weighFounding_82 : decode prog_12_method_7_code 82 = .ok (.i2l, 1) := by decide +kernel
theorem dWay_weighFounding_83 : decode prog_12_method_7_code 83 = .ok (.lsub, 1) := by decide +kernel
theorem dWay_weighFounding_84 : decode prog_12_method_7_code 84 = .ok (.ldc2_w 144, 3) := by decide +kernel
theorem dWay_weighFounding_87 : decode prog_12_method_7_code 87 = .ok (.ldiv, 1) := by decide +kernel
theorem dWay_weighFounding_88 : decode prog_12_method_7_code 88 = .ok (.invokevirtual 127, 3) := by decide +kernel
theorem dWay_weighFounding_91 : decode prog_12_method_7_code 91 = .ok (.iinc 3 1, 3) := by decide +kernel
theorem dWay_weighFounding_94 : decode prog_12_method_7_code 94 = .ok (.goto (-92), 3) := by decide +kernel
theorem dWay_weighFounding_97 : decode prog_12_method_7_code 97 = .ok (.return_, 1) := by decide +kernel
theorem dWay_weighBuying_0 : decode prog_12_method_8_code 0 = .ok (.aload_n 1, 1) := by decide +kernel
theorem dWay_weighBuying_1 : decode prog_12_method_8_code 1 = .ok (.getfield 146, 3) := by decide +kernel
theorem dWay_weighBuying_4 : decode prog_12_method_8_code 4 = .ok (.iconst 2, 1) := by decide +kernel
theorem dWay_weighBuying_5 : decode prog_12_method_8_code 5 = .ok (.iaload, 1) := by decide +kernel
theorem dWay_weighBuying_6 : decode prog_12_method_8_code 6 = .ok (.istore_n 3, 1) := by decide +kernel
theorem dWay_weighBuying_7 : decode prog_12_method_8_code 7 = .ok (.iload_n 3, 1) := by decide +kernel
theorem dWay_weighBuying_8 : decode prog_12_method_8_code 8 = .ok (.ifCond .le 52, 3) := by decide +kernel
theorem dWay_weighBuying_11 : decode prog_12_method_8_code 11 = .ok (.aload_n 1, 1) := by decide +kernel
theorem dWay_weighBuying_12 : decode prog_12_method_8_code 12 = .ok (.iload_n 2, 1) := by decide +kernel
theorem dWay_weighBuying_13 : decode prog_12_method_8_code 13 = .ok (.bipush 10, 2) := by decide +kernel
theorem dWay_weighBuying_15 : decode prog_12_method_8_code 15 = .ok (.iload_n 3, 1) := by decide +kernel
theorem dWay_weighBuying_16 : decode prog_12_method_8_code 16 = .ok (.imul, 1) := by decide +kernel
theorem dWay_weighBuying_17 : decode prog_12_method_8_code 17 = .ok (.invokestatic 109, 3) := by decide +kernel
theorem dWay_weighBuying_20 : decode prog_12_method_8_code 20 = .ok (.aload_n 1, 1) := by decide +kernel
theorem dWay_weighBuying_21 : decode prog_12_method_8_code 21 = .ok (.getfield 149, 3) := by decide +kernel
theorem dWay_weighBuying_24 : decode prog_12_method_8_code 24 = .ok (.bipush 10, 2) := by decide +kernel
theorem dWay_weighBuying_26 : decode prog_12_method_8_code 26 = .ok (.idiv, 1) := by decide +kernel
theorem dWay_weighBuying_27 : decode prog_12_method_8_code 27 = .ok (.invokestatic 122, 3) := by decide +kernel
theorem dWay_weighBuying_30 : decode prog_12_method_8_code 30 = .ok (.istore 4, 2) := by decide +kernel
theorem dWay_weighBuying_32 : decode prog_12_method_8_code 32 = .ok (.aload_n 0, 1) := by decide +kernel
theorem dWay_weighBuying_33 : decode prog_12_method_8_code 33 = .ok (.iconst 4, 1) := by decide +kernel
theorem dWay_weighBuying_34 : decode prog_12_method_8_code 34 = .ok (.iconst (-1), 1) := by decide +kernel
theorem dWay_weighBuying_35 : decode prog_12_method_8_code 35 = .ok (.iconst (-1), 1) := by decide +kernel
theorem dWay_weighBuying_36 : decode prog_12_method_8_code 36 = .ok (.iload 4, 2) := by decide +kernel
theorem dWay_weighBuying_38 : decode prog_12_method_8_code 38 = .ok (.iload 4, 2) := by decide +kernel
theorem dWay_weighBuying_40 : decode prog_12_method_8_code 40 = .ok (.bipush 10, 2) := by decide +kernel
theorem dWay_weighBuying_42 : decode prog_12_method_8_code 42 = .ok (.imul, 1) := by decide +kernel
theorem dWay_weighBuying_43 : decode prog_12_method_8_code 43 = .ok (.iload 4, 2) := by decide +kernel
theorem dWay_weighBuying_45 : decode prog_12_method_8_code 45 = .ok (.bipush 10, 2) := by decide +kernel
theorem dWay_weighBuying_47 : decode prog_12_method_8_code 47 = .ok (.imul, 1) := by decide +kernel
theorem dWay_weighBuying_48 : decode prog_12_method_8_code 48 = .ok (.i2l, 1) := by decide +kernel
theorem dWay_weighBuying_49 : decode prog_12_method_8_code 49 = .ok (.aload_n 0, 1) := by decide +kernel
theorem dWay_weighBuying_50 : decode prog_12_method_8_code 50 = .ok (.getfield 34, 3) := by decide +kernel
theorem dWay_weighBuying_53 : decode prog_12_method_8_code 53 = .ok (.iload_n 3, 1) := by decide +kernel
theorem dWay_weighBuying_54 : decode prog_12_method_8_code 54 = .ok (.i2l, 1) := by decide +kernel
theorem dWay_weighBuying_55 : decode prog_12_method_8_code 55 = .ok (.lsub, 1) := by decide +kernel
theorem dWay_weighBuying_56 : decode prog_12_method_8_code 56 = .ok (.lmul, 1) := by decide +kernel
theorem dWay_weighBuying_57 : decode prog_12_method_8_code 57 = .ok (.invokevirtual 127, 3) := by decide +kernel
theorem dWay_weighBuying_60 : decode prog_12_method_8_code 60 = .ok (.return_, 1) := by decide +kernel
theorem dOffice_init_0 : decode prog_1_method_1_code 0 = .ok (.aload_n 0, 1) := by decide +kernel
theorem dOffice_init_1 : decode prog_1_method_1_code 1 = .ok (.invokespecial 3, 3) := by decide +kernel
theorem dOffice_init_4 : decode prog_1_method_1_code 4 = .ok (.aload_n 0, 1) := by decide +kernel
theorem dOffice_init_5 : decode prog_1_method_1_code 5 = .ok (.new 9, 3) := by decide +kernel
theorem dOffice_init_8 : decode prog_1_method_1_code 8 = .ok (.dup, 1) := by decide +kernel
theorem dOffice_init_9 : decode prog_1_method_1_code 9 = .ok (.invokespecial 11, 3) := by decide +kernel
theorem dOffice_init_12 : decode prog_1_method_1_code 12 = .ok (.putfield 12, 3) := by decide +kernel
theorem dOffice_init_15 : decode prog_1_method_1_code 15 = .ok (.aload_n 0, 1) := by decide +kernel
theorem dOffice_init_16 : decode prog_1_method_1_code 16 = .ok (.new 16, 3) := by decide +kernel
theorem dOffice_init_19 : decode prog_1_method_1_code 19 = .ok (.dup, 1) := by decide +kernel
theorem dOffice_init_20 : decode prog_1_method_1_code 20 = .ok (.invokespecial 18, 3) := by decide +kernel
theorem dOffice_init_23 : decode prog_1_method_1_code 23 = .ok (.putfield 19, 3) := by decide +kernel
theorem dOffice_init_26 : decode prog_1_method_1_code 26 = .ok (.aload_n 0, 1) := by decide +kernel
theorem dOffice_init_27 : decode prog_1_method_1_code 27 = .ok (.new 16, 3) := by decide +kernel
theorem dOffice_init_30 : decode prog_1_method_1_code 30 = .ok (.dup, 1) := by decide +kernel
theorem dOffice_init_31 : decode prog_1_method_1_code 31 = .ok (.invokespecial 18, 3) := by decide +kernel
theorem dOffice_init_34 : decode prog_1_method_1_code 34 = .ok (.putfield 23, 3) := by decide +kernel
theorem dOffice_init_37 : decode prog_1_method_1_code 37 = .ok (.aload_n 0, 1) := by decide +kernel
theorem dOffice_init_38 : decode prog_1_method_1_code 38 = .ok (.iconst 4, 1) := by decide +kernel
theorem dOffice_init_39 : decode prog_1_method_1_code 39 = .ok (.anewarray 26, 3) := by decide +kernel
theorem dOffice_init_42 : decode prog_1_method_1_code 42 = .ok (.putfield 28, 3) := by decide +kernel
theorem dOffice_init_45 : decode prog_1_method_1_code 45 = .ok (.aload_n 0, 1) := by decide +kernel
theorem dOffice_init_46 : decode prog_1_method_1_code 46 = .ok (.new 26, 3) := by decide +kernel
theorem dOffice_init_49 : decode prog_1_method_1_code 49 = .ok (.dup, 1) := by decide +kernel
theorem dOffice_init_50 : decode prog_1_method_1_code 50 = .ok (.invokespecial 32, 3) := by decide +kernel
theorem dOffice_init_53 : decode prog_1_method_1_code 53 = .ok (.putfield 33, 3) := by decide +kernel
theorem dOffice_init_56 : decode prog_1_method_1_code 56 = .ok (.aload_n 0, 1) := by decide +kernel
theorem dOffice_init_57 : decode prog_1_method_1_code 57 = .ok (.new 37, 3) := by decide +kernel
theorem dOffice_init_60 : decode prog_1_method_1_code 60 = .ok (.dup, 1) := by decide +kernel
theorem dOffice_init_61 : decode prog_1_method_1_code 61 = .ok (.invokespecial 39, 3) := by decide +kernel
theorem dOffice_init_64 : decode prog_1_method_1_code 64 = .ok (.putfield 40, 3) := by decide +kernel
theorem dOffice_init_67 : decode prog_1_method_1_code 67 = .ok (.aload_n 0, 1) := by decide +kernel
theorem dOffice_init_68 : decode prog_1_method_1_code 68 = .ok (.new 44, 3) := by decide +kernel
theorem dOffice_init_71 : decode prog_1_method_1_code 71 = .ok (.dup, 1) := by decide +kernel
theorem dOffice_init_72 : decode prog_1_method_1_code 72 = .ok (.invokespecial 46, 3) := by decide +kernel
theorem dOffice_init_75 : decode prog_1_method_1_code 75 = .ok (.putfield 47, 3) := by decide +kernel
theorem dOffice_init_78 : decode prog_1_method_1_code 78 = .ok (.aload_n 0, 1) := by decide +kernel
theorem dOffice_init_79 : decode prog_1_method_1_code 79 = .ok (.iconst 0, 1) := by decide +kernel
theorem dOffice_init_80 : decode prog_1_method_1_code 80 = .ok (.putfield 51, 3) := by decide +kernel
theorem dOffice_init_83 : decode prog_1_method_1_code 83 = .ok (.aload_n 0, 1) := by decide +kernel
theorem dOffice_init_84 : decode prog_1_method_1_code 84 = .ok (.new 55, 3) := by decide +kernel
theorem dOffice_init_87 : decode prog_1_method_1_code 87 = .ok (.dup, 1) := by decide +kernel
theorem dOffice_init_88 : decode prog_1_method_1_code 88 = .ok (.invokespecial 57, 3) := by decide +kernel
theorem dOffice_init_91 : decode prog_1_method_1_code 91 = .ok (.putfield 58, 3) := by decide +kernel
theorem dOffice_init_94 : decode prog_1_method_1_code 94 = .ok (.aload_n 0, 1) := by decide +kernel
theorem dOffice_init_95 : decode prog_1_method_1_code 95 = .ok (.new 55, 3) := by decide +kernel
theorem dOffice_init_98 : decode prog_1_method_1_code 98 = .ok (.dup, 1) := by decide +kernel
theorem dOffice_init_99 : decode prog_1_method_1_code 99 = .ok (.invokespecial 57, 3) := by decide +kernel
theorem dOffice_init_102 : decode prog_1_method_1_code 102 = .ok (.putfield 62, 3) := by decide +kernel
theorem dOffice_init_105 : decode prog_1_method_1_code 105 = .ok (.iconst 0, 1) := by decide +kernel
theorem dOffice_init_106 : decode prog_1_method_1_code 106 = .ok (.istore_n 1, 1) := by decide +kernel
theorem dOffice_init_107 : decode prog_1_method_1_code 107 = .ok (.iload_n 1, 1) := by decide +kernel
theorem dOffice_init_108 : decode prog_1_method_1_code 108 = .ok (.iconst 4, 1) := by decide +kernel
theorem dOffice_init_109 : decode prog_1_method_1_code 109 = .ok (.if_icmp .ge 22, 3) := by decide +kernel
theorem dOffice_init_112 : decode prog_1_method_1_code 112 = .ok (.aload_n 0, 1) := by decide +kernel
theorem dOffice_init_113 : decode prog_1_method_1_code 113 = .ok (.getfield 28, 3) := by decide +kernel
theorem dOffice_init_116 : decode prog_1_method_1_code 116 = .ok (.iload_n 1, 1) := by decide +kernel
theorem dOffice_init_117 : decode prog_1_method_1_code 117 = .ok (.new 26, 3) := by decide +kernel
theorem dOffice_init_120 : decode prog_1_method_1_code 120 = .ok (.dup, 1) := by decide +kernel
theorem dOffice_init_121 : decode prog_1_method_1_code 121 = .ok (.invokespecial 32, 3) := by decide +kernel
theorem dOffice_init_124 : decode prog_1_method_1_code 124 = .ok (.aastore, 1) := by decide +kernel
theorem dOffice_init_125 : decode prog_1_method_1_code 125 = .ok (.iinc 1 1, 3) := by decide +kernel
theorem dOffice_init_128 : decode prog_1_method_1_code 128 = .ok (.goto (-21), 3) := by decide +kernel
theorem dOffice_init_131 : decode prog_1_method_1_code 131 = .ok (.return_, 1) := by decide +kernel
theorem dOffice_feed_0 : decode prog_1_method_2_code 0 = .ok (.aload_n 0, 1) := by decide +kernel
theorem dOffice_feed_1 : decode prog_1_method_2_code 1 = .ok (.getfield 12, 3) := by decide +kernel
theorem dOffice_feed_4 : decode prog_1_method_2_code 4 = .ok (.getfield 65, 3) := by decide +kernel
theorem dOffice_feed_7 : decode prog_1_method_2_code 7 = .ok (.bipush 20, 2) := by decide +kernel
theorem dOffice_feed_9 : decode prog_1_method_2_code 9 = .ok (.iadd, 1) := by decide +kernel
theorem dOffice_feed_10 : decode prog_1_method_2_code 10 = .ok (.sipush 1600, 3) := by decide +kernel
theorem dOffice_feed_13 : decode prog_1_method_2_code 13 = .ok (.if_icmp .le 5, 3) := by decide +kernel
theorem dOffice_feed_16 : decode prog_1_method_2_code 16 = .ok (.iconst (-1), 1) := by decide +kernel
theorem dOffice_feed_17 : decode prog_1_method_2_code 17 = .ok (.ireturn, 1) := by decide +kernel
theorem dOffice_feed_18 : decode prog_1_method_2_code 18 = .ok (.aload_n 0, 1) := by decide +kernel
theorem dOffice_feed_19 : decode prog_1_method_2_code 19 = .ok (.getfield 12, 3) := by decide +kernel
theorem dOffice_feed_22 : decode prog_1_method_2_code 22 = .ok (.iload_n 1, 1) := by decide +kernel
theorem dOffice_feed_23 : decode prog_1_method_2_code 23 = .ok (.invokevirtual 68, 3) := by decide +kernel
theorem dOffice_feed_26 : decode prog_1_method_2_code 26 = .ok (.aload_n 0, 1) := by decide +kernel
theorem dOffice_feed_27 : decode prog_1_method_2_code 27 = .ok (.getfield 12, 3) := by decide +kernel
theorem dOffice_feed_30 : decode prog_1_method_2_code 30 = .ok (.iload_n 2, 1) := by decide +kernel
theorem dOffice_feed_31 : decode prog_1_method_2_code 31 = .ok (.invokevirtual 68, 3) := by decide +kernel
theorem dOffice_feed_34 : decode prog_1_method_2_code 34 = .ok (.aload_n 0, 1) := by decide +kernel
theorem dOffice_feed_35 : decode prog_1_method_2_code 35 = .ok (.getfield 12, 3) := by decide +kernel
theorem dOffice_feed_38 : decode prog_1_method_2_code 38 = .ok (.iload_n 3, 1) := by decide +kernel
theorem dOffice_feed_39 : decode prog_1_method_2_code 39 = .ok (.invokevirtual 68, 3) := by decide +kernel
theorem dOffice_feed_42 : decode prog_1_method_2_code 42 = .ok (.aload_n 0, 1) := by decide +kernel
theorem dOffice_feed_43 : decode prog_1_method_2_code 43 = .ok (.getfield 12, 3) := by decide +kernel
theorem dOffice_feed_46 : decode prog_1_method_2_code 46 = .ok (.iload 4, 2) := by decide +kernel
theorem dOffice_feed_48 : decode prog_1_method_2_code 48 = .ok (.invokevirtual 68, 3) := by decide +kernel
theorem dOffice_feed_51 : decode prog_1_method_2_code 51 = .ok (.aload_n 0, 1) := by decide +kernel
theorem dOffice_feed_52 : decode prog_1_method_2_code 52 = .ok (.getfield 12, 3) := by decide +kernel
theorem dOffice_feed_55 : decode prog_1_method_2_code 55 = .ok (.iload 5, 2) := by decide +kernel
theorem dOffice_feed_57 : decode prog_1_method_2_code 57 = .ok (.invokevirtual 68, 3) := by decide +kernel
theorem dOffice_feed_60 : decode prog_1_method_2_code 60 = .ok (.aload_n 0, 1) := by decide +kernel
theorem dOffice_feed_61 : decode prog_1_method_2_code 61 = .ok (.getfield 12, 3) := by decide +kernel
theorem dOffice_feed_64 : decode prog_1_method_2_code 64 = .ok (.getfield 65, 3) := by decide +kernel
theorem dOffice_feed_67 : decode prog_1_method_2_code 67 = .ok (.ireturn, 1) := by decide +kernel
theorem dOffice_end_0 : decode prog_1_method_3_code 0 = .ok (.iload_n 1, 1) := by decide +kernel
theorem dOffice_end_1 : decode prog_1_method_3_code 1 = .ok (.ifCond .lt 14, 3) := by decide +kernel
theorem dOffice_end_4 : decode prog_1_method_3_code 4 = .ok (.iload_n 1, 1) := by decide +kernel
theorem dOffice_end_5 : decode prog_1_method_3_code 5 = .ok (.aload_n 0, 1) := by decide +kernel
theorem dOffice_end_6 : decode prog_1_method_3_code 6 = .ok (.getfield 12, 3) := by decide +kernel
theorem dOffice_end_9 : decode prog_1_method_3_code 9 = .ok (.getfield 65, 3) := by decide +kernel
theorem dOffice_end_12 : decode prog_1_method_3_code 12 = .ok (.if_icmp .le 5, 3) := by decide +kernel
theorem dOffice_end_15 : decode prog_1_method_3_code 15 = .ok (.iconst (-1), 1) := by decide +kernel
theorem dOffice_end_16 : decode prog_1_method_3_code 16 = .ok (.ireturn, 1) := by decide +kernel
theorem dOffice_end_17 : decode prog_1_method_3_code 17 = .ok (.aload_n 0, 1) := by decide +kernel
theorem dOffice_end_18 : decode prog_1_method_3_code 18 = .ok (.getfield 12, 3) := by decide +kernel
theorem dOffice_end_21 : decode prog_1_method_3_code 21 = .ok (.iload_n 1, 1) := by decide +kernel
theorem dOffice_end_22 : decode prog_1_method_3_code 22 = .ok (.putfield 65, 3) := by decide +kernel
theorem dOffice_end_25 : decode prog_1_method_3_code 25 = .ok (.iload_n 1, 1) := by decide +kernel
theorem dOffice_end_26 : decode prog_1_method_3_code 26 = .ok (.ireturn, 1) := by decide +kernel
theorem dOffice_land_0 : decode prog_1_method_4_code 0 = .ok (.aload_n 0, 1) := by decide +kernel
theorem dOffice_land_1 : decode prog_1_method_4_code 1 = .ok (.getfield 23, 3) := by decide +kernel
theorem dOffice_land_4 : decode prog_1_method_4_code 4 = .ok (.aload_n 0, 1) := by decide +kernel
theorem dOffice_land_5 : decode prog_1_method_4_code 5 = .ok (.getfield 12, 3) := by decide +kernel
theorem dOffice_land_8 : decode prog_1_method_4_code 8 = .ok (.invokevirtual 72, 3) := by decide +kernel
theorem dOffice_land_11 : decode prog_1_method_4_code 11 = .ok (.istore_n 1, 1) := by decide +kernel
theorem dOffice_land_12 : decode prog_1_method_4_code 12 = .ok (.aload_n 0, 1) := by decide +kernel
theorem dOffice_land_13 : decode prog_1_method_4_code 13 = .ok (.getfield 12, 3) := by decide +kernel
theorem dOffice_land_16 : decode prog_1_method_4_code 16 = .ok (.iconst 0, 1) := by decide +kernel
theorem dOffice_land_17 : decode prog_1_method_4_code 17 = .ok (.putfield 65, 3) := by decide +kernel
theorem dOffice_land_20 : decode prog_1_method_4_code 20 = .ok (.iload_n 1, 1) := by decide +kernel
theorem dOffice_land_21 : decode prog_1_method_4_code 21 = .ok (.ifCond .ne 5, 3) := by decide +kernel
theorem dOffice_land_24 : decode prog_1_method_4_code 24 = .ok (.iconst (-1), 1) := by decide +kernel
theorem dOffice_land_25 : decode prog_1_method_4_code 25 = .ok (.ireturn, 1) := by decide +kernel
theorem dOffice_land_26 : decode prog_1_method_4_code 26 = .ok (.aload_n 0, 1) := by decide +kernel
theorem dOffice_land_27 : decode prog_1_method_4_code 27 = .ok (.getfield 19, 3) := by decide +kernel
theorem dOffice_land_30 : decode prog_1_method_4_code 30 = .ok (.astore_n 2, 1) := by decide +kernel
theorem dOffice_land_31 : decode prog_1_method_4_code 31 = .ok (.aload_n 0, 1) := by decide +kernel
theorem dOffice_land_32 : decode prog_1_method_4_code 32 = .ok (.aload_n 0, 1) := by decide +kernel
theorem dOffice_land_33 : decode prog_1_method_4_code 33 = .ok (.getfield 23, 3) := by decide +kernel
theorem dOffice_land_36 : decode prog_1_method_4_code 36 = .ok (.putfield 19, 3) := by decide +kernel
theorem dOffice_land_39 : decode prog_1_method_4_code 39 = .ok (.aload_n 0, 1) := by decide +kernel
theorem dOffice_land_40 : decode prog_1_method_4_code 40 = .ok (.aload_n 2, 1) := by decide +kernel
theorem dOffice_land_41 : decode prog_1_method_4_code 41 = .ok (.putfield 23, 3) := by decide +kernel
theorem dOffice_land_44 : decode prog_1_method_4_code 44 = .ok (.aload_n 0, 1) := by decide +kernel
theorem dOffice_land_45 : decode prog_1_method_4_code 45 = .ok (.getfield 47, 3) := by decide +kernel
theorem dOffice_land_48 : decode prog_1_method_4_code 48 = .ok (.iconst 0, 1) := by decide +kernel
theorem dOffice_land_49 : decode prog_1_method_4_code 49 = .ok (.putfield 76, 3) := by decide +kernel
theorem dOffice_land_52 : decode prog_1_method_4_code 52 = .ok (.aload_n 0, 1) := by decide +kernel
theorem dOffice_land_53 : decode prog_1_method_4_code 53 = .ok (.getfield 58, 3) := by decide +kernel
theorem dOffice_land_56 : decode prog_1_method_4_code 56 = .ok (.iconst 0, 1) := by decide +kernel
theorem dOffice_land_57 : decode prog_1_method_4_code 57 = .ok (.putfield 79, 3) := by decide +kernel
theorem dOffice_land_60 : decode prog_1_method_4_code 60 = .ok (.aload_n 0, 1) := by decide +kernel
theorem dOffice_land_61 : decode prog_1_method_4_code 61 = .ok (.getfield 19, 3) := by decide +kernel
theorem dOffice_land_64 : decode prog_1_method_4_code 64 = .ok (.getfield 83, 3) := by decide +kernel
theorem dOffice_land_67 : decode prog_1_method_4_code 67 = .ok (.aload_n 0, 1) := by decide +kernel
theorem dOffice_land_68 : decode prog_1_method_4_code 68 = .ok (.getfield 19, 3) := by decide +kernel
theorem dOffice_land_71 : decode prog_1_method_4_code 71 = .ok (.getfield 86, 3) := by decide +kernel
theorem dOffice_land_74 : decode prog_1_method_4_code 74 = .ok (.iadd, 1) := by decide +kernel
theorem dOffice_land_75 : decode prog_1_method_4_code 75 = .ok (.aload_n 0, 1) := by decide +kernel
theorem dOffice_land_76 : decode prog_1_method_4_code 76 = .ok (.getfield 19, 3) := by decide +kernel
theorem dOffice_land_79 : decode prog_1_method_4_code 79 = .ok (.getfield 89, 3) := by decide +kernel
theorem dOffice_land_82 : decode prog_1_method_4_code 82 = .ok (.iadd, 1) := by decide +kernel
theorem dOffice_land_83 : decode prog_1_method_4_code 83 = .ok (.aload_n 0, 1) := by decide +kernel
theorem dOffice_land_84 : decode prog_1_method_4_code 84 = .ok (.getfield 19, 3) := by decide +kernel
theorem dOffice_land_87 : decode prog_1_method_4_code 87 = .ok (.getfield 92, 3) := by decide +kernel
theorem dOffice_land_90 : decode prog_1_method_4_code 90 = .ok (.iadd, 1) := by decide +kernel
theorem dOffice_land_91 : decode prog_1_method_4_code 91 = .ok (.ireturn, 1) := by decide +kernel
theorem dOffice_reform_0 : decode prog_1_method_5_code 0 = .ok (.iload_n 1, 1) := by decide +kernel
theorem dOffice_reform_1 : decode prog_1_method_5_code 1 = .ok (.ifCond .lt 21, 3) := by decide +kernel
theorem dOffice_reform_4 : decode prog_1_method_5_code 4 = .ok (.iload_n 1, 1) := by decide +kernel
theorem dOffice_reform_5 : decode prog_1_method_5_code 5 = .ok (.iconst 4, 1) := by decide +kernel
theorem dOffice_reform_6 : decode prog_1_method_5_code 6 = .ok (.if_icmp .ge 16, 3) := by decide +kernel
theorem dOffice_reform_9 : decode prog_1_method_5_code 9 = .ok (.aload_n 0, 1) := by decide +kernel
theorem dOffice_reform_10 : decode prog_1_method_5_code 10 = .ok (.getfield 12, 3) := by decide +kernel
theorem dOffice_reform_13 : decode prog_1_method_5_code 13 = .ok (.getfield 65, 3) := by decide +kernel
theorem dOffice_reform_16 : decode prog_1_method_5_code 16 = .ok (.sipush 700, 3) := by decide +kernel
theorem dOffice_reform_19 : decode prog_1_method_5_code 19 = .ok (.if_icmp .le 6, 3) := by decide +kernel
theorem dOffice_reform_22 : decode prog_1_method_5_code 22 = .ok (.bipush (-2), 2) := by decide +kernel
theorem dOffice_reform_24 : decode prog_1_method_5_code 24 = .ok (.ireturn, 1) := by decide +kernel
theorem dOffice_reform_25 : decode prog_1_method_5_code 25 = .ok (.aload_n 0, 1) := by decide +kernel
theorem dOffice_reform_26 : decode prog_1_method_5_code 26 = .ok (.getfield 33, 3) := by decide +kernel
theorem dOffice_reform_29 : decode prog_1_method_5_code 29 = .ok (.aload_n 0, 1) := by decide +kernel
theorem dOffice_reform_30 : decode prog_1_method_5_code 30 = .ok (.getfield 12, 3) := by decide +kernel
theorem dOffice_reform_33 : decode prog_1_method_5_code 33 = .ok (.invokevirtual 95, 3) := by decide +kernel
theorem dOffice_reform_36 : decode prog_1_method_5_code 36 = .ok (.istore_n 2, 1) := by decide +kernel
theorem dOffice_reform_37 : decode prog_1_method_5_code 37 = .ok (.aload_n 0, 1) := by decide +kernel
theorem dOffice_reform_38 : decode prog_1_method_5_code 38 = .ok (.getfield 12, 3) := by decide +kernel
theorem dOffice_reform_41 : decode prog_1_method_5_code 41 = .ok (.iconst 0, 1) := by decide +kernel
theorem dOffice_reform_42 : decode prog_1_method_5_code 42 = .ok (.putfield 65, 3) := by decide +kernel
theorem dOffice_reform_45 : decode prog_1_method_5_code 45 = .ok (.iload_n 2, 1) := by decide +kernel
theorem dOffice_reform_46 : decode prog_1_method_5_code 46 = .ok (.ifCond .ne 5, 3) := by decide +kernel
theorem dOffice_reform_49 : decode prog_1_method_5_code 49 = .ok (.iconst (-1), 1) := by decide +kernel
theorem dOffice_reform_50 : decode prog_1_method_5_code 50 = .ok (.ireturn, 1) := by decide +kernel
theorem dOffice_reform_51 : decode prog_1_method_5_code 51 = .ok (.aload_n 0, 1) := by decide +kernel
theorem dOffice_reform_52 : decode prog_1_method_5_code 52 = .ok (.getfield 33, 3) := by decide +kernel
theorem dOffice_reform_55 : decode prog_1_method_5_code 55 = .ok (.getfield 96, 3) := by decide +kernel
theorem dOffice_reform_58 : decode prog_1_method_5_code 58 = .ok (.istore_n 3, 1) := by decide +kernel
theorem dOffice_reform_59 : decode prog_1_method_5_code 59 = .ok (.aload_n 0, 1) := by decide +kernel
theorem dOffice_reform_60 : decode prog_1_method_5_code 60 = .ok (.getfield 28, 3) := by decide +kernel
theorem dOffice_reform_63 : decode prog_1_method_5_code 63 = .ok (.iload_n 1, 1) := by decide +kernel
theorem dOffice_reform_64 : decode prog_1_method_5_code 64 = .ok (.aaload, 1) := by decide +kernel
theorem dOffice_reform_65 : decode prog_1_method_5_code 65 = .ok (.astore 4, 2) := by decide +kernel
theorem dOffice_reform_67 : decode prog_1_method_5_code 67 = .ok (.aload_n 0, 1) := by decide +kernel
theorem dOffice_reform_68 : decode prog_1_method_5_code 68 = .ok (.getfield 28, 3) := by decide +kernel
theorem dOffice_reform_71 : decode prog_1_method_5_code 71 = .ok (.iload_n 1, 1) := by decide +kernel
theorem dOffice_reform_72 : decode prog_1_method_5_code 72 = .ok (.aload_n 0, 1) := by decide +kernel
theorem dOffice_reform_73 : decode prog_1_method_5_code 73 = .ok (.getfield 33, 3) := by decide +kernel
theorem dOffice_reform_76 : decode prog_1_method_5_code 76 = .ok (.aastore, 1) := by decide +kernel
theorem dOffice_reform_77 : decode prog_1_method_5_code 77 = .ok (.aload_n 0, 1) := by decide +kernel
theorem dOffice_reform_78 : decode prog_1_method_5_code 78 = .ok (.aload 4, 2) := by decide +kernel
theorem dOffice_reform_80 : decode prog_1_method_5_code 80 = .ok (.putfield 33, 3) := by decide +kernel
theorem dOffice_reform_83 : decode prog_1_method_5_code 83 = .ok (.iload_n 3, 1) := by decide +kernel
theorem dOffice_reform_84 : decode prog_1_method_5_code 84 = .ok (.ireturn, 1) := by decide +kernel
theorem dOffice_fault_0 : decode prog_1_method_6_code 0 = .ok (.iload_n 1, 1) := by decide +kernel
theorem dOffice_fault_1 : decode prog_1_method_6_code 1 = .ok (.ifCond .ne 11, 3) := by decide +kernel
theorem dOffice_fault_4 : decode prog_1_method_6_code 4 = .ok (.aload_n 0, 1) := by decide +kernel
theorem dOffice_fault_5 : decode prog_1_method_6_code 5 = .ok (.getfield 12, 3) := by decide +kernel
theorem dOffice_fault_8 : decode prog_1_method_6_code 8 = .ok (.getfield 99, 3) := by decide +kernel
theorem dOffice_fault_11 : decode prog_1_method_6_code 11 = .ok (.ireturn, 1) := by decide +kernel
theorem dOffice_fault_12 : decode prog_1_method_6_code 12 = .ok (.iload_n 1, 1) := by decide +kernel
theorem dOffice_fault_13 : decode prog_1_method_6_code 13 = .ok (.iconst 1, 1) := by decide +kernel
theorem dOffice_fault_14 : decode prog_1_method_6_code 14 = .ok (.if_icmp .ne 13, 3) := by decide +kernel
theorem dOffice_fault_17 : decode prog_1_method_6_code 17 = .ok (.aload_n 0, 1) := by decide +kernel
theorem dOffice_fault_18 : decode prog_1_method_6_code 18 = .ok (.getfield 12, 3) := by decide +kernel
theorem dOffice_fault_21 : decode prog_1_method_6_code 21 = .ok (.getfield 102, 3) := by decide +kernel
theorem dOffice_fault_24 : decode prog_1_method_6_code 24 = .ok (.goto 4, 3) := by decide +kernel
theorem dOffice_fault_27 : decode prog_1_method_6_code 27 = .ok (.iconst (-1), 1) := by decide +kernel
theorem dOffice_fault_28 : decode prog_1_method_6_code 28 = .ok (.ireturn, 1) := by decide +kernel
theorem dOffice_days_0 : decode prog_1_method_7_code 0 = .ok (.aload_n 0, 1) := by decide +kernel
theorem dOffice_days_1 : decode prog_1_method_7_code 1 = .ok (.getfield 19, 3) := by decide +kernel
theorem dOffice_days_4 : decode prog_1_method_7_code 4 = .ok (.iload_n 1, 1) := by decide +kernel
theorem dOffice_days_5 : decode prog_1_method_7_code 5 = .ok (.iload_n 2, 1) := by decide +kernel
theorem dOffice_days_6 : decode prog_1_method_7_code 6 = .ok (.invokevirtual 105, 3) := by decide +kernel
theorem dOffice_days_9 : decode prog_1_method_7_code 9 = .ok (.ireturn, 1) := by decide +kernel
theorem dOffice_merchant_0 : decode prog_1_method_8_code 0 = .ok (.iload_n 1, 1) := by decide +kernel
theorem dOffice_merchant_1 : decode prog_1_method_8_code 1 = .ok (.ifCond .lt 22, 3) := by decide +kernel
theorem dOffice_merchant_4 : decode prog_1_method_8_code 4 = .ok (.iload_n 1, 1) := by decide +kernel
theorem dOffice_merchant_5 : decode prog_1_method_8_code 5 = .ok (.sipush 30000, 3) := by decide +kernel
theorem dOffice_merchant_8 : decode prog_1_method_8_code 8 = .ok (.if_icmp .gt 15, 3) := by decide +kernel
theorem dOffice_merchant_11 : decode prog_1_method_8_code 11 = .ok (.aload_n 0, 1) := by decide +kernel
theorem dOffice_merchant_12 : decode prog_1_method_8_code 12 = .ok (.getfield 40, 3) := by decide +kernel
theorem dOffice_merchant_15 : decode prog_1_method_8_code 15 = .ok (.getfield 109, 3) := by decide +kernel
theorem dOffice_merchant_18 : decode prog_1_method_8_code 18 = .ok (.bipush 6, 2) := by decide +kernel
theorem dOffice_merchant_20 : decode prog_1_method_8_code 20 = .ok (.if_icmp .lt 5, 3) := by decide +kernel
theorem dOffice_merchant_23 : decode prog_1_method_8_code 23 = .ok (.iconst (-1), 1) := by decide +kernel
theorem dOffice_merchant_24 : decode prog_1_method_8_code 24 = .ok (.ireturn, 1) := by decide +kernel
theorem dOffice_merchant_25 : decode prog_1_method_8_code 25 = .ok (.aload_n 0, 1) := by decide +kernel
theorem dOffice_merchant_26 : decode prog_1_method_8_code 26 = .ok (.getfield 58, 3) := by decide +kernel
theorem dOffice_merchant_29 : decode prog_1_method_8_code 29 = .ok (.iconst 0, 1) := by decide +kernel
theorem dOffice_merchant_30 : decode prog_1_method_8_code 30 = .ok (.putfield 79, 3) := by decide +kernel
theorem dOffice_merchant_33 : decode prog_1_method_8_code 33 = .ok (.aload_n 0, 1) := by decide +kernel
theorem dOffice_merchant_34 : decode prog_1_method_8_code 34 = .ok (.getfield 40, 3) := by decide +kernel
theorem dOffice_merchant_37 : decode prog_1_method_8_code 37 = .ok (.getfield 112, 3) := by decide +kernel
theorem dOffice_merchant_40 : decode prog_1_method_8_code 40 = .ok (.aload_n 0, 1) := by decide +kernel
theorem dOffice_merchant_41 : decode prog_1_method_8_code 41 = .ok (.getfield 40, 3) := by decide +kernel
theorem dOffice_merchant_44 : decode prog_1_method_8_code 44 = .ok (.getfield 109, 3) := by decide +kernel
theorem dOffice_merchant_47 : decode prog_1_method_8_code 47 = .ok (.iload_n 1, 1) := by decide +kernel
theorem dOffice_merchant_48 : decode prog_1_method_8_code 48 = .ok (.iastore, 1) := by decide +kernel
theorem dOffice_merchant_49 : decode prog_1_method_8_code 49 = .ok (.aload_n 0, 1) := by decide +kernel
theorem dOffice_merchant_50 : decode prog_1_method_8_code 50 = .ok (.getfield 40, 3) := by decide +kernel
theorem dOffice_merchant_53 : decode prog_1_method_8_code 53 = .ok (.dup, 1) := by decide +kernel
theorem dOffice_merchant_54 : decode prog_1_method_8_code 54 = .ok (.getfield 109, 3) := by decide +kernel
theorem dOffice_merchant_57 : decode prog_1_method_8_code 57 = .ok (.iconst 1, 1) := by decide +kernel
theorem dOffice_merchant_58 : decode prog_1_method_8_code 58 = .ok (.iadd, 1) := by decide +kernel
theorem dOffice_merchant_59 : decode prog_1_method_8_code 59 = .ok (.putfield 109, 3) := by decide +kernel
theorem dOffice_merchant_62 : decode prog_1_method_8_code 62 = .ok (.aload_n 0, 1) := by decide +kernel
theorem dOffice_merchant_63 : decode prog_1_method_8_code 63 = .ok (.getfield 40, 3) := by decide +kernel
theorem dOffice_merchant_66 : decode prog_1_method_8_code 66 = .ok (.getfield 109, 3) := by decide +kernel
theorem dOffice_merchant_69 : decode prog_1_method_8_code 69 = .ok (.iconst 1, 1) := by decide +kernel
theorem dOffice_merchant_70 : decode prog_1_method_8_code 70 = .ok (.isub, 1) := by decide +kernel
theorem dOffice_merchant_71 : decode prog_1_method_8_code 71 = .ok (.ireturn, 1) := by decide +kernel
theorem dOffice_costs_0 : decode prog_1_method_9_code 0 = .ok (.iload_n 1, 1) := by decide +kernel
theorem dOffice_costs_1 : decode prog_1_method_9_code 1 = .ok (.iconst 0, 1) := by decide +kernel
theorem dOffice_costs_2 : decode prog_1_method_9_code 2 = .ok (.bipush 99, 2) := by decide +kernel
theorem dOffice_costs_4 : decode prog_1_method_9_code 4 = .ok (.invokestatic 116, 3) := by decide +kernel
theorem dOffice_costs_7 : decode prog_1_method_9_code 7 = .ok (.ifCond .eq 27, 3) := by decide +kernel
theorem dOffice_costs_10 : decode prog_1_method_9_code 10 = .ok (.iload_n 2, 1) := by decide +kernel
theorem dOffice_costs_11 : decode prog_1_method_9_code 11 = .ok (.iconst 1, 1) := by decide +kernel
theorem dOffice_costs_12 : decode prog_1_method_9_code 12 = .ok (.bipush 50, 2) := by decide +kernel
theorem dOffice_costs_14 : decode prog_1_method_9_code 14 = .ok (.invokestatic 116, 3) := by decide +kernel
theorem dOffice_costs_17 : decode prog_1_method_9_code 17 = .ok (.ifCond .eq 17, 3) := by decide +kernel
theorem dOffice_costs_20 : decode prog_1_method_9_code 20 = .ok (.iload_n 3, 1) := by decide +kernel
theorem dOffice_costs_21 : decode prog_1_method_9_code 21 = .ok (.iconst 0, 1) := by decide +kernel
theorem dOffice_costs_22 : decode prog_1_method_9_code 22 = .ok (.bipush 99, 2) := by decide +kernel
theorem dOffice_costs_24 : decode prog_1_method_9_code 24 = .ok (.invokestatic 116, 3) := by decide +kernel
theorem dOffice_costs_27 : decode prog_1_method_9_code 27 = .ok (.ifCond .eq 7, 3) := by decide +kernel
theorem dOffice_costs_30 : decode prog_1_method_9_code 30 = .ok (.iconst 1, 1) := by decide +kernel
theorem dOffice_costs_31 : decode prog_1_method_9_code 31 = .ok (.goto 4, 3) := by decide +kernel
theorem dOffice_costs_34 : decode prog_1_method_9_code 34 = .ok (.iconst 0, 1) := by decide +kernel
theorem dOffice_costs_35 : decode prog_1_method_9_code 35 = .ok (.istore 6, 2) := by decide +kernel
theorem dOffice_costs_37 : decode prog_1_method_9_code 37 = .ok (.iload 6, 2) := by decide +kernel
theorem dOffice_costs_39 : decode prog_1_method_9_code 39 = .ok (.ifCond .eq 27, 3) := by decide +kernel
theorem dOffice_costs_42 : decode prog_1_method_9_code 42 = .ok (.iload 4, 2) := by decide +kernel
theorem dOffice_costs_44 : decode prog_1_method_9_code 44 = .ok (.iconst 0, 1) := by decide +kernel
theorem dOffice_costs_45 : decode prog_1_method_9_code 45 = .ok (.sipush 9999, 3) := by decide +kernel
theorem dOffice_costs_48 : decode prog_1_method_9_code 48 = .ok (.invokestatic 116, 3) := by decide +kernel
theorem dOffice_costs_51 : decode prog_1_method_9_code 51 = .ok (.ifCond .eq 15, 3) := by decide +kernel
theorem dOffice_costs_54 : decode prog_1_method_9_code 54 = .ok (.iload 5, 2) := by decide +kernel
theorem dOffice_costs_56 : decode prog_1_method_9_code 56 = .ok (.iconst 0, 1) := by decide +kernel
theorem dOffice_costs_57 : decode prog_1_method_9_code 57 = .ok (.sipush 999, 3) := by decide +kernel
theorem dOffice_costs_60 : decode prog_1_method_9_code 60 = .ok (.invokestatic 116, 3) := by decide +kernel
theorem dOffice_costs_63 : decode prog_1_method_9_code 63 = .ok (.ifCond .ne 5, 3) := by decide +kernel
theorem dOffice_costs_66 : decode prog_1_method_9_code 66 = .ok (.iconst 0, 1) := by decide +kernel
theorem dOffice_costs_67 : decode prog_1_method_9_code 67 = .ok (.ireturn, 1) := by decide +kernel
theorem dOffice_costs_68 : decode prog_1_method_9_code 68 = .ok (.aload_n 0, 1) := by decide +kernel
theorem dOffice_costs_69 : decode prog_1_method_9_code 69 = .ok (.getfield 40, 3) := by decide +kernel
theorem dOffice_costs_72 : decode prog_1_method_9_code 72 = .ok (.iload_n 1, 1) := by decide +kernel
theorem dOffice_costs_73 : decode prog_1_method_9_code 73 = .ok (.putfield 120, 3) := by decide +kernel
theorem dOffice_costs_76 : decode prog_1_method_9_code 76 = .ok (.aload_n 0, 1) := by decide +kernel
theorem dOffice_costs_77 : decode prog_1_method_9_code 77 = .ok (.getfield 40, 3) := by decide +kernel
theorem dOffice_costs_80 : decode prog_1_method_9_code 80 = .ok (.iload_n 2, 1) := by decide +kernel
theorem dOffice_costs_81 : decode prog_1_method_9_code 81 = .ok (.putfield 123, 3) := by decide +kernel
theorem dOffice_costs_84 : decode prog_1_method_9_code 84 = .ok (.aload_n 0, 1) := by decide +kernel
theorem dOffice_costs_85 : decode prog_1_method_9_code 85 = .ok (.getfield 40, 3) := by decide +kernel
theorem dOffice_costs_88 : decode prog_1_method_9_code 88 = .ok (.iload_n 3, 1) := by decide +kernel
theorem dOffice_costs_89 : decode prog_1_method_9_code 89 = .ok (.putfield 126, 3) := by decide +kernel
theorem dOffice_costs_92 : decode prog_1_method_9_code 92 = .ok (.aload_n 0, 1) := by decide +kernel
theorem dOffice_costs_93 : decode prog_1_method_9_code 93 = .ok (.getfield 40, 3) := by decide +kernel
theorem dOffice_costs_96 : decode prog_1_method_9_code 96 = .ok (.iload 4, 2) := by decide +kernel
theorem dOffice_costs_98 : decode prog_1_method_9_code 98 = .ok (.putfield 129, 3) := by decide +kernel
theorem dOffice_costs_101 : decode prog_1_method_9_code 101 = .ok (.aload_n 0, 1) := by decide +kernel
theorem dOffice_costs_102 : decode prog_1_method_9_code 102 = .ok (.getfield 40, 3) := by decide +kernel
theorem dOffice_costs_105 : decode prog_1_method_9_code 105 = .ok (.iload 5, 2) := by decide +kernel
theorem dOffice_costs_107 : decode prog_1_method_9_code 107 = .ok (.putfield 132, 3) := by decide +kernel
theorem dOffice_costs_110 : decode prog_1_method_9_code 110 = .ok (.aload_n 0, 1) := by decide +kernel
theorem dOffice_costs_111 : decode prog_1_method_9_code 111 = .ok (.getfield 58, 3) := by decide +kernel
theorem dOffice_costs_114 : decode prog_1_method_9_code 114 = .ok (.iconst 0, 1) := by decide +kernel
theorem dOffice_costs_115 : decode prog_1_method_9_code 115 = .ok (.putfield 79, 3) := by decide +kernel
theorem dOffice_costs_118 : decode prog_1_method_9_code 118 = .ok (.iconst 1, 1) := by decide +kernel
theorem dOffice_costs_119 : decode prog_1_method_9_code 119 = .ok (.ireturn, 1) := by decide +kernel
theorem dOffice_weather_0 : decode prog_1_method_10_code 0 = .ok (.iload_n 1, 1) := by decide +kernel
theorem dOffice_weather_1 : decode prog_1_method_10_code 1 = .ok (.ifCond .lt 25, 3) := by decide +kernel
theorem dOffice_weather_4 : decode prog_1_method_10_code 4 = .ok (.iload_n 1, 1) := by decide +kernel
theorem dOffice_weather_5 : decode prog_1_method_10_code 5 = .ok (.aload_n 0, 1) := by decide +kernel
theorem dOffice_weather_6 : decode prog_1_method_10_code 6 = .ok (.getfield 19, 3) := by decide +kernel
theorem dOffice_weather_9 : decode prog_1_method_10_code 9 = .ok (.getfield 89, 3) := by decide +kernel
theorem dOffice_weather_12 : decode prog_1_method_10_code 12 = .ok (.if_icmp .ge 14, 3) := by decide +kernel
theorem dOffice_weather_15 : decode prog_1_method_10_code 15 = .ok (.iload_n 3, 1) := by decide +kernel
theorem dOffice_weather_16 : decode prog_1_method_10_code 16 = .ok (.iconst 0, 1) := by decide +kernel
theorem dOffice_weather_17 : decode prog_1_method_10_code 17 = .ok (.sipush 300, 3) := by decide +kernel
theorem dOffice_weather_20 : decode prog_1_method_10_code 20 = .ok (.invokestatic 116, 3) := by decide +kernel
theorem dOffice_weather_23 : decode prog_1_method_10_code 23 = .ok (.ifCond .ne 5, 3) := by decide +kernel
theorem dOffice_weather_26 : decode prog_1_method_10_code 26 = .ok (.iconst (-1), 1) := by decide +kernel
theorem dOffice_weather_27 : decode prog_1_method_10_code 27 = .ok (.ireturn, 1) := by decide +kernel
theorem dOffice_weather_28 : decode prog_1_method_10_code 28 = .ok (.aload_n 0, 1) := by decide +kernel
theorem dOffice_weather_29 : decode prog_1_method_10_code 29 = .ok (.iconst 0, 1) := by decide +kernel
theorem dOffice_weather_30 : decode prog_1_method_10_code 30 = .ok (.iload_n 1, 1) := by decide +kernel
theorem dOffice_weather_31 : decode prog_1_method_10_code 31 = .ok (.iload_n 2, 1) := by decide +kernel
theorem dOffice_weather_32 : decode prog_1_method_10_code 32 = .ok (.iload_n 3, 1) := by decide +kernel
theorem dOffice_weather_33 : decode prog_1_method_10_code 33 = .ok (.invokevirtual 135, 3) := by decide +kernel
theorem dOffice_weather_36 : decode prog_1_method_10_code 36 = .ok (.ireturn, 1) := by decide +kernel
theorem dOffice_forged_0 : decode prog_1_method_11_code 0 = .ok (.iload_n 1, 1) := by decide +kernel
theorem dOffice_forged_1 : decode prog_1_method_11_code 1 = .ok (.ifCond .lt 10, 3) := by decide +kernel
theorem dOffice_forged_4 : decode prog_1_method_11_code 4 = .ok (.iload_n 1, 1) := by decide +kernel
theorem dOffice_forged_5 : decode prog_1_method_11_code 5 = .ok (.sipush 2000, 3) := by decide +kernel
theorem dOffice_forged_8 : decode prog_1_method_11_code 8 = .ok (.if_icmp .lt 5, 3) := by decide +kernel
theorem dOffice_forged_11 : decode prog_1_method_11_code 11 = .ok (.iconst (-1), 1) := by decide +kernel
theorem dOffice_forged_12 : decode prog_1_method_11_code 12 = .ok (.ireturn, 1) := by decide +kernel
theorem dOffice_forged_13 : decode prog_1_method_11_code 13 = .ok (.aload_n 0, 1) := by decide +kernel
theorem dOffice_forged_14 : decode prog_1_method_11_code 14 = .ok (.iconst 1, 1) := by decide +kernel
theorem dOffice_forged_15 : decode prog_1_method_11_code 15 = .ok (.iload_n 1, 1) := by decide +kernel
theorem dOffice_forged_16 : decode prog_1_method_11_code 16 = .ok (.iload_n 2, 1) := by decide +kernel
theorem dOffice_forged_17 : decode prog_1_method_11_code 17 = .ok (.iconst 0, 1) := by decide +kernel
theorem dOffice_forged_18 : decode prog_1_method_11_code 18 = .ok (.invokevirtual 135, 3) := by decide +kernel
theorem dOffice_forged_21 : decode prog_1_method_11_code 21 = .ok (.ireturn, 1) := by decide +kernel
theorem dOffice_dead_0 : decode prog_1_method_12_code 0 = .ok (.iload_n 1, 1) := by decide +kernel
theorem dOffice_dead_1 : decode prog_1_method_12_code 1 = .ok (.ifCond .lt 19, 3) := by decide +kernel
theorem dOffice_dead_4 : decode prog_1_method_12_code 4 = .ok (.iload_n 1, 1) := by decide +kernel
theorem dOffice_dead_5 : decode prog_1_method_12_code 5 = .ok (.aload_n 0, 1) := by decide +kernel
theorem dOffice_dead_6 : decode prog_1_method_12_code 6 = .ok (.getfield 40, 3) := by decide +kernel
theorem dOffice_dead_9 : decode prog_1_method_12_code 9 = .ok (.getfield 109, 3) := by decide +kernel
theorem dOffice_dead_12 : decode prog_1_method_12_code 12 = .ok (.if_icmp .ge 8, 3) := by decide +kernel
theorem dOffice_dead_15 : decode prog_1_method_12_code 15 = .ok (.iload_n 1, 1) := by decide +kernel
theorem dOffice_dead_16 : decode prog_1_method_12_code 16 = .ok (.iload_n 3, 1) := by decide +kernel
theorem dOffice_dead_17 : decode prog_1_method_12_code 17 = .ok (.if_icmp .ne 5, 3) := by decide +kernel
theorem dOffice_dead_20 : decode prog_1_method_12_code 20 = .ok (.iconst (-1), 1) := by decide +kernel
theorem dOffice_dead_21 : decode prog_1_method_12_code 21 = .ok (.ireturn, 1) := by decide +kernel
theorem dOffice_dead_22 : decode prog_1_method_12_code 22 = .ok (.iload_n 3, 1) := by decide +kernel
theorem dOffice_dead_23 : decode prog_1_method_12_code 23 = .ok (.iconst (-1), 1) := by decide +kernel
theorem dOffice_dead_24 : decode prog_1_method_12_code 24 = .ok (.if_icmp .eq 20, 3) := by decide +kernel
theorem dOffice_dead_27 : decode prog_1_method_12_code 27 = .ok (.iload_n 3, 1) := by decide +kernel
theorem dOffice_dead_28 : decode prog_1_method_12_code 28 = .ok (.ifCond .lt 14, 3) := by decide +kernel
theorem dOffice_dead_31 : decode prog_1_method_12_code 31 = .ok (.iload_n 3, 1) := by decide +kernel
theorem dOffice_dead_32 : decode prog_1_method_12_code 32 = .ok (.aload_n 0, 1) := by decide +kernel
theorem dOffice_dead_33 : decode prog_1_method_12_code 33 = .ok (.getfield 40, 3) := by decide +kernel
theorem dOffice_dead_36 : decode prog_1_method_12_code 36 = .ok (.getfield 109, 3) := by decide +kernel
theorem dOffice_dead_39 : decode prog_1_method_12_code 39 = .ok (.if_icmp .lt 5, 3) := by decide +kernel
theorem dOffice_dead_42 : decode prog_1_method_12_code 42 = .ok (.iconst (-1), 1) := by decide +kernel
theorem dOffice_dead_43 : decode prog_1_method_12_code 43 = .ok (.ireturn, 1) := by decide +kernel
theorem dOffice_dead_44 : decode prog_1_method_12_code 44 = .ok (.aload_n 0, 1) := by decide +kernel
theorem dOffice_dead_45 : decode prog_1_method_12_code 45 = .ok (.iconst 2, 1) := by decide +kernel
theorem dOffice_dead_46 : decode prog_1_method_12_code 46 = .ok (.iload_n 1, 1) := by decide +kernel
theorem dOffice_dead_47 : decode prog_1_method_12_code 47 = .ok (.iload_n 2, 1) := by decide +kernel
theorem dOffice_dead_48 : decode prog_1_method_12_code 48 = .ok (.iload_n 3, 1) := by decide +kernel
theorem dOffice_dead_49 : decode prog_1_method_12_code 49 = .ok (.invokevirtual 135, 3) := by decide +kernel
theorem dOffice_dead_52 : decode prog_1_method_12_code 52 = .ok (.ireturn, 1) := by decide +kernel
theorem dOffice_tellFact_0 : decode prog_1_method_13_code 0 = .ok (.iload_n 3, 1) := by decide +kernel
theorem dOffice_tellFact_1 : decode prog_1_method_13_code 1 = .ok (.ifCond .lt 10, 3) := by decide +kernel
theorem dOffice_tellFact_4 : decode prog_1_method_13_code 4 = .ok (.iload_n 3, 1) := by decide +kernel
theorem dOffice_tellFact_5 : decode prog_1_method_13_code 5 = .ok (.sipush 240, 3) := by decide +kernel
theorem dOffice_tellFact_8 : decode prog_1_method_13_code 8 = .ok (.if_icmp .lt 5, 3) := by decide +kernel
theorem dOffice_tellFact_11 : decode prog_1_method_13_code 11 = .ok (.iconst (-1), 1) := by decide +kernel
theorem dOffice_tellFact_12 : decode prog_1_method_13_code 12 = .ok (.ireturn, 1) := by decide +kernel
theorem dOffice_tellFact_13 : decode prog_1_method_13_code 13 = .ok (.aload_n 0, 1) := by decide +kernel
theorem dOffice_tellFact_14 : decode prog_1_method_13_code 14 = .ok (.getfield 47, 3) := by decide +kernel
theorem dOffice_tellFact_17 : decode prog_1_method_13_code 17 = .ok (.iload_n 1, 1) := by decide +kernel
theorem dOffice_tellFact_18 : decode prog_1_method_13_code 18 = .ok (.iload_n 2, 1) := by decide +kernel
theorem dOffice_tellFact_19 : decode prog_1_method_13_code 19 = .ok (.iload_n 3, 1) := by decide +kernel
theorem dOffice_tellFact_20 : decode prog_1_method_13_code 20 = .ok (.iload 4, 2) := by decide +kernel
theorem dOffice_tellFact_22 : decode prog_1_method_13_code 22 = .ok (.aload_n 0, 1) := by decide +kernel
theorem dOffice_tellFact_23 : decode prog_1_method_13_code 23 = .ok (.getfield 51, 3) := by decide +kernel
theorem dOffice_tellFact_26 : decode prog_1_method_13_code 26 = .ok (.invokevirtual 139, 3) := by decide +kernel
theorem dOffice_tellFact_29 : decode prog_1_method_13_code 29 = .ok (.ireturn, 1) := by decide +kernel
theorem dOffice_untell_0 : decode prog_1_method_14_code 0 = .ok (.iload_n 1, 1) := by decide +kernel
theorem dOffice_untell_1 : decode prog_1_method_14_code 1 = .ok (.ifCond .lt 27, 3) := by decide +kernel
theorem dOffice_untell_4 : decode prog_1_method_14_code 4 = .ok (.iload_n 1, 1) := by decide +kernel
theorem dOffice_untell_5 : decode prog_1_method_14_code 5 = .ok (.aload_n 0, 1) := by decide +kernel
theorem dOffice_untell_6 : decode prog_1_method_14_code 6 = .ok (.getfield 47, 3) := by decide +kernel
theorem dOffice_untell_9 : decode prog_1_method_14_code 9 = .ok (.getfield 76, 3) := by decide +kernel
theorem dOffice_untell_12 : decode prog_1_method_14_code 12 = .ok (.if_icmp .ge 16, 3) := by decide +kernel
theorem dOffice_untell_15 : decode prog_1_method_14_code 15 = .ok (.aload_n 0, 1) := by decide +kernel
theorem dOffice_untell_16 : decode prog_1_method_14_code 16 = .ok (.getfield 47, 3) := by decide +kernel
theorem dOffice_untell_19 : decode prog_1_method_14_code 19 = .ok (.getfield 143, 3) := by decide +kernel
theorem dOffice_untell_22 : decode prog_1_method_14_code 22 = .ok (.iload_n 1, 1) := by decide +kernel
theorem dOffice_untell_23 : decode prog_1_method_14_code 23 = .ok (.iaload, 1) := by decide +kernel
theorem dOffice_untell_24 : decode prog_1_method_14_code 24 = .ok (.iconst (-1), 1) := by decide +kernel
theorem dOffice_untell_25 : decode prog_1_method_14_code 25 = .ok (.if_icmp .eq 5, 3) := by decide +kernel
theorem dOffice_untell_28 : decode prog_1_method_14_code 28 = .ok (.iconst 0, 1) := by decide +kernel
theorem dOffice_untell_29 : decode prog_1_method_14_code 29 = .ok (.ireturn, 1) := by decide +kernel
theorem dOffice_untell_30 : decode prog_1_method_14_code 30 = .ok (.aload_n 0, 1) := by decide +kernel
theorem dOffice_untell_31 : decode prog_1_method_14_code 31 = .ok (.getfield 47, 3) := by decide +kernel
theorem dOffice_untell_34 : decode prog_1_method_14_code 34 = .ok (.getfield 143, 3) := by decide +kernel
theorem dOffice_untell_37 : decode prog_1_method_14_code 37 = .ok (.iload_n 1, 1) := by decide +kernel
theorem dOffice_untell_38 : decode prog_1_method_14_code 38 = .ok (.aload_n 0, 1) := by decide +kernel
theorem dOffice_untell_39 : decode prog_1_method_14_code 39 = .ok (.getfield 51, 3) := by decide +kernel
theorem dOffice_untell_42 : decode prog_1_method_14_code 42 = .ok (.iastore, 1) := by decide +kernel
theorem dOffice_untell_43 : decode prog_1_method_14_code 43 = .ok (.iconst 1, 1) := by decide +kernel
theorem dOffice_untell_44 : decode prog_1_method_14_code 44 = .ok (.ireturn, 1) := by decide +kernel
theorem dOffice_later_0 : decode prog_1_method_15_code 0 = .ok (.iload_n 1, 1) := by decide +kernel
theorem dOffice_later_1 : decode prog_1_method_15_code 1 = .ok (.ifCond .lt 21, 3) := by decide +kernel
theorem dOffice_later_4 : decode prog_1_method_15_code 4 = .ok (.iload_n 1, 1) := by decide +kernel
theorem dOffice_later_5 : decode prog_1_method_15_code 5 = .ok (.sipush 1000, 3) := by decide +kernel
theorem dOffice_later_8 : decode prog_1_method_15_code 8 = .ok (.if_icmp .gt 14, 3) := by decide +kernel
theorem dOffice_later_11 : decode prog_1_method_15_code 11 = .ok (.aload_n 0, 1) := by decide +kernel
theorem dOffice_later_12 : decode prog_1_method_15_code 12 = .ok (.getfield 51, 3) := by decide +kernel
theorem dOffice_later_15 : decode prog_1_method_15_code 15 = .ok (.iload_n 1, 1) := by decide +kernel
theorem dOffice_later_16 : decode prog_1_method_15_code 16 = .ok (.iadd, 1) := by decide +kernel
theorem dOffice_later_17 : decode prog_1_method_15_code 17 = .ok (.ldc 146, 2) := by decide +kernel
theorem dOffice_later_19 : decode prog_1_method_15_code 19 = .ok (.if_icmp .le 5, 3) := by decide +kernel
theorem dOffice_later_22 : decode prog_1_method_15_code 22 = .ok (.iconst (-1), 1) := by decide +kernel
theorem dOffice_later_23 : decode prog_1_method_15_code 23 = .ok (.ireturn, 1) := by decide +kernel
theorem dOffice_later_24 : decode prog_1_method_15_code 24 = .ok (.aload_n 0, 1) := by decide +kernel
theorem dOffice_later_25 : decode prog_1_method_15_code 25 = .ok (.dup, 1) := by decide +kernel
theorem dOffice_later_26 : decode prog_1_method_15_code 26 = .ok (.getfield 51, 3) := by decide +kernel
theorem dOffice_later_29 : decode prog_1_method_15_code 29 = .ok (.iload_n 1, 1) := by decide +kernel
theorem dOffice_later_30 : decode prog_1_method_15_code 30 = .ok (.iadd, 1) := by decide +kernel
theorem dOffice_later_31 : decode prog_1_method_15_code 31 = .ok (.putfield 51, 3) := by decide +kernel
theorem dOffice_later_34 : decode prog_1_method_15_code 34 = .ok (.aload_n 0, 1) := by decide +kernel
theorem dOffice_later_35 : decode prog_1_method_15_code 35 = .ok (.getfield 51, 3) := by decide +kernel
theorem dOffice_later_38 : decode prog_1_method_15_code 38 = .ok (.ireturn, 1) := by decide +kernel
theorem dOffice_run_0 : decode prog_1_method_16_code 0 = .ok (.aload_n 0, 1) := by decide +kernel
theorem dOffice_run_1 : decode prog_1_method_16_code 1 = .ok (.iload_n 1, 1) := by decide +kernel
theorem dOffice_run_2 : decode prog_1_method_16_code 2 = .ok (.invokevirtual 147, 3) := by decide +kernel
theorem dOffice_run_5 : decode prog_1_method_16_code 5 = .ok (.astore 4, 2) := by decide +kernel
theorem dOffice_run_7 : decode prog_1_method_16_code 7 = .ok (.aload 4, 2) := by decide +kernel
theorem dOffice_run_9 : decode prog_1_method_16_code 9 = .ok (.ifnull 14, 3) := by decide +kernel
theorem dOffice_run_12 : decode prog_1_method_16_code 12 = .ok (.iload_n 2, 1) := by decide +kernel
theorem dOffice_run_13 : decode prog_1_method_16_code 13 = .ok (.ifCond .lt 10, 3) := by decide +kernel
theorem dOffice_run_16 : decode prog_1_method_16_code 16 = .ok (.iload_n 2, 1) := by decide +kernel
theorem dOffice_run_17 : decode prog_1_method_16_code 17 = .ok (.sipush 240, 3) := by decide +kernel
theorem dOffice_run_20 : decode prog_1_method_16_code 20 = .ok (.if_icmp .le 5, 3) := by decide +kernel
theorem dOffice_run_23 : decode prog_1_method_16_code 23 = .ok (.iconst (-1), 1) := by decide +kernel
theorem dOffice_run_24 : decode prog_1_method_16_code 24 = .ok (.ireturn, 1) := by decide +kernel
theorem dOffice_run_25 : decode prog_1_method_16_code 25 = .ok (.aload_n 0, 1) := by decide +kernel
theorem dOffice_run_26 : decode prog_1_method_16_code 26 = .ok (.getfield 58, 3) := by decide +kernel
theorem dOffice_run_29 : decode prog_1_method_16_code 29 = .ok (.aload_n 0, 1) := by decide +kernel
theorem dOffice_run_30 : decode prog_1_method_16_code 30 = .ok (.getfield 19, 3) := by decide +kernel
theorem dOffice_run_33 : decode prog_1_method_16_code 33 = .ok (.aload_n 0, 1) := by decide +kernel
theorem dOffice_run_34 : decode prog_1_method_16_code 34 = .ok (.getfield 40, 3) := by decide +kernel
theorem dOffice_run_37 : decode prog_1_method_16_code 37 = .ok (.aload 4, 2) := by decide +kernel
theorem dOffice_run_39 : decode prog_1_method_16_code 39 = .ok (.aload_n 0, 1) := by decide +kernel
theorem dOffice_run_40 : decode prog_1_method_16_code 40 = .ok (.getfield 47, 3) := by decide +kernel
theorem dOffice_run_43 : decode prog_1_method_16_code 43 = .ok (.iload_n 2, 1) := by decide +kernel
theorem dOffice_run_44 : decode prog_1_method_16_code 44 = .ok (.iload_n 3, 1) := by decide +kernel
theorem dOffice_run_45 : decode prog_1_method_16_code 45 = .ok (.invokevirtual 151, 3) := by decide +kernel
theorem dOffice_run_48 : decode prog_1_method_16_code 48 = .ok (.aload_n 0, 1) := by decide +kernel
theorem dOffice_run_49 : decode prog_1_method_16_code 49 = .ok (.getfield 58, 3) := by decide +kernel
theorem dOffice_run_52 : decode prog_1_method_16_code 52 = .ok (.getfield 155, 3) := by decide +kernel
theorem dOffice_run_55 : decode prog_1_method_16_code 55 = .ok (.getfield 159, 3) := by decide +kernel
theorem dOffice_run_58 : decode prog_1_method_16_code 58 = .ok (.ireturn, 1) := by decide +kernel
theorem dOffice_ran_0 : decode prog_1_method_17_code 0 = .ok (.aload_n 0, 1) := by decide +kernel
theorem dOffice_ran_1 : decode prog_1_method_17_code 1 = .ok (.getfield 58, 3) := by decide +kernel
theorem dOffice_ran_4 : decode prog_1_method_17_code 4 = .ok (.getfield 79, 3) := by decide +kernel
theorem dOffice_ran_7 : decode prog_1_method_17_code 7 = .ok (.ifCond .eq 13, 3) := by decide +kernel
theorem dOffice_ran_10 : decode prog_1_method_17_code 10 = .ok (.iload_n 1, 1) := by decide +kernel
theorem dOffice_ran_11 : decode prog_1_method_17_code 11 = .ok (.ifCond .lt 9, 3) := by decide +kernel
theorem dOffice_ran_14 : decode prog_1_method_17_code 14 = .ok (.iload_n 1, 1) := by decide +kernel
theorem dOffice_ran_15 : decode prog_1_method_17_code 15 = .ok (.bipush 11, 2) := by decide +kernel
theorem dOffice_ran_17 : decode prog_1_method_17_code 17 = .ok (.if_icmp .lt 7, 3) := by decide +kernel
theorem dOffice_ran_20 : decode prog_1_method_17_code 20 = .ok (.ldc2_w 162, 3) := by decide +kernel
theorem dOffice_ran_23 : decode prog_1_method_17_code 23 = .ok (.lreturn, 1) := by decide +kernel
theorem dOffice_ran_24 : decode prog_1_method_17_code 24 = .ok (.aload_n 0, 1) := by decide +kernel
theorem dOffice_ran_25 : decode prog_1_method_17_code 25 = .ok (.getfield 58, 3) := by decide +kernel
theorem dOffice_ran_28 : decode prog_1_method_17_code 28 = .ok (.getfield 164, 3) := by decide +kernel
theorem dOffice_ran_31 : decode prog_1_method_17_code 31 = .ok (.iload_n 1, 1) := by decide +kernel
theorem dOffice_ran_32 : decode prog_1_method_17_code 32 = .ok (.laload, 1) := by decide +kernel
theorem dOffice_ran_33 : decode prog_1_method_17_code 33 = .ok (.lreturn, 1) := by decide +kernel
theorem dOffice_fort_0 : decode prog_1_method_18_code 0 = .ok (.aload_n 0, 1) := by decide +kernel
theorem dOffice_fort_1 : decode prog_1_method_18_code 1 = .ok (.iload_n 2, 1) := by decide +kernel
theorem dOffice_fort_2 : decode prog_1_method_18_code 2 = .ok (.invokevirtual 168, 3) := by decide +kernel
theorem dOffice_fort_5 : decode prog_1_method_18_code 5 = .ok (.ifCond .eq 27, 3) := by decide +kernel
theorem dOffice_fort_8 : decode prog_1_method_18_code 8 = .ok (.iload_n 1, 1) := by decide +kernel
theorem dOffice_fort_9 : decode prog_1_method_18_code 9 = .ok (.ifCond .lt 23, 3) := by decide +kernel
theorem dOffice_fort_12 : decode prog_1_method_18_code 12 = .ok (.iload_n 1, 1) := by decide +kernel
theorem dOffice_fort_13 : decode prog_1_method_18_code 13 = .ok (.aload_n 0, 1) := by decide +kernel
theorem dOffice_fort_14 : decode prog_1_method_18_code 14 = .ok (.getfield 19, 3) := by decide +kernel
theorem dOffice_fort_17 : decode prog_1_method_18_code 17 = .ok (.getfield 86, 3) := by decide +kernel
theorem dOffice_fort_20 : decode prog_1_method_18_code 20 = .ok (.if_icmp .ge 12, 3) := by decide +kernel
theorem dOffice_fort_23 : decode prog_1_method_18_code 23 = .ok (.iload_n 3, 1) := by decide +kernel
theorem dOffice_fort_24 : decode prog_1_method_18_code 24 = .ok (.iconst 0, 1) := by decide +kernel
theorem dOffice_fort_25 : decode prog_1_method_18_code 25 = .ok (.iconst 1, 1) := by decide +kernel
theorem dOffice_fort_26 : decode prog_1_method_18_code 26 = .ok (.invokestatic 116, 3) := by decide +kernel
theorem dOffice_fort_29 : decode prog_1_method_18_code 29 = .ok (.ifCond .ne 5, 3) := by decide +kernel
theorem dOffice_fort_32 : decode prog_1_method_18_code 32 = .ok (.iconst (-1), 1) := by decide +kernel
theorem dOffice_fort_33 : decode prog_1_method_18_code 33 = .ok (.ireturn, 1) := by decide +kernel
theorem dOffice_fort_34 : decode prog_1_method_18_code 34 = .ok (.aload_n 0, 1) := by decide +kernel
theorem dOffice_fort_35 : decode prog_1_method_18_code 35 = .ok (.getfield 58, 3) := by decide +kernel
theorem dOffice_fort_38 : decode prog_1_method_18_code 38 = .ok (.getfield 172, 3) := by decide +kernel
theorem dOffice_fort_41 : decode prog_1_method_18_code 41 = .ok (.getfield 176, 3) := by decide +kernel
theorem dOffice_fort_44 : decode prog_1_method_18_code 44 = .ok (.iload_n 2, 1) := by decide +kernel
theorem dOffice_fort_45 : decode prog_1_method_18_code 45 = .ok (.iconst 3, 1) := by decide +kernel
theorem dOffice_fort_46 : decode prog_1_method_18_code 46 = .ok (.imul, 1) := by decide +kernel
theorem dOffice_fort_47 : decode prog_1_method_18_code 47 = .ok (.iload_n 1, 1) := by decide +kernel
theorem dOffice_fort_48 : decode prog_1_method_18_code 48 = .ok (.iadd, 1) := by decide +kernel
theorem dOffice_fort_49 : decode prog_1_method_18_code 49 = .ok (.iconst 2, 1) := by decide +kernel
theorem dOffice_fort_50 : decode prog_1_method_18_code 50 = .ok (.imul, 1) := by decide +kernel
theorem dOffice_fort_51 : decode prog_1_method_18_code 51 = .ok (.iload_n 3, 1) := by decide +kernel
theorem dOffice_fort_52 : decode prog_1_method_18_code 52 = .ok (.iadd, 1) := by decide +kernel
theorem dOffice_fort_53 : decode prog_1_method_18_code 53 = .ok (.iaload, 1) := by decide +kernel
theorem dOffice_fort_54 : decode prog_1_method_18_code 54 = .ok (.ireturn, 1) := by decide +kernel
theorem dOffice_pan_0 : decode prog_1_method_19_code 0 = .ok (.aload_n 0, 1) := by decide +kernel
theorem dOffice_pan_1 : decode prog_1_method_19_code 1 = .ok (.iload_n 2, 1) := by decide +kernel
theorem dOffice_pan_2 : decode prog_1_method_19_code 2 = .ok (.invokevirtual 168, 3) := by decide +kernel
theorem dOffice_pan_5 : decode prog_1_method_19_code 5 = .ok (.ifCond .eq 27, 3) := by decide +kernel
theorem dOffice_pan_8 : decode prog_1_method_19_code 8 = .ok (.iload_n 1, 1) := by decide +kernel
theorem dOffice_pan_9 : decode prog_1_method_19_code 9 = .ok (.ifCond .lt 23, 3) := by decide +kernel
theorem dOffice_pan_12 : decode prog_1_method_19_code 12 = .ok (.iload_n 1, 1) := by decide +kernel
theorem dOffice_pan_13 : decode prog_1_method_19_code 13 = .ok (.aload_n 0, 1) := by decide +kernel
theorem dOffice_pan_14 : decode prog_1_method_19_code 14 = .ok (.getfield 19, 3) := by decide +kernel
theorem dOffice_pan_17 : decode prog_1_method_19_code 17 = .ok (.getfield 89, 3) := by decide +kernel
theorem dOffice_pan_20 : decode prog_1_method_19_code 20 = .ok (.if_icmp .ge 12, 3) := by decide +kernel
theorem dOffice_pan_23 : decode prog_1_method_19_code 23 = .ok (.iload_n 3, 1) := by decide +kernel
theorem dOffice_pan_24 : decode prog_1_method_19_code 24 = .ok (.iconst 0, 1) := by decide +kernel
theorem dOffice_pan_25 : decode prog_1_method_19_code 25 = .ok (.iconst 1, 1) := by decide +kernel
theorem dOffice_pan_26 : decode prog_1_method_19_code 26 = .ok (.invokestatic 116, 3) := by decide +kernel
theorem dOffice_pan_29 : decode prog_1_method_19_code 29 = .ok (.ifCond .ne 5, 3) := by decide +kernel
theorem dOffice_pan_32 : decode prog_1_method_19_code 32 = .ok (.iconst (-1), 1) := by decide +kernel
theorem dOffice_pan_33 : decode prog_1_method_19_code 33 = .ok (.ireturn, 1) := by decide +kernel
theorem dOffice_pan_34 : decode prog_1_method_19_code 34 = .ok (.aload_n 0, 1) := by decide +kernel
theorem dOffice_pan_35 : decode prog_1_method_19_code 35 = .ok (.getfield 58, 3) := by decide +kernel
theorem dOffice_pan_38 : decode prog_1_method_19_code 38 = .ok (.getfield 172, 3) := by decide +kernel
theorem dOffice_pan_41 : decode prog_1_method_19_code 41 = .ok (.getfield 180, 3) := by decide +kernel
theorem dOffice_pan_44 : decode prog_1_method_19_code 44 = .ok (.iload_n 2, 1) := by decide +kernel
theorem dOffice_pan_45 : decode prog_1_method_19_code 45 = .ok (.iconst 3, 1) := by decide +kernel
theorem dOffice_pan_46 : decode prog_1_method_19_code 46 = .ok (.imul, 1) := by decide +kernel
theorem dOffice_pan_47 : decode prog_1_method_19_code 47 = .ok (.iload_n 1, 1) := by decide +kernel
theorem dOffice_pan_48 : decode prog_1_method_19_code 48 = .ok (.iadd, 1) := by decide +kernel
theorem dOffice_pan_49 : decode prog_1_method_19_code 49 = .ok (.iconst 2, 1) := by decide +kernel
theorem dOffice_pan_50 : decode prog_1_method_19_code 50 = .ok (.imul, 1) := by decide +kernel
theorem dOffice_pan_51 : decode prog_1_method_19_code 51 = .ok (.iload_n 3, 1) := by decide +kernel
theorem dOffice_pan_52 : decode prog_1_method_19_code 52 = .ok (.iadd, 1) := by decide +kernel
theorem dOffice_pan_53 : decode prog_1_method_19_code 53 = .ok (.iaload, 1) := by decide +kernel
theorem dOffice_pan_54 : decode prog_1_method_19_code 54 = .ok (.ireturn, 1) := by decide +kernel
theorem dOffice_town_0 : decode prog_1_method_20_code 0 = .ok (.aload_n 0, 1) := by decide +kernel
theorem dOffice_town_1 : decode prog_1_method_20_code 1 = .ok (.iload_n 2, 1) := by decide +kernel
theorem dOffice_town_2 : decode prog_1_method_20_code 2 = .ok (.invokevirtual 168, 3) := by decide +kernel
theorem dOffice_town_5 : decode prog_1_method_20_code 5 = .ok (.ifCond .eq 27, 3) := by decide +kernel
theorem dOffice_town_8 : decode prog_1_method_20_code 8 = .ok (.iload_n 1, 1) := by decide +kernel
theorem dOffice_town_9 : decode prog_1_method_20_code 9 = .ok (.ifCond .lt 23, 3) := by decide +kernel
theorem dOffice_town_12 : decode prog_1_method_20_code 12 = .ok (.iload_n 1, 1) := by decide +kernel
theorem dOffice_town_13 : decode prog_1_method_20_code 13 = .ok (.aload_n 0, 1) := by decide +kernel
theorem dOffice_town_14 : decode prog_1_method_20_code 14 = .ok (.getfield 19, 3) := by decide +kernel
theorem dOffice_town_17 : decode prog_1_method_20_code 17 = .ok (.getfield 92, 3) := by decide +kernel
theorem dOffice_town_20 : decode prog_1_method_20_code 20 = .ok (.if_icmp .ge 12, 3) := by decide +kernel
theorem dOffice_town_23 : decode prog_1_method_20_code 23 = .ok (.iload_n 3, 1) := by decide +kernel
theorem dOffice_town_24 : decode prog_1_method_20_code 24 = .ok (.iconst 0, 1) := by decide +kernel
theorem dOffice_town_25 : decode prog_1_method_20_code 25 = .ok (.iconst 2, 1) := by decide +kernel
theorem dOffice_town_26 : decode prog_1_method_20_code 26 = .ok (.invokestatic 116, 3) := by decide +kernel
theorem dOffice_town_29 : decode prog_1_method_20_code 29 = .ok (.ifCond .ne 5, 3) := by decide +kernel
theorem dOffice_town_32 : decode prog_1_method_20_code 32 = .ok (.iconst (-1), 1) := by decide +kernel
theorem dOffice_town_33 : decode prog_1_method_20_code 33 = .ok (.ireturn, 1) := by decide +kernel
theorem dOffice_town_34 : decode prog_1_method_20_code 34 = .ok (.aload_n 0, 1) := by decide +kernel
theorem dOffice_town_35 : decode prog_1_method_20_code 35 = .ok (.getfield 58, 3) := by decide +kernel
theorem dOffice_town_38 : decode prog_1_method_20_code 38 = .ok (.getfield 172, 3) := by decide +kernel
theorem dOffice_town_41 : decode prog_1_method_20_code 41 = .ok (.getfield 182, 3) := by decide +kernel
theorem dOffice_town_44 : decode prog_1_method_20_code 44 = .ok (.iload_n 2, 1) := by decide +kernel
theorem dOffice_town_45 : decode prog_1_method_20_code 45 = .ok (.iconst 5, 1) := by decide +kernel
theorem dOffice_town_46 : decode prog_1_method_20_code 46 = .ok (.imul, 1) := by decide +kernel
theorem dOffice_town_47 : decode prog_1_method_20_code 47 = .ok (.iload_n 1, 1) := by decide +kernel
theorem dOffice_town_48 : decode prog_1_method_20_code 48 = .ok (.iadd, 1) := by decide +kernel
theorem dOffice_town_49 : decode prog_1_method_20_code 49 = .ok (.iconst 3, 1) := by decide +kernel
theorem dOffice_town_50 : decode prog_1_method_20_code 50 = .ok (.imul, 1) := by decide +kernel
theorem dOffice_town_51 : decode prog_1_method_20_code 51 = .ok (.iload_n 3, 1) := by decide +kernel
theorem dOffice_town_52 : decode prog_1_method_20_code 52 = .ok (.iadd, 1) := by decide +kernel
theorem dOffice_town_53 : decode prog_1_method_20_code 53 = .ok (.iaload, 1) := by decide +kernel
theorem dOffice_town_54 : decode prog_1_method_20_code 54 = .ok (.ireturn, 1) := by decide +kernel
theorem dOffice_book_0 : decode prog_1_method_21_code 0 = .ok (.aload_n 0, 1) := by decide +kernel
theorem dOffice_book_1 : decode prog_1_method_21_code 1 = .ok (.iload_n 2, 1) := by decide +kernel
theorem dOffice_book_2 : decode prog_1_method_21_code 2 = .ok (.invokevirtual 168, 3) := by decide +kernel
theorem dOffice_book_5 : decode prog_1_method_21_code 5 = .ok (.ifCond .eq 27, 3) := by decide +kernel
theorem dOffice_book_8 : decode prog_1_method_21_code 8 = .ok (.iload_n 1, 1) := by decide +kernel
theorem dOffice_book_9 : decode prog_1_method_21_code 9 = .ok (.ifCond .lt 23, 3) := by decide +kernel
theorem dOffice_book_12 : decode prog_1_method_21_code 12 = .ok (.iload_n 1, 1) := by decide +kernel
theorem dOffice_book_13 : decode prog_1_method_21_code 13 = .ok (.aload_n 0, 1) := by decide +kernel
theorem dOffice_book_14 : decode prog_1_method_21_code 14 = .ok (.getfield 40, 3) := by decide +kernel
theorem dOffice_book_17 : decode prog_1_method_21_code 17 = .ok (.getfield 109, 3) := by decide +kernel
theorem dOffice_book_20 : decode prog_1_method_21_code 20 = .ok (.if_icmp .ge 12, 3) := by decide +kernel
theorem dOffice_book_23 : decode prog_1_method_21_code 23 = .ok (.iload_n 3, 1) := by decide +kernel
theorem dOffice_book_24 : decode prog_1_method_21_code 24 = .ok (.iconst 0, 1) := by decide +kernel
theorem dOffice_book_25 : decode prog_1_method_21_code 25 = .ok (.iconst 2, 1) := by decide +kernel
theorem dOffice_book_26 : decode prog_1_method_21_code 26 = .ok (.invokestatic 116, 3) := by decide +kernel
theorem dOffice_book_29 : decode prog_1_method_21_code 29 = .ok (.ifCond .ne 7, 3) := by decide +kernel
theorem dOffice_book_32 : decode prog_1_method_21_code 32 = .ok (.ldc2_w 162, 3) := by decide +kernel
theorem dOffice_book_35 : decode prog_1_method_21_code 35 = .ok (.lreturn, 1) := by decide +kernel
theorem dOffice_book_36 : decode prog_1_method_21_code 36 = .ok (.aload_n 0, 1) := by decide +kernel
theorem dOffice_book_37 : decode prog_1_method_21_code 37 = .ok (.getfield 58, 3) := by decide +kernel
theorem dOffice_book_40 : decode prog_1_method_21_code 40 = .ok (.getfield 172, 3) := by decide +kernel
theorem dOffice_book_43 : decode prog_1_method_21_code 43 = .ok (.getfield 184, 3) := by decide +kernel
theorem dOffice_book_46 : decode prog_1_method_21_code 46 = .ok (.iload_n 2, 1) := by decide +kernel
theorem dOffice_book_47 : decode prog_1_method_21_code 47 = .ok (.bipush 6, 2) := by decide +kernel
theorem dOffice_book_49 : decode prog_1_method_21_code 49 = .ok (.imul, 1) := by decide +kernel
theorem dOffice_book_50 : decode prog_1_method_21_code 50 = .ok (.iload_n 1, 1) := by decide +kernel
theorem dOffice_book_51 : decode prog_1_method_21_code 51 = .ok (.iadd, 1) := by decide +kernel
theorem dOffice_book_52 : decode prog_1_method_21_code 52 = .ok (.iconst 3, 1) := by decide +kernel
theorem dOffice_book_53 : decode prog_1_method_21_code 53 = .ok (.imul, 1) := by decide +kernel
theorem dOffice_book_54 : decode prog_1_method_21_code 54 = .ok (.iload_n 3, 1) := by decide +kernel
theorem dOffice_book_55 : decode prog_1_method_21_code 55 = .ok (.iadd, 1) := by decide +kernel
theorem dOffice_book_56 : decode prog_1_method_21_code 56 = .ok (.laload, 1) := by decide +kernel
theorem dOffice_book_57 : decode prog_1_method_21_code 57 = .ok (.lreturn, 1) := by decide +kernel
theorem dOffice_paper_0 : decode prog_1_method_22_code 0 = .ok (.aload_n 0, 1) := by decide +kernel
theorem dOffice_paper_1 : decode prog_1_method_22_code 1 = .ok (.getfield 58, 3) := by decide +kernel
theorem dOffice_paper_4 : decode prog_1_method_22_code 4 = .ok (.getfield 79, 3) := by decide +kernel
theorem dOffice_paper_7 : decode prog_1_method_22_code 7 = .ok (.ifCond .eq 21, 3) := by decide +kernel
theorem dOffice_paper_10 : decode prog_1_method_22_code 10 = .ok (.iload_n 1, 1) := by decide +kernel
theorem dOffice_paper_11 : decode prog_1_method_22_code 11 = .ok (.ifCond .lt 17, 3) := by decide +kernel
theorem dOffice_paper_14 : decode prog_1_method_22_code 14 = .ok (.iload_n 1, 1) := by decide +kernel
theorem dOffice_paper_15 : decode prog_1_method_22_code 15 = .ok (.aload_n 0, 1) := by decide +kernel
theorem dOffice_paper_16 : decode prog_1_method_22_code 16 = .ok (.getfield 58, 3) := by decide +kernel
theorem dOffice_paper_19 : decode prog_1_method_22_code 19 = .ok (.getfield 155, 3) := by decide +kernel
theorem dOffice_paper_22 : decode prog_1_method_22_code 22 = .ok (.getfield 159, 3) := by decide +kernel
theorem dOffice_paper_25 : decode prog_1_method_22_code 25 = .ok (.if_icmp .lt 5, 3) := by decide +kernel
theorem dOffice_paper_28 : decode prog_1_method_22_code 28 = .ok (.iconst (-1), 1) := by decide +kernel
theorem dOffice_paper_29 : decode prog_1_method_22_code 29 = .ok (.ireturn, 1) := by decide +kernel
theorem dOffice_paper_30 : decode prog_1_method_22_code 30 = .ok (.aload_n 0, 1) := by decide +kernel
theorem dOffice_paper_31 : decode prog_1_method_22_code 31 = .ok (.getfield 58, 3) := by decide +kernel
theorem dOffice_paper_34 : decode prog_1_method_22_code 34 = .ok (.getfield 155, 3) := by decide +kernel
theorem dOffice_paper_37 : decode prog_1_method_22_code 37 = .ok (.iload_n 1, 1) := by decide +kernel
theorem dOffice_paper_38 : decode prog_1_method_22_code 38 = .ok (.iload_n 2, 1) := by decide +kernel
theorem dOffice_paper_39 : decode prog_1_method_22_code 39 = .ok (.invokevirtual 187, 3) := by decide +kernel
theorem dOffice_paper_42 : decode prog_1_method_22_code 42 = .ok (.ireturn, 1) := by decide +kernel
theorem dOffice_way_0 : decode prog_1_method_23_code 0 = .ok (.aload_n 0, 1) := by decide +kernel
theorem dOffice_way_1 : decode prog_1_method_23_code 1 = .ok (.getfield 58, 3) := by decide +kernel
theorem dOffice_way_4 : decode prog_1_method_23_code 4 = .ok (.getfield 79, 3) := by decide +kernel
theorem dOffice_way_7 : decode prog_1_method_23_code 7 = .ok (.ifCond .eq 29, 3) := by decide +kernel
theorem dOffice_way_10 : decode prog_1_method_23_code 10 = .ok (.iload_n 1, 1) := by decide +kernel
theorem dOffice_way_11 : decode prog_1_method_23_code 11 = .ok (.ifCond .lt 25, 3) := by decide +kernel
theorem dOffice_way_14 : decode prog_1_method_23_code 14 = .ok (.iload_n 1, 1) := by decide +kernel
theorem dOffice_way_15 : decode prog_1_method_23_code 15 = .ok (.aload_n 0, 1) := by decide +kernel
theorem dOffice_way_16 : decode prog_1_method_23_code 16 = .ok (.getfield 40, 3) := by decide +kernel
theorem dOffice_way_19 : decode prog_1_method_23_code 19 = .ok (.getfield 109, 3) := by decide +kernel
theorem dOffice_way_22 : decode prog_1_method_23_code 22 = .ok (.if_icmp .ge 14, 3) := by decide +kernel
theorem dOffice_way_25 : decode prog_1_method_23_code 25 = .ok (.aload_n 0, 1) := by decide +kernel
theorem dOffice_way_26 : decode prog_1_method_23_code 26 = .ok (.getfield 58, 3) := by decide +kernel
theorem dOffice_way_29 : decode prog_1_method_23_code 29 = .ok (.iload_n 1, 1) := by decide +kernel
theorem dOffice_way_30 : decode prog_1_method_23_code 30 = .ok (.invokevirtual 190, 3) := by decide +kernel
theorem dOffice_way_33 : decode prog_1_method_23_code 33 = .ok (.ifCond .eq 7, 3) := by decide +kernel
theorem dOffice_way_36 : decode prog_1_method_23_code 36 = .ok (.ldc2_w 162, 3) := by decide +kernel
theorem dOffice_way_39 : decode prog_1_method_23_code 39 = .ok (.lreturn, 1) := by decide +kernel
theorem dOffice_way_40 : decode prog_1_method_23_code 40 = .ok (.aload_n 0, 1) := by decide +kernel
theorem dOffice_way_41 : decode prog_1_method_23_code 41 = .ok (.getfield 58, 3) := by decide +kernel
theorem dOffice_way_44 : decode prog_1_method_23_code 44 = .ok (.getfield 193, 3) := by decide +kernel
theorem dOffice_way_47 : decode prog_1_method_23_code 47 = .ok (.astore_n 3, 1) := by decide +kernel
theorem dOffice_way_48 : decode prog_1_method_23_code 48 = .ok (.aload_n 3, 1) := by decide +kernel
theorem dOffice_way_49 : decode prog_1_method_23_code 49 = .ok (.aload_n 0, 1) := by decide +kernel
theorem dOffice_way_50 : decode prog_1_method_23_code 50 = .ok (.getfield 58, 3) := by decide +kernel
theorem dOffice_way_53 : decode prog_1_method_23_code 53 = .ok (.iload_n 1, 1) := by decide +kernel
theorem dOffice_way_54 : decode prog_1_method_23_code 54 = .ok (.invokevirtual 197, 3) := by decide +kernel
theorem dOffice_way_57 : decode prog_1_method_23_code 57 = .ok (.iload_n 2, 1) := by decide +kernel
theorem dOffice_way_58 : decode prog_1_method_23_code 58 = .ok (.tableswitch 63 0 4 #[34, 40, 46, 52, 58], 34) := by decide +kernel
theorem dOffice_way_92 : decode prog_1_method_23_code 92 = .ok (.aload_n 3, 1) := by decide +kernel
theorem dOffice_way_93 : decode prog_1_method_23_code 93 = .ok (.getfield 203, 3) := by decide +kernel
theorem dOffice_way_96 : decode prog_1_method_23_code 96 = .ok (.i2l, 1) := by decide +kernel
theorem dOffice_way_97 : decode prog_1_method_23_code 97 = .ok (.lreturn, 1) := by decide +kernel
theorem dOffice_way_98 : decode prog_1_method_23_code 98 = .ok (.aload_n 3, 1) := by decide +kernel
theorem dOffice_way_99 : decode prog_1_method_23_code 99 = .ok (.getfield 206, 3) := by decide +kernel
theorem dOffice_way_102 : decode prog_1_method_23_code 102 = .ok (.i2l, 1) := by decide +kernel
theorem dOffice_way_103 : decode prog_1_method_23_code 103 = .ok (.lreturn, 1) := by decide +kernel
theorem dOffice_way_104 : decode prog_1_method_23_code 104 = .ok (.aload_n 3, 1) := by decide +kernel
theorem dOffice_way_105 : decode prog_1_method_23_code 105 = .ok (.getfield 209, 3) := by decide +kernel
theorem dOffice_way_108 : decode prog_1_method_23_code 108 = .ok (.i2l, 1) := by decide +kernel
theorem dOffice_way_109 : decode prog_1_method_23_code 109 = .ok (.lreturn, 1) := by decide +kernel
theorem dOffice_way_110 : decode prog_1_method_23_code 110 = .ok (.aload_n 3, 1) := by decide +kernel
theorem dOffice_way_111 : decode prog_1_method_23_code 111 = .ok (.getfield 212, 3) := by decide +kernel
theorem dOffice_way_114 : decode prog_1_method_23_code 114 = .ok (.i2l, 1) := by decide +kernel
theorem dOffice_way_115 : decode prog_1_method_23_code 115 = .ok (.lreturn, 1) := by decide +kernel
theorem dOffice_way_116 : decode prog_1_method_23_code 116 = .ok (.aload_n 3, 1) := by decide +kernel
theorem dOffice_way_117 : decode prog_1_method_23_code 117 = .ok (.getfield 215, 3) := by decide +kernel
theorem dOffice_way_120 : decode prog_1_method_23_code 120 = .ok (.lreturn, 1) := by decide +kernel
theorem dOffice_way_121 : decode prog_1_method_23_code 121 = .ok (.ldc2_w 162, 3) := by decide +kernel
theorem dOffice_way_124 : decode prog_1_method_23_code 124 = .ok (.lreturn, 1) := by decide +kernel
theorem dOffice_worth_0 : decode prog_1_method_24_code 0 = .ok (.aload_n 0, 1) := by decide +kernel
theorem dOffice_worth_1 : decode prog_1_method_24_code 1 = .ok (.getfield 58, 3) := by decide +kernel
theorem dOffice_worth_4 : decode prog_1_method_24_code 4 = .ok (.getfield 79, 3) := by decide +kernel
theorem dOffice_worth_7 : decode prog_1_method_24_code 7 = .ok (.ifCond .eq 18, 3) := by decide +kernel
theorem dOffice_worth_10 : decode prog_1_method_24_code 10 = .ok (.iload_n 1, 1) := by decide +kernel
theorem dOffice_worth_11 : decode prog_1_method_24_code 11 = .ok (.ifCond .lt 14, 3) := by decide +kernel
theorem dOffice_worth_14 : decode prog_1_method_24_code 14 = .ok (.iload_n 1, 1) := by decide +kernel
theorem dOffice_worth_15 : decode prog_1_method_24_code 15 = .ok (.aload_n 0, 1) := by decide +kernel
theorem dOffice_worth_16 : decode prog_1_method_24_code 16 = .ok (.getfield 19, 3) := by decide +kernel
theorem dOffice_worth_19 : decode prog_1_method_24_code 19 = .ok (.getfield 89, 3) := by decide +kernel
theorem dOffice_worth_22 : decode prog_1_method_24_code 22 = .ok (.if_icmp .lt 7, 3) := by decide +kernel
theorem dOffice_worth_25 : decode prog_1_method_24_code 25 = .ok (.ldc2_w 219, 3) := by decide +kernel
theorem dOffice_worth_28 : decode prog_1_method_24_code 28 = .ok (.lreturn, 1) := by decide +kernel
theorem dOffice_worth_29 : decode prog_1_method_24_code 29 = .ok (.aload_n 0, 1) := by decide +kernel
theorem dOffice_worth_30 : decode prog_1_method_24_code 30 = .ok (.getfield 58, 3) := by decide +kernel
theorem dOffice_worth_33 : decode prog_1_method_24_code 33 = .ok (.iload_n 1, 1) := by decide +kernel
theorem dOffice_worth_34 : decode prog_1_method_24_code 34 = .ok (.invokevirtual 221, 3) := by decide +kernel
theorem dOffice_worth_37 : decode prog_1_method_24_code 37 = .ok (.pop, 1) := by decide +kernel
theorem dOffice_worth_38 : decode prog_1_method_24_code 38 = .ok (.aload_n 0, 1) := by decide +kernel
theorem dOffice_worth_39 : decode prog_1_method_24_code 39 = .ok (.getfield 58, 3) := by decide +kernel
theorem dOffice_worth_42 : decode prog_1_method_24_code 42 = .ok (.getfield 225, 3) := by decide +kernel
theorem dOffice_worth_45 : decode prog_1_method_24_code 45 = .ok (.lreturn, 1) := by decide +kernel
theorem dOffice_judge_0 : decode prog_1_method_25_code 0 = .ok (.aload_n 0, 1) := by decide +kernel
theorem dOffice_judge_1 : decode prog_1_method_25_code 1 = .ok (.iload_n 1, 1) := by decide +kernel
theorem dOffice_judge_2 : decode prog_1_method_25_code 2 = .ok (.invokevirtual 147, 3) := by decide +kernel
theorem dOffice_judge_5 : decode prog_1_method_25_code 5 = .ok (.astore 5, 2) := by decide +kernel
theorem dOffice_judge_7 : decode prog_1_method_25_code 7 = .ok (.aload_n 0, 1) := by decide +kernel
theorem dOffice_judge_8 : decode prog_1_method_25_code 8 = .ok (.iload_n 2, 1) := by decide +kernel
theorem dOffice_judge_9 : decode prog_1_method_25_code 9 = .ok (.invokevirtual 147, 3) := by decide +kernel
theorem dOffice_judge_12 : decode prog_1_method_25_code 12 = .ok (.astore 6, 2) := by decide +kernel
theorem dOffice_judge_14 : decode prog_1_method_25_code 14 = .ok (.aload 5, 2) := by decide +kernel
theorem dOffice_judge_16 : decode prog_1_method_25_code 16 = .ok (.ifnull 19, 3) := by decide +kernel
theorem dOffice_judge_19 : decode prog_1_method_25_code 19 = .ok (.aload 6, 2) := by decide +kernel
theorem dOffice_judge_21 : decode prog_1_method_25_code 21 = .ok (.ifnull 14, 3) := by decide +kernel
theorem dOffice_judge_24 : decode prog_1_method_25_code 24 = .ok (.iload_n 3, 1) := by decide +kernel
theorem dOffice_judge_25 : decode prog_1_method_25_code 25 = .ok (.ifCond .lt 10, 3) := by decide +kernel
theorem dOffice_judge_28 : decode prog_1_method_25_code 28 = .ok (.iload_n 3, 1) := by decide +kernel
theorem dOffice_judge_29 : decode prog_1_method_25_code 29 = .ok (.sipush 240, 3) := by decide +kernel
theorem dOffice_judge_32 : decode prog_1_method_25_code 32 = .ok (.if_icmp .le 5, 3) := by decide +kernel
theorem dOffice_judge_35 : decode prog_1_method_25_code 35 = .ok (.iconst (-1), 1) := by decide +kernel
theorem dOffice_judge_36 : decode prog_1_method_25_code 36 = .ok (.ireturn, 1) := by decide +kernel
theorem dOffice_judge_37 : decode prog_1_method_25_code 37 = .ok (.aload_n 0, 1) := by decide +kernel
theorem dOffice_judge_38 : decode prog_1_method_25_code 38 = .ok (.getfield 62, 3) := by decide +kernel
theorem dOffice_judge_41 : decode prog_1_method_25_code 41 = .ok (.aload_n 0, 1) := by decide +kernel
theorem dOffice_judge_42 : decode prog_1_method_25_code 42 = .ok (.getfield 19, 3) := by decide +kernel
theorem dOffice_judge_45 : decode prog_1_method_25_code 45 = .ok (.aload_n 0, 1) := by decide +kernel
theorem dOffice_judge_46 : decode prog_1_method_25_code 46 = .ok (.getfield 40, 3) := by decide +kernel
theorem dOffice_judge_49 : decode prog_1_method_25_code 49 = .ok (.aload 5, 2) := by decide +kernel
theorem dOffice_judge_51 : decode prog_1_method_25_code 51 = .ok (.aload_n 0, 1) := by decide +kernel
theorem dOffice_judge_52 : decode prog_1_method_25_code 52 = .ok (.getfield 47, 3) := by decide +kernel
theorem dOffice_judge_55 : decode prog_1_method_25_code 55 = .ok (.iload_n 3, 1) := by decide +kernel
theorem dOffice_judge_56 : decode prog_1_method_25_code 56 = .ok (.iload 4, 2) := by decide +kernel
theorem dOffice_judge_58 : decode prog_1_method_25_code 58 = .ok (.invokevirtual 151, 3) := by decide +kernel
theorem dOffice_judge_61 : decode prog_1_method_25_code 61 = .ok (.aload_n 0, 1) := by decide +kernel
theorem dOffice_judge_62 : decode prog_1_method_25_code 62 = .ok (.getfield 62, 3) := by decide +kernel
theorem dOffice_judge_65 : decode prog_1_method_25_code 65 = .ok (.getfield 164, 3) := by decide +kernel
theorem dOffice_judge_68 : decode prog_1_method_25_code 68 = .ok (.iconst 0, 1) := by decide +kernel
theorem dOffice_judge_69 : decode prog_1_method_25_code 69 = .ok (.laload, 1) := by decide +kernel
theorem dOffice_judge_70 : decode prog_1_method_25_code 70 = .ok (.lstore 7, 2) := by decide +kernel
theorem dOffice_judge_72 : decode prog_1_method_25_code 72 = .ok (.aload_n 0, 1) := by decide +kernel
theorem dOffice_judge_73 : decode prog_1_method_25_code 73 = .ok (.getfield 62, 3) := by decide +kernel
theorem dOffice_judge_76 : decode prog_1_method_25_code 76 = .ok (.getfield 164, 3) := by decide +kernel
theorem dOffice_judge_79 : decode prog_1_method_25_code 79 = .ok (.bipush 8, 2) := by decide +kernel
theorem dOffice_judge_81 : decode prog_1_method_25_code 81 = .ok (.laload, 1) := by decide +kernel
theorem dOffice_judge_82 : decode prog_1_method_25_code 82 = .ok (.lstore 9, 2) := by decide +kernel
theorem dOffice_judge_84 : decode prog_1_method_25_code 84 = .ok (.aload_n 0, 1) := by decide +kernel
theorem dOffice_judge_85 : decode prog_1_method_25_code 85 = .ok (.getfield 62, 3) := by decide +kernel
theorem dOffice_judge_88 : decode prog_1_method_25_code 88 = .ok (.getfield 164, 3) := by decide +kernel
theorem dOffice_judge_91 : decode prog_1_method_25_code 91 = .ok (.bipush 9, 2) := by decide +kernel
theorem dOffice_judge_93 : decode prog_1_method_25_code 93 = .ok (.laload, 1) := by decide +kernel
theorem dOffice_judge_94 : decode prog_1_method_25_code 94 = .ok (.lstore 11, 2) := by decide +kernel
theorem dOffice_judge_96 : decode prog_1_method_25_code 96 = .ok (.aload_n 0, 1) := by decide +kernel
theorem dOffice_judge_97 : decode prog_1_method_25_code 97 = .ok (.getfield 62, 3) := by decide +kernel
theorem dOffice_judge_100 : decode prog_1_method_25_code 100 = .ok (.getfield 164, 3) := by decide +kernel
theorem dOffice_judge_103 : decode prog_1_method_25_code 103 = .ok (.iconst 2, 1) := by decide +kernel
theorem dOffice_judge_104 : decode prog_1_method_25_code 104 = .ok (.laload, 1) := by decide +kernel
theorem dOffice_judge_105 : decode prog_1_method_25_code 105 = .ok (.lstore 13, 2) := by decide +kernel
theorem dOffice_judge_107 : decode prog_1_method_25_code 107 = .ok (.aload_n 0, 1) := by decide +kernel
theorem dOffice_judge_108 : decode prog_1_method_25_code 108 = .ok (.getfield 62, 3) := by decide +kernel
theorem dOffice_judge_111 : decode prog_1_method_25_code 111 = .ok (.aload_n 0, 1) := by decide +kernel
theorem dOffice_judge_112 : decode prog_1_method_25_code 112 = .ok (.getfield 19, 3) := by decide +kernel
theorem dOffice_judge_115 : decode prog_1_method_25_code 115 = .ok (.aload_n 0, 1) := by decide +kernel
theorem dOffice_judge_116 : decode prog_1_method_25_code 116 = .ok (.getfield 40, 3) := by decide +kernel
theorem dOffice_judge_119 : decode prog_1_method_25_code 119 = .ok (.aload 6, 2) := by decide +kernel
theorem dOffice_judge_121 : decode prog_1_method_25_code 121 = .ok (.aload_n 0, 1) := by decide +kernel
theorem dOffice_judge_122 : decode prog_1_method_25_code 122 = .ok (.getfield 47, 3) := by decide +kernel
theorem dOffice_judge_125 : decode prog_1_method_25_code 125 = .ok (.iload_n 3, 1) := by decide +kernel
theorem dOffice_judge_126 : decode prog_1_method_25_code 126 = .ok (.iload 4, 2) := by decide +kernel
theorem dOffice_judge_128 : decode prog_1_method_25_code 128 = .ok (.invokevirtual 151, 3) := by decide +kernel
theorem dOffice_judge_131 : decode prog_1_method_25_code 131 = .ok (.lload 7, 2) := by decide +kernel
theorem dOffice_judge_133 : decode prog_1_method_25_code 133 = .ok (.aload_n 0, 1) := by decide +kernel
theorem dOffice_judge_134 : decode prog_1_method_25_code 134 = .ok (.getfield 62, 3) := by decide +kernel
theorem dOffice_judge_137 : decode prog_1_method_25_code 137 = .ok (.getfield 164, 3) := by decide +kernel
theorem dOffice_judge_140 : decode prog_1_method_25_code 140 = .ok (.iconst 0, 1) := by decide +kernel
theorem dOffice_judge_141 : decode prog_1_method_25_code 141 = .ok (.laload, 1) := by decide +kernel
theorem dOffice_judge_142 : decode prog_1_method_25_code 142 = .ok (.invokestatic 228, 3) := by decide +kernel
theorem dOffice_judge_145 : decode prog_1_method_25_code 145 = .ok (.istore 15, 2) := by decide +kernel
theorem dOffice_judge_147 : decode prog_1_method_25_code 147 = .ok (.iload 15, 2) := by decide +kernel
theorem dOffice_judge_149 : decode prog_1_method_25_code 149 = .ok (.ifCond .ne 32, 3) := by decide +kernel
theorem dOffice_judge_152 : decode prog_1_method_25_code 152 = .ok (.lload 9, 2) := by decide +kernel
theorem dOffice_judge_154 : decode prog_1_method_25_code 154 = .ok (.lload 11, 2) := by decide +kernel
theorem dOffice_judge_156 : decode prog_1_method_25_code 156 = .ok (.aload_n 0, 1) := by decide +kernel
theorem dOffice_judge_157 : decode prog_1_method_25_code 157 = .ok (.getfield 62, 3) := by decide +kernel
theorem dOffice_judge_160 : decode prog_1_method_25_code 160 = .ok (.getfield 164, 3) := by decide +kernel
theorem dOffice_judge_163 : decode prog_1_method_25_code 163 = .ok (.bipush 8, 2) := by decide +kernel
theorem dOffice_judge_165 : decode prog_1_method_25_code 165 = .ok (.laload, 1) := by decide +kernel
theorem dOffice_judge_166 : decode prog_1_method_25_code 166 = .ok (.aload_n 0, 1) := by decide +kernel
theorem dOffice_judge_167 : decode prog_1_method_25_code 167 = .ok (.getfield 62, 3) := by decide +kernel
theorem dOffice_judge_170 : decode prog_1_method_25_code 170 = .ok (.getfield 164, 3) := by decide +kernel
theorem dOffice_judge_173 : decode prog_1_method_25_code 173 = .ok (.bipush 9, 2) := by decide +kernel
theorem dOffice_judge_175 : decode prog_1_method_25_code 175 = .ok (.laload, 1) := by decide +kernel
theorem dOffice_judge_176 : decode prog_1_method_25_code 176 = .ok (.invokestatic 234, 3) := by decide +kernel
theorem dOffice_judge_179 : decode prog_1_method_25_code 179 = .ok (.istore 15, 2) := by decide +kernel
theorem dOffice_judge_181 : decode prog_1_method_25_code 181 = .ok (.iload 15, 2) := by decide +kernel
theorem dOffice_judge_183 : decode prog_1_method_25_code 183 = .ok (.ifCond .ne 19, 3) := by decide +kernel
theorem dOffice_judge_186 : decode prog_1_method_25_code 186 = .ok (.aload_n 0, 1) := by decide +kernel
theorem dOffice_judge_187 : decode prog_1_method_25_code 187 = .ok (.getfield 62, 3) := by decide +kernel
theorem dOffice_judge_190 : decode prog_1_method_25_code 190 = .ok (.getfield 164, 3) := by decide +kernel
theorem dOffice_judge_193 : decode prog_1_method_25_code 193 = .ok (.iconst 2, 1) := by decide +kernel
theorem dOffice_judge_194 : decode prog_1_method_25_code 194 = .ok (.laload, 1) := by decide +kernel
theorem dOffice_judge_195 : decode prog_1_method_25_code 195 = .ok (.lload 13, 2) := by decide +kernel
theorem dOffice_judge_197 : decode prog_1_method_25_code 197 = .ok (.invokestatic 228, 3) := by decide +kernel
theorem dOffice_judge_200 : decode prog_1_method_25_code 200 = .ok (.istore 15, 2) := by decide +kernel
