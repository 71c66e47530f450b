/-! Decode rows: by program. -/
theorem dModel_readFort_37 : decode prog_14_method_22_code 37 = .ok (.aload_n 0, 1) := by decide +kernel
theorem dModel_readFort_38 : decode prog_14_method_22_code 38 = .ok (.aload_n 0, 1) := by decide +kernel
theorem dModel_readFort_39 : decode prog_14_method_22_code 39 = .ok (.ldc2_w 23, 3) := by decide +kernel
theorem dModel_readFort_42 : decode prog_14_method_22_code 42 = .ok (.invokevirtual 178, 3) := by decide +kernel
theorem dModel_readFort_45 : decode prog_14_method_22_code 45 = .ok (.invokevirtual 196, 3) := by decide +kernel
theorem dModel_readFort_48 : decode prog_14_method_22_code 48 = .ok (.aload_n 0, 1) := by decide +kernel
theorem dModel_readFort_49 : decode prog_14_method_22_code 49 = .ok (.getfield 236, 3) := by decide +kernel
theorem dModel_readFort_52 : decode prog_14_method_22_code 52 = .ok (.iload_n 1, 1) := by decide +kernel
theorem dModel_readFort_53 : decode prog_14_method_22_code 53 = .ok (.aload_n 0, 1) := by decide +kernel
theorem dModel_readFort_54 : decode prog_14_method_22_code 54 = .ok (.iconst 0, 1) := by decide +kernel
theorem dModel_readFort_55 : decode prog_14_method_22_code 55 = .ok (.sipush 999, 3) := by decide +kernel
theorem dModel_readFort_58 : decode prog_14_method_22_code 58 = .ok (.invokevirtual 212, 3) := by decide +kernel
theorem dModel_readFort_61 : decode prog_14_method_22_code 61 = .ok (.iastore, 1) := by decide +kernel
theorem dModel_readFort_62 : decode prog_14_method_22_code 62 = .ok (.aload_n 0, 1) := by decide +kernel
theorem dModel_readFort_63 : decode prog_14_method_22_code 63 = .ok (.aload_n 0, 1) := by decide +kernel
theorem dModel_readFort_64 : decode prog_14_method_22_code 64 = .ok (.ldc2_w 25, 3) := by decide +kernel
theorem dModel_readFort_67 : decode prog_14_method_22_code 67 = .ok (.invokevirtual 178, 3) := by decide +kernel
theorem dModel_readFort_70 : decode prog_14_method_22_code 70 = .ok (.invokevirtual 196, 3) := by decide +kernel
theorem dModel_readFort_73 : decode prog_14_method_22_code 73 = .ok (.aload_n 0, 1) := by decide +kernel
theorem dModel_readFort_74 : decode prog_14_method_22_code 74 = .ok (.getfield 239, 3) := by decide +kernel
theorem dModel_readFort_77 : decode prog_14_method_22_code 77 = .ok (.iload_n 1, 1) := by decide +kernel
theorem dModel_readFort_78 : decode prog_14_method_22_code 78 = .ok (.aload_n 0, 1) := by decide +kernel
theorem dModel_readFort_79 : decode prog_14_method_22_code 79 = .ok (.iconst 0, 1) := by decide +kernel
theorem dModel_readFort_80 : decode prog_14_method_22_code 80 = .ok (.sipush 9999, 3) := by decide +kernel
theorem dModel_readFort_83 : decode prog_14_method_22_code 83 = .ok (.invokevirtual 212, 3) := by decide +kernel
theorem dModel_readFort_86 : decode prog_14_method_22_code 86 = .ok (.iastore, 1) := by decide +kernel
theorem dModel_readFort_87 : decode prog_14_method_22_code 87 = .ok (.aload_n 0, 1) := by decide +kernel
theorem dModel_readFort_88 : decode prog_14_method_22_code 88 = .ok (.invokevirtual 126, 3) := by decide +kernel
theorem dModel_readFort_91 : decode prog_14_method_22_code 91 = .ok (.ifCond .eq 16, 3) := by decide +kernel
theorem dModel_readFort_94 : decode prog_14_method_22_code 94 = .ok (.aload_n 0, 1) := by decide +kernel
theorem dModel_readFort_95 : decode prog_14_method_22_code 95 = .ok (.getfield 157, 3) := by decide +kernel
theorem dModel_readFort_98 : decode prog_14_method_22_code 98 = .ok (.aload_n 0, 1) := by decide +kernel
theorem dModel_readFort_99 : decode prog_14_method_22_code 99 = .ok (.getfield 150, 3) := by decide +kernel
theorem dModel_readFort_102 : decode prog_14_method_22_code 102 = .ok (.dup2, 1) := by decide +kernel
theorem dModel_readFort_103 : decode prog_14_method_22_code 103 = .ok (.iaload, 1) := by decide +kernel
theorem dModel_readFort_104 : decode prog_14_method_22_code 104 = .ok (.iconst 1, 1) := by decide +kernel
theorem dModel_readFort_105 : decode prog_14_method_22_code 105 = .ok (.iadd, 1) := by decide +kernel
theorem dModel_readFort_106 : decode prog_14_method_22_code 106 = .ok (.iastore, 1) := by decide +kernel
theorem dModel_readFort_107 : decode prog_14_method_22_code 107 = .ok (.return_, 1) := by decide +kernel
theorem dModel_readPan_0 : decode prog_14_method_23_code 0 = .ok (.iconst 3, 1) := by decide +kernel
theorem dModel_readPan_1 : decode prog_14_method_23_code 1 = .ok (.aload_n 0, 1) := by decide +kernel
theorem dModel_readPan_2 : decode prog_14_method_23_code 2 = .ok (.getfield 150, 3) := by decide +kernel
theorem dModel_readPan_5 : decode prog_14_method_23_code 5 = .ok (.imul, 1) := by decide +kernel
theorem dModel_readPan_6 : decode prog_14_method_23_code 6 = .ok (.aload_n 0, 1) := by decide +kernel
theorem dModel_readPan_7 : decode prog_14_method_23_code 7 = .ok (.getfield 160, 3) := by decide +kernel
theorem dModel_readPan_10 : decode prog_14_method_23_code 10 = .ok (.aload_n 0, 1) := by decide +kernel
theorem dModel_readPan_11 : decode prog_14_method_23_code 11 = .ok (.getfield 150, 3) := by decide +kernel
theorem dModel_readPan_14 : decode prog_14_method_23_code 14 = .ok (.iaload, 1) := by decide +kernel
theorem dModel_readPan_15 : decode prog_14_method_23_code 15 = .ok (.iadd, 1) := by decide +kernel
theorem dModel_readPan_16 : decode prog_14_method_23_code 16 = .ok (.istore_n 1, 1) := by decide +kernel
theorem dModel_readPan_17 : decode prog_14_method_23_code 17 = .ok (.aload_n 0, 1) := by decide +kernel
theorem dModel_readPan_18 : decode prog_14_method_23_code 18 = .ok (.getfield 220, 3) := by decide +kernel
theorem dModel_readPan_21 : decode prog_14_method_23_code 21 = .ok (.iload_n 1, 1) := by decide +kernel
theorem dModel_readPan_22 : decode prog_14_method_23_code 22 = .ok (.aload_n 0, 1) := by decide +kernel
theorem dModel_readPan_23 : decode prog_14_method_23_code 23 = .ok (.invokevirtual 229, 3) := by decide +kernel
theorem dModel_readPan_26 : decode prog_14_method_23_code 26 = .ok (.lastore, 1) := by decide +kernel
theorem dModel_readPan_27 : decode prog_14_method_23_code 27 = .ok (.aload_n 0, 1) := by decide +kernel
theorem dModel_readPan_28 : decode prog_14_method_23_code 28 = .ok (.getfield 242, 3) := by decide +kernel
theorem dModel_readPan_31 : decode prog_14_method_23_code 31 = .ok (.iload_n 1, 1) := by decide +kernel
theorem dModel_readPan_32 : decode prog_14_method_23_code 32 = .ok (.aload_n 0, 1) := by decide +kernel
theorem dModel_readPan_33 : decode prog_14_method_23_code 33 = .ok (.invokevirtual 202, 3) := by decide +kernel
theorem dModel_readPan_36 : decode prog_14_method_23_code 36 = .ok (.iastore, 1) := by decide +kernel
theorem dModel_readPan_37 : decode prog_14_method_23_code 37 = .ok (.aload_n 0, 1) := by decide +kernel
theorem dModel_readPan_38 : decode prog_14_method_23_code 38 = .ok (.aload_n 0, 1) := by decide +kernel
theorem dModel_readPan_39 : decode prog_14_method_23_code 39 = .ok (.ldc2_w 29, 3) := by decide +kernel
theorem dModel_readPan_42 : decode prog_14_method_23_code 42 = .ok (.invokevirtual 178, 3) := by decide +kernel
theorem dModel_readPan_45 : decode prog_14_method_23_code 45 = .ok (.invokevirtual 196, 3) := by decide +kernel
theorem dModel_readPan_48 : decode prog_14_method_23_code 48 = .ok (.iconst 0, 1) := by decide +kernel
theorem dModel_readPan_49 : decode prog_14_method_23_code 49 = .ok (.istore_n 2, 1) := by decide +kernel
theorem dModel_readPan_50 : decode prog_14_method_23_code 50 = .ok (.iload_n 2, 1) := by decide +kernel
theorem dModel_readPan_51 : decode prog_14_method_23_code 51 = .ok (.bipush 12, 2) := by decide +kernel
theorem dModel_readPan_53 : decode prog_14_method_23_code 53 = .ok (.if_icmp .ge 28, 3) := by decide +kernel
theorem dModel_readPan_56 : decode prog_14_method_23_code 56 = .ok (.aload_n 0, 1) := by decide +kernel
theorem dModel_readPan_57 : decode prog_14_method_23_code 57 = .ok (.getfield 245, 3) := by decide +kernel
theorem dModel_readPan_60 : decode prog_14_method_23_code 60 = .ok (.bipush 12, 2) := by decide +kernel
theorem dModel_readPan_62 : decode prog_14_method_23_code 62 = .ok (.iload_n 1, 1) := by decide +kernel
theorem dModel_readPan_63 : decode prog_14_method_23_code 63 = .ok (.imul, 1) := by decide +kernel
theorem dModel_readPan_64 : decode prog_14_method_23_code 64 = .ok (.iload_n 2, 1) := by decide +kernel
theorem dModel_readPan_65 : decode prog_14_method_23_code 65 = .ok (.iadd, 1) := by decide +kernel
theorem dModel_readPan_66 : decode prog_14_method_23_code 66 = .ok (.aload_n 0, 1) := by decide +kernel
theorem dModel_readPan_67 : decode prog_14_method_23_code 67 = .ok (.iconst 0, 1) := by decide +kernel
theorem dModel_readPan_68 : decode prog_14_method_23_code 68 = .ok (.sipush 999, 3) := by decide +kernel
theorem dModel_readPan_71 : decode prog_14_method_23_code 71 = .ok (.invokevirtual 212, 3) := by decide +kernel
theorem dModel_readPan_74 : decode prog_14_method_23_code 74 = .ok (.iastore, 1) := by decide +kernel
theorem dModel_readPan_75 : decode prog_14_method_23_code 75 = .ok (.iinc 2 1, 3) := by decide +kernel
theorem dModel_readPan_78 : decode prog_14_method_23_code 78 = .ok (.goto (-28), 3) := by decide +kernel
theorem dModel_readPan_81 : decode prog_14_method_23_code 81 = .ok (.aload_n 0, 1) := by decide +kernel
theorem dModel_readPan_82 : decode prog_14_method_23_code 82 = .ok (.aload_n 0, 1) := by decide +kernel
theorem dModel_readPan_83 : decode prog_14_method_23_code 83 = .ok (.ldc2_w 31, 3) := by decide +kernel
theorem dModel_readPan_86 : decode prog_14_method_23_code 86 = .ok (.invokevirtual 178, 3) := by decide +kernel
theorem dModel_readPan_89 : decode prog_14_method_23_code 89 = .ok (.invokevirtual 196, 3) := by decide +kernel
theorem dModel_readPan_92 : decode prog_14_method_23_code 92 = .ok (.aload_n 0, 1) := by decide +kernel
theorem dModel_readPan_93 : decode prog_14_method_23_code 93 = .ok (.getfield 248, 3) := by decide +kernel
theorem dModel_readPan_96 : decode prog_14_method_23_code 96 = .ok (.iload_n 1, 1) := by decide +kernel
theorem dModel_readPan_97 : decode prog_14_method_23_code 97 = .ok (.iconst 0, 1) := by decide +kernel
theorem dModel_readPan_98 : decode prog_14_method_23_code 98 = .ok (.iastore, 1) := by decide +kernel
theorem dModel_readPan_99 : decode prog_14_method_23_code 99 = .ok (.iconst 1, 1) := by decide +kernel
theorem dModel_readPan_100 : decode prog_14_method_23_code 100 = .ok (.istore_n 2, 1) := by decide +kernel
theorem dModel_readPan_101 : decode prog_14_method_23_code 101 = .ok (.iload_n 2, 1) := by decide +kernel
theorem dModel_readPan_102 : decode prog_14_method_23_code 102 = .ok (.ifCond .eq 81, 3) := by decide +kernel
theorem dModel_readPan_105 : decode prog_14_method_23_code 105 = .ok (.aload_n 0, 1) := by decide +kernel
theorem dModel_readPan_106 : decode prog_14_method_23_code 106 = .ok (.invokevirtual 126, 3) := by decide +kernel
theorem dModel_readPan_109 : decode prog_14_method_23_code 109 = .ok (.ifCond .eq 74, 3) := by decide +kernel
theorem dModel_readPan_112 : decode prog_14_method_23_code 112 = .ok (.aload_n 0, 1) := by decide +kernel
theorem dModel_readPan_113 : decode prog_14_method_23_code 113 = .ok (.getfield 95, 3) := by decide +kernel
theorem dModel_readPan_116 : decode prog_14_method_23_code 116 = .ok (.istore_n 3, 1) := by decide +kernel
theorem dModel_readPan_117 : decode prog_14_method_23_code 117 = .ok (.aload_n 0, 1) := by decide +kernel
theorem dModel_readPan_118 : decode prog_14_method_23_code 118 = .ok (.iconst 0, 1) := by decide +kernel
theorem dModel_readPan_119 : decode prog_14_method_23_code 119 = .ok (.iconst 4, 1) := by decide +kernel
theorem dModel_readPan_120 : decode prog_14_method_23_code 120 = .ok (.invokevirtual 212, 3) := by decide +kernel
theorem dModel_readPan_123 : decode prog_14_method_23_code 123 = .ok (.istore 4, 2) := by decide +kernel
theorem dModel_readPan_125 : decode prog_14_method_23_code 125 = .ok (.aload_n 0, 1) := by decide +kernel
theorem dModel_readPan_126 : decode prog_14_method_23_code 126 = .ok (.invokevirtual 126, 3) := by decide +kernel
theorem dModel_readPan_129 : decode prog_14_method_23_code 129 = .ok (.ifCond .eq 24, 3) := by decide +kernel
theorem dModel_readPan_132 : decode prog_14_method_23_code 132 = .ok (.aload_n 0, 1) := by decide +kernel
theorem dModel_readPan_133 : decode prog_14_method_23_code 133 = .ok (.getfield 248, 3) := by decide +kernel
theorem dModel_readPan_136 : decode prog_14_method_23_code 136 = .ok (.iload_n 1, 1) := by decide +kernel
theorem dModel_readPan_137 : decode prog_14_method_23_code 137 = .ok (.iaload, 1) := by decide +kernel
theorem dModel_readPan_138 : decode prog_14_method_23_code 138 = .ok (.iload 4, 2) := by decide +kernel
theorem dModel_readPan_140 : decode prog_14_method_23_code 140 = .ok (.ishr, 1) := by decide +kernel
theorem dModel_readPan_141 : decode prog_14_method_23_code 141 = .ok (.iconst 1, 1) := by decide +kernel
theorem dModel_readPan_142 : decode prog_14_method_23_code 142 = .ok (.iand, 1) := by decide +kernel
theorem dModel_readPan_143 : decode prog_14_method_23_code 143 = .ok (.iconst 1, 1) := by decide +kernel
theorem dModel_readPan_144 : decode prog_14_method_23_code 144 = .ok (.if_icmp .ne 9, 3) := by decide +kernel
theorem dModel_readPan_147 : decode prog_14_method_23_code 147 = .ok (.aload_n 0, 1) := by decide +kernel
theorem dModel_readPan_148 : decode prog_14_method_23_code 148 = .ok (.iconst 4, 1) := by decide +kernel
theorem dModel_readPan_149 : decode prog_14_method_23_code 149 = .ok (.iload_n 3, 1) := by decide +kernel
theorem dModel_readPan_150 : decode prog_14_method_23_code 150 = .ok (.invokevirtual 122, 3) := by decide +kernel
theorem dModel_readPan_153 : decode prog_14_method_23_code 153 = .ok (.aload_n 0, 1) := by decide +kernel
theorem dModel_readPan_154 : decode prog_14_method_23_code 154 = .ok (.getfield 248, 3) := by decide +kernel
theorem dModel_readPan_157 : decode prog_14_method_23_code 157 = .ok (.iload_n 1, 1) := by decide +kernel
theorem dModel_readPan_158 : decode prog_14_method_23_code 158 = .ok (.dup2, 1) := by decide +kernel
theorem dModel_readPan_159 : decode prog_14_method_23_code 159 = .ok (.iaload, 1) := by decide +kernel
theorem dModel_readPan_160 : decode prog_14_method_23_code 160 = .ok (.iconst 1, 1) := by decide +kernel
theorem dModel_readPan_161 : decode prog_14_method_23_code 161 = .ok (.iload 4, 2) := by decide +kernel
theorem dModel_readPan_163 : decode prog_14_method_23_code 163 = .ok (.ishl, 1) := by decide +kernel
theorem dModel_readPan_164 : decode prog_14_method_23_code 164 = .ok (.ior, 1) := by decide +kernel
theorem dModel_readPan_165 : decode prog_14_method_23_code 165 = .ok (.iastore, 1) := by decide +kernel
theorem dModel_readPan_166 : decode prog_14_method_23_code 166 = .ok (.aload_n 0, 1) := by decide +kernel
theorem dModel_readPan_167 : decode prog_14_method_23_code 167 = .ok (.getfield 98, 3) := by decide +kernel
theorem dModel_readPan_170 : decode prog_14_method_23_code 170 = .ok (.iconst 4, 1) := by decide +kernel
theorem dModel_readPan_171 : decode prog_14_method_23_code 171 = .ok (.if_icmp .ne 7, 3) := by decide +kernel
theorem dModel_readPan_174 : decode prog_14_method_23_code 174 = .ok (.iconst 1, 1) := by decide +kernel
theorem dModel_readPan_175 : decode prog_14_method_23_code 175 = .ok (.goto 4, 3) := by decide +kernel
theorem dModel_readPan_178 : decode prog_14_method_23_code 178 = .ok (.iconst 0, 1) := by decide +kernel
theorem dModel_readPan_179 : decode prog_14_method_23_code 179 = .ok (.istore_n 2, 1) := by decide +kernel
theorem dModel_readPan_180 : decode prog_14_method_23_code 180 = .ok (.goto (-79), 3) := by decide +kernel
theorem dModel_readPan_183 : decode prog_14_method_23_code 183 = .ok (.aload_n 0, 1) := by decide +kernel
theorem dModel_readPan_184 : decode prog_14_method_23_code 184 = .ok (.invokevirtual 126, 3) := by decide +kernel
theorem dModel_readPan_187 : decode prog_14_method_23_code 187 = .ok (.ifCond .eq 16, 3) := by decide +kernel
theorem dModel_readPan_190 : decode prog_14_method_23_code 190 = .ok (.aload_n 0, 1) := by decide +kernel
theorem dModel_readPan_191 : decode prog_14_method_23_code 191 = .ok (.getfield 160, 3) := by decide +kernel
theorem dModel_readPan_194 : decode prog_14_method_23_code 194 = .ok (.aload_n 0, 1) := by decide +kernel
theorem dModel_readPan_195 : decode prog_14_method_23_code 195 = .ok (.getfield 150, 3) := by decide +kernel
theorem dModel_readPan_198 : decode prog_14_method_23_code 198 = .ok (.dup2, 1) := by decide +kernel
theorem dModel_readPan_199 : decode prog_14_method_23_code 199 = .ok (.iaload, 1) := by decide +kernel
theorem dModel_readPan_200 : decode prog_14_method_23_code 200 = .ok (.iconst 1, 1) := by decide +kernel
theorem dModel_readPan_201 : decode prog_14_method_23_code 201 = .ok (.iadd, 1) := by decide +kernel
theorem dModel_readPan_202 : decode prog_14_method_23_code 202 = .ok (.iastore, 1) := by decide +kernel
theorem dModel_readPan_203 : decode prog_14_method_23_code 203 = .ok (.return_, 1) := by decide +kernel
theorem dModel_readTown_0 : decode prog_14_method_24_code 0 = .ok (.iconst 5, 1) := by decide +kernel
theorem dModel_readTown_1 : decode prog_14_method_24_code 1 = .ok (.aload_n 0, 1) := by decide +kernel
theorem dModel_readTown_2 : decode prog_14_method_24_code 2 = .ok (.getfield 150, 3) := by decide +kernel
theorem dModel_readTown_5 : decode prog_14_method_24_code 5 = .ok (.imul, 1) := by decide +kernel
theorem dModel_readTown_6 : decode prog_14_method_24_code 6 = .ok (.aload_n 0, 1) := by decide +kernel
theorem dModel_readTown_7 : decode prog_14_method_24_code 7 = .ok (.getfield 163, 3) := by decide +kernel
theorem dModel_readTown_10 : decode prog_14_method_24_code 10 = .ok (.aload_n 0, 1) := by decide +kernel
theorem dModel_readTown_11 : decode prog_14_method_24_code 11 = .ok (.getfield 150, 3) := by decide +kernel
theorem dModel_readTown_14 : decode prog_14_method_24_code 14 = .ok (.iaload, 1) := by decide +kernel
theorem dModel_readTown_15 : decode prog_14_method_24_code 15 = .ok (.iadd, 1) := by decide +kernel
theorem dModel_readTown_16 : decode prog_14_method_24_code 16 = .ok (.istore_n 1, 1) := by decide +kernel
theorem dModel_readTown_17 : decode prog_14_method_24_code 17 = .ok (.aload_n 0, 1) := by decide +kernel
theorem dModel_readTown_18 : decode prog_14_method_24_code 18 = .ok (.getfield 223, 3) := by decide +kernel
theorem dModel_readTown_21 : decode prog_14_method_24_code 21 = .ok (.iload_n 1, 1) := by decide +kernel
theorem dModel_readTown_22 : decode prog_14_method_24_code 22 = .ok (.aload_n 0, 1) := by decide +kernel
theorem dModel_readTown_23 : decode prog_14_method_24_code 23 = .ok (.invokevirtual 229, 3) := by decide +kernel
theorem dModel_readTown_26 : decode prog_14_method_24_code 26 = .ok (.lastore, 1) := by decide +kernel
theorem dModel_readTown_27 : decode prog_14_method_24_code 27 = .ok (.aload_n 0, 1) := by decide +kernel
theorem dModel_readTown_28 : decode prog_14_method_24_code 28 = .ok (.getfield 251, 3) := by decide +kernel
theorem dModel_readTown_31 : decode prog_14_method_24_code 31 = .ok (.iload_n 1, 1) := by decide +kernel
theorem dModel_readTown_32 : decode prog_14_method_24_code 32 = .ok (.aload_n 0, 1) := by decide +kernel
theorem dModel_readTown_33 : decode prog_14_method_24_code 33 = .ok (.invokevirtual 202, 3) := by decide +kernel
theorem dModel_readTown_36 : decode prog_14_method_24_code 36 = .ok (.iastore, 1) := by decide +kernel
theorem dModel_readTown_37 : decode prog_14_method_24_code 37 = .ok (.aload_n 0, 1) := by decide +kernel
theorem dModel_readTown_38 : decode prog_14_method_24_code 38 = .ok (.aload_n 0, 1) := by decide +kernel
theorem dModel_readTown_39 : decode prog_14_method_24_code 39 = .ok (.ldc2_w 35, 3) := by decide +kernel
theorem dModel_readTown_42 : decode prog_14_method_24_code 42 = .ok (.invokevirtual 178, 3) := by decide +kernel
theorem dModel_readTown_45 : decode prog_14_method_24_code 45 = .ok (.invokevirtual 196, 3) := by decide +kernel
theorem dModel_readTown_48 : decode prog_14_method_24_code 48 = .ok (.aload_n 0, 1) := by decide +kernel
theorem dModel_readTown_49 : decode prog_14_method_24_code 49 = .ok (.getfield 254, 3) := by decide +kernel
theorem dModel_readTown_52 : decode prog_14_method_24_code 52 = .ok (.iload_n 1, 1) := by decide +kernel
theorem dModel_readTown_53 : decode prog_14_method_24_code 53 = .ok (.aload_n 0, 1) := by decide +kernel
theorem dModel_readTown_54 : decode prog_14_method_24_code 54 = .ok (.iconst 0, 1) := by decide +kernel
theorem dModel_readTown_55 : decode prog_14_method_24_code 55 = .ok (.iconst 4, 1) := by decide +kernel
theorem dModel_readTown_56 : decode prog_14_method_24_code 56 = .ok (.invokevirtual 212, 3) := by decide +kernel
theorem dModel_readTown_59 : decode prog_14_method_24_code 59 = .ok (.iastore, 1) := by decide +kernel
theorem dModel_readTown_60 : decode prog_14_method_24_code 60 = .ok (.aload_n 0, 1) := by decide +kernel
theorem dModel_readTown_61 : decode prog_14_method_24_code 61 = .ok (.aload_n 0, 1) := by decide +kernel
theorem dModel_readTown_62 : decode prog_14_method_24_code 62 = .ok (.ldc2_w 37, 3) := by decide +kernel
theorem dModel_readTown_65 : decode prog_14_method_24_code 65 = .ok (.invokevirtual 178, 3) := by decide +kernel
theorem dModel_readTown_68 : decode prog_14_method_24_code 68 = .ok (.invokevirtual 196, 3) := by decide +kernel
theorem dModel_readTown_71 : decode prog_14_method_24_code 71 = .ok (.aload_n 0, 1) := by decide +kernel
theorem dModel_readTown_72 : decode prog_14_method_24_code 72 = .ok (.getfield 257, 3) := by decide +kernel
theorem dModel_readTown_75 : decode prog_14_method_24_code 75 = .ok (.iload_n 1, 1) := by decide +kernel
theorem dModel_readTown_76 : decode prog_14_method_24_code 76 = .ok (.aload_n 0, 1) := by decide +kernel
theorem dModel_readTown_77 : decode prog_14_method_24_code 77 = .ok (.iconst 0, 1) := by decide +kernel
theorem dModel_readTown_78 : decode prog_14_method_24_code 78 = .ok (.sipush 999, 3) := by decide +kernel
theorem dModel_readTown_81 : decode prog_14_method_24_code 81 = .ok (.invokevirtual 212, 3) := by decide +kernel
theorem dModel_readTown_84 : decode prog_14_method_24_code 84 = .ok (.iastore, 1) := by decide +kernel
theorem dModel_readTown_85 : decode prog_14_method_24_code 85 = .ok (.aload_n 0, 1) := by decide +kernel
theorem dModel_readTown_86 : decode prog_14_method_24_code 86 = .ok (.aload_n 0, 1) := by decide +kernel
theorem dModel_readTown_87 : decode prog_14_method_24_code 87 = .ok (.ldc2_w 39, 3) := by decide +kernel
theorem dModel_readTown_90 : decode prog_14_method_24_code 90 = .ok (.invokevirtual 178, 3) := by decide +kernel
theorem dModel_readTown_93 : decode prog_14_method_24_code 93 = .ok (.invokevirtual 196, 3) := by decide +kernel
theorem dModel_readTown_96 : decode prog_14_method_24_code 96 = .ok (.aload_n 0, 1) := by decide +kernel
theorem dModel_readTown_97 : decode prog_14_method_24_code 97 = .ok (.getfield 260, 3) := by decide +kernel
theorem dModel_readTown_100 : decode prog_14_method_24_code 100 = .ok (.iload_n 1, 1) := by decide +kernel
theorem dModel_readTown_101 : decode prog_14_method_24_code 101 = .ok (.aload_n 0, 1) := by decide +kernel
theorem dModel_readTown_102 : decode prog_14_method_24_code 102 = .ok (.iconst 1, 1) := by decide +kernel
theorem dModel_readTown_103 : decode prog_14_method_24_code 103 = .ok (.sipush 999, 3) := by decide +kernel
theorem dModel_readTown_106 : decode prog_14_method_24_code 106 = .ok (.invokevirtual 212, 3) := by decide +kernel
theorem dModel_readTown_109 : decode prog_14_method_24_code 109 = .ok (.iastore, 1) := by decide +kernel
theorem dModel_readTown_110 : decode prog_14_method_24_code 110 = .ok (.aload_n 0, 1) := by decide +kernel
theorem dModel_readTown_111 : decode prog_14_method_24_code 111 = .ok (.aload_n 0, 1) := by decide +kernel
theorem dModel_readTown_112 : decode prog_14_method_24_code 112 = .ok (.ldc2_w 41, 3) := by decide +kernel
theorem dModel_readTown_115 : decode prog_14_method_24_code 115 = .ok (.invokevirtual 178, 3) := by decide +kernel
theorem dModel_readTown_118 : decode prog_14_method_24_code 118 = .ok (.invokevirtual 196, 3) := by decide +kernel
theorem dModel_readTown_121 : decode prog_14_method_24_code 121 = .ok (.aload_n 0, 1) := by decide +kernel
theorem dModel_readTown_122 : decode prog_14_method_24_code 122 = .ok (.getfield 263, 3) := by decide +kernel
theorem dModel_readTown_125 : decode prog_14_method_24_code 125 = .ok (.iload_n 1, 1) := by decide +kernel
theorem dModel_readTown_126 : decode prog_14_method_24_code 126 = .ok (.aload_n 0, 1) := by decide +kernel
theorem dModel_readTown_127 : decode prog_14_method_24_code 127 = .ok (.iconst 0, 1) := by decide +kernel
theorem dModel_readTown_128 : decode prog_14_method_24_code 128 = .ok (.sipush 999, 3) := by decide +kernel
theorem dModel_readTown_131 : decode prog_14_method_24_code 131 = .ok (.invokevirtual 212, 3) := by decide +kernel
theorem dModel_readTown_134 : decode prog_14_method_24_code 134 = .ok (.iastore, 1) := by decide +kernel
theorem dModel_readTown_135 : decode prog_14_method_24_code 135 = .ok (.aload_n 0, 1) := by decide +kernel
theorem dModel_readTown_136 : decode prog_14_method_24_code 136 = .ok (.aload_n 0, 1) := by decide +kernel
theorem dModel_readTown_137 : decode prog_14_method_24_code 137 = .ok (.ldc2_w 43, 3) := by decide +kernel
theorem dModel_readTown_140 : decode prog_14_method_24_code 140 = .ok (.invokevirtual 178, 3) := by decide +kernel
theorem dModel_readTown_143 : decode prog_14_method_24_code 143 = .ok (.invokevirtual 196, 3) := by decide +kernel
theorem dModel_readTown_146 : decode prog_14_method_24_code 146 = .ok (.aload_n 0, 1) := by decide +kernel
theorem dModel_readTown_147 : decode prog_14_method_24_code 147 = .ok (.getfield 266, 3) := by decide +kernel
theorem dModel_readTown_150 : decode prog_14_method_24_code 150 = .ok (.iload_n 1, 1) := by decide +kernel
theorem dModel_readTown_151 : decode prog_14_method_24_code 151 = .ok (.aload_n 0, 1) := by decide +kernel
theorem dModel_readTown_152 : decode prog_14_method_24_code 152 = .ok (.iconst 1, 1) := by decide +kernel
theorem dModel_readTown_153 : decode prog_14_method_24_code 153 = .ok (.bipush 99, 2) := by decide +kernel
theorem dModel_readTown_155 : decode prog_14_method_24_code 155 = .ok (.invokevirtual 212, 3) := by decide +kernel
theorem dModel_readTown_158 : decode prog_14_method_24_code 158 = .ok (.iastore, 1) := by decide +kernel
theorem dModel_readTown_159 : decode prog_14_method_24_code 159 = .ok (.aload_n 0, 1) := by decide +kernel
theorem dModel_readTown_160 : decode prog_14_method_24_code 160 = .ok (.invokevirtual 126, 3) := by decide +kernel
theorem dModel_readTown_163 : decode prog_14_method_24_code 163 = .ok (.ifCond .eq 16, 3) := by decide +kernel
theorem dModel_readTown_166 : decode prog_14_method_24_code 166 = .ok (.aload_n 0, 1) := by decide +kernel
theorem dModel_readTown_167 : decode prog_14_method_24_code 167 = .ok (.getfield 163, 3) := by decide +kernel
theorem dModel_readTown_170 : decode prog_14_method_24_code 170 = .ok (.aload_n 0, 1) := by decide +kernel
theorem dModel_readTown_171 : decode prog_14_method_24_code 171 = .ok (.getfield 150, 3) := by decide +kernel
theorem dModel_readTown_174 : decode prog_14_method_24_code 174 = .ok (.dup2, 1) := by decide +kernel
theorem dModel_readTown_175 : decode prog_14_method_24_code 175 = .ok (.iaload, 1) := by decide +kernel
theorem dModel_readTown_176 : decode prog_14_method_24_code 176 = .ok (.iconst 1, 1) := by decide +kernel
theorem dModel_readTown_177 : decode prog_14_method_24_code 177 = .ok (.iadd, 1) := by decide +kernel
theorem dModel_readTown_178 : decode prog_14_method_24_code 178 = .ok (.iastore, 1) := by decide +kernel
theorem dModel_readTown_179 : decode prog_14_method_24_code 179 = .ok (.return_, 1) := by decide +kernel
theorem dModel_fault_0 : decode prog_14_method_25_code 0 = .ok (.iload_n 1, 1) := by decide +kernel
theorem dModel_fault_1 : decode prog_14_method_25_code 1 = .ok (.ifCond .ne 10, 3) := by decide +kernel
theorem dModel_fault_4 : decode prog_14_method_25_code 4 = .ok (.aload_n 0, 1) := by decide +kernel
theorem dModel_fault_5 : decode prog_14_method_25_code 5 = .ok (.getfield 11, 3) := by decide +kernel
theorem dModel_fault_8 : decode prog_14_method_25_code 8 = .ok (.goto 16, 3) := by decide +kernel
theorem dModel_fault_11 : decode prog_14_method_25_code 11 = .ok (.iload_n 1, 1) := by decide +kernel
theorem dModel_fault_12 : decode prog_14_method_25_code 12 = .ok (.iconst 1, 1) := by decide +kernel
theorem dModel_fault_13 : decode prog_14_method_25_code 13 = .ok (.if_icmp .ne 10, 3) := by decide +kernel
theorem dModel_fault_16 : decode prog_14_method_25_code 16 = .ok (.aload_n 0, 1) := by decide +kernel
theorem dModel_fault_17 : decode prog_14_method_25_code 17 = .ok (.getfield 14, 3) := by decide +kernel
theorem dModel_fault_20 : decode prog_14_method_25_code 20 = .ok (.goto 4, 3) := by decide +kernel
theorem dModel_fault_23 : decode prog_14_method_25_code 23 = .ok (.iconst (-1), 1) := by decide +kernel
theorem dModel_fault_24 : decode prog_14_method_25_code 24 = .ok (.ireturn, 1) := by decide +kernel
theorem dModel_measure_0 : decode prog_14_method_26_code 0 = .ok (.iconst 0, 1) := by decide +kernel
theorem dModel_measure_1 : decode prog_14_method_26_code 1 = .ok (.istore_n 1, 1) := by decide +kernel
theorem dModel_measure_2 : decode prog_14_method_26_code 2 = .ok (.iload_n 1, 1) := by decide +kernel
theorem dModel_measure_3 : decode prog_14_method_26_code 3 = .ok (.sipush 256, 3) := by decide +kernel
theorem dModel_measure_6 : decode prog_14_method_26_code 6 = .ok (.if_icmp .ge 33, 3) := by decide +kernel
theorem dModel_measure_9 : decode prog_14_method_26_code 9 = .ok (.aload_n 0, 1) := by decide +kernel
theorem dModel_measure_10 : decode prog_14_method_26_code 10 = .ok (.getfield 269, 3) := by decide +kernel
theorem dModel_measure_13 : decode prog_14_method_26_code 13 = .ok (.iload_n 1, 1) := by decide +kernel
theorem dModel_measure_14 : decode prog_14_method_26_code 14 = .ok (.iload_n 1, 1) := by decide +kernel
theorem dModel_measure_15 : decode prog_14_method_26_code 15 = .ok (.bipush 16, 2) := by decide +kernel
theorem dModel_measure_17 : decode prog_14_method_26_code 17 = .ok (.idiv, 1) := by decide +kernel
theorem dModel_measure_18 : decode prog_14_method_26_code 18 = .ok (.iload_n 1, 1) := by decide +kernel
theorem dModel_measure_19 : decode prog_14_method_26_code 19 = .ok (.bipush 16, 2) := by decide +kernel
theorem dModel_measure_21 : decode prog_14_method_26_code 21 = .ok (.irem, 1) := by decide +kernel
theorem dModel_measure_22 : decode prog_14_method_26_code 22 = .ok (.if_icmp .ne 7, 3) := by decide +kernel
theorem dModel_measure_25 : decode prog_14_method_26_code 25 = .ok (.iconst 0, 1) := by decide +kernel
theorem dModel_measure_26 : decode prog_14_method_26_code 26 = .ok (.goto 6, 3) := by decide +kernel
theorem dModel_measure_29 : decode prog_14_method_26_code 29 = .ok (.ldc_w 272, 3) := by decide +kernel
theorem dModel_measure_32 : decode prog_14_method_26_code 32 = .ok (.iastore, 1) := by decide +kernel
theorem dModel_measure_33 : decode prog_14_method_26_code 33 = .ok (.iinc 1 1, 3) := by decide +kernel
theorem dModel_measure_36 : decode prog_14_method_26_code 36 = .ok (.goto (-34), 3) := by decide +kernel
theorem dModel_measure_39 : decode prog_14_method_26_code 39 = .ok (.bipush 24, 2) := by decide +kernel
theorem dModel_measure_41 : decode prog_14_method_26_code 41 = .ok (.aload_n 0, 1) := by decide +kernel
theorem dModel_measure_42 : decode prog_14_method_26_code 42 = .ok (.getfield 147, 3) := by decide +kernel
theorem dModel_measure_45 : decode prog_14_method_26_code 45 = .ok (.imul, 1) := by decide +kernel
theorem dModel_measure_46 : decode prog_14_method_26_code 46 = .ok (.istore_n 1, 1) := by decide +kernel
theorem dModel_measure_47 : decode prog_14_method_26_code 47 = .ok (.iload_n 1, 1) := by decide +kernel
theorem dModel_measure_48 : decode prog_14_method_26_code 48 = .ok (.bipush 24, 2) := by decide +kernel
theorem dModel_measure_50 : decode prog_14_method_26_code 50 = .ok (.aload_n 0, 1) := by decide +kernel
theorem dModel_measure_51 : decode prog_14_method_26_code 51 = .ok (.getfield 147, 3) := by decide +kernel
theorem dModel_measure_54 : decode prog_14_method_26_code 54 = .ok (.imul, 1) := by decide +kernel
theorem dModel_measure_55 : decode prog_14_method_26_code 55 = .ok (.aload_n 0, 1) := by decide +kernel
theorem dModel_measure_56 : decode prog_14_method_26_code 56 = .ok (.getfield 153, 3) := by decide +kernel
theorem dModel_measure_59 : decode prog_14_method_26_code 59 = .ok (.aload_n 0, 1) := by decide +kernel
theorem dModel_measure_60 : decode prog_14_method_26_code 60 = .ok (.getfield 147, 3) := by decide +kernel
theorem dModel_measure_63 : decode prog_14_method_26_code 63 = .ok (.iaload, 1) := by decide +kernel
theorem dModel_measure_64 : decode prog_14_method_26_code 64 = .ok (.iadd, 1) := by decide +kernel
theorem dModel_measure_65 : decode prog_14_method_26_code 65 = .ok (.if_icmp .ge 96, 3) := by decide +kernel
theorem dModel_measure_68 : decode prog_14_method_26_code 68 = .ok (.aload_n 0, 1) := by decide +kernel
theorem dModel_measure_69 : decode prog_14_method_26_code 69 = .ok (.getfield 209, 3) := by decide +kernel
theorem dModel_measure_72 : decode prog_14_method_26_code 72 = .ok (.iload_n 1, 1) := by decide +kernel
theorem dModel_measure_73 : decode prog_14_method_26_code 73 = .ok (.iaload, 1) := by decide +kernel
theorem dModel_measure_74 : decode prog_14_method_26_code 74 = .ok (.aload_n 0, 1) := by decide +kernel
theorem dModel_measure_75 : decode prog_14_method_26_code 75 = .ok (.getfield 269, 3) := by decide +kernel
theorem dModel_measure_78 : decode prog_14_method_26_code 78 = .ok (.bipush 16, 2) := by decide +kernel
theorem dModel_measure_80 : decode prog_14_method_26_code 80 = .ok (.aload_n 0, 1) := by decide +kernel
theorem dModel_measure_81 : decode prog_14_method_26_code 81 = .ok (.getfield 199, 3) := by decide +kernel
theorem dModel_measure_84 : decode prog_14_method_26_code 84 = .ok (.iload_n 1, 1) := by decide +kernel
theorem dModel_measure_85 : decode prog_14_method_26_code 85 = .ok (.iaload, 1) := by decide +kernel
theorem dModel_measure_86 : decode prog_14_method_26_code 86 = .ok (.imul, 1) := by decide +kernel
theorem dModel_measure_87 : decode prog_14_method_26_code 87 = .ok (.aload_n 0, 1) := by decide +kernel
theorem dModel_measure_88 : decode prog_14_method_26_code 88 = .ok (.getfield 206, 3) := by decide +kernel
theorem dModel_measure_91 : decode prog_14_method_26_code 91 = .ok (.iload_n 1, 1) := by decide +kernel
theorem dModel_measure_92 : decode prog_14_method_26_code 92 = .ok (.iaload, 1) := by decide +kernel
theorem dModel_measure_93 : decode prog_14_method_26_code 93 = .ok (.iadd, 1) := by decide +kernel
theorem dModel_measure_94 : decode prog_14_method_26_code 94 = .ok (.iaload, 1) := by decide +kernel
theorem dModel_measure_95 : decode prog_14_method_26_code 95 = .ok (.if_icmp .lt 6, 3) := by decide +kernel
theorem dModel_measure_98 : decode prog_14_method_26_code 98 = .ok (.goto 57, 3) := by decide +kernel
theorem dModel_measure_101 : decode prog_14_method_26_code 101 = .ok (.aload_n 0, 1) := by decide +kernel
theorem dModel_measure_102 : decode prog_14_method_26_code 102 = .ok (.getfield 269, 3) := by decide +kernel
theorem dModel_measure_105 : decode prog_14_method_26_code 105 = .ok (.bipush 16, 2) := by decide +kernel
theorem dModel_measure_107 : decode prog_14_method_26_code 107 = .ok (.aload_n 0, 1) := by decide +kernel
theorem dModel_measure_108 : decode prog_14_method_26_code 108 = .ok (.getfield 199, 3) := by decide +kernel
theorem dModel_measure_111 : decode prog_14_method_26_code 111 = .ok (.iload_n 1, 1) := by decide +kernel
theorem dModel_measure_112 : decode prog_14_method_26_code 112 = .ok (.iaload, 1) := by decide +kernel
theorem dModel_measure_113 : decode prog_14_method_26_code 113 = .ok (.imul, 1) := by decide +kernel
theorem dModel_measure_114 : decode prog_14_method_26_code 114 = .ok (.aload_n 0, 1) := by decide +kernel
theorem dModel_measure_115 : decode prog_14_method_26_code 115 = .ok (.getfield 206, 3) := by decide +kernel
theorem dModel_measure_118 : decode prog_14_method_26_code 118 = .ok (.iload_n 1, 1) := by decide +kernel
theorem dModel_measure_119 : decode prog_14_method_26_code 119 = .ok (.iaload, 1) := by decide +kernel
theorem dModel_measure_120 : decode prog_14_method_26_code 120 = .ok (.iadd, 1) := by decide +kernel
theorem dModel_measure_121 : decode prog_14_method_26_code 121 = .ok (.aload_n 0, 1) := by decide +kernel
theorem dModel_measure_122 : decode prog_14_method_26_code 122 = .ok (.getfield 209, 3) := by decide +kernel
theorem dModel_measure_125 : decode prog_14_method_26_code 125 = .ok (.iload_n 1, 1) := by decide +kernel
theorem dModel_measure_126 : decode prog_14_method_26_code 126 = .ok (.iaload, 1) := by decide +kernel
theorem dModel_measure_127 : decode prog_14_method_26_code 127 = .ok (.iastore, 1) := by decide +kernel
theorem dModel_measure_128 : decode prog_14_method_26_code 128 = .ok (.aload_n 0, 1) := by decide +kernel
theorem dModel_measure_129 : decode prog_14_method_26_code 129 = .ok (.getfield 269, 3) := by decide +kernel
theorem dModel_measure_132 : decode prog_14_method_26_code 132 = .ok (.bipush 16, 2) := by decide +kernel
theorem dModel_measure_134 : decode prog_14_method_26_code 134 = .ok (.aload_n 0, 1) := by decide +kernel
theorem dModel_measure_135 : decode prog_14_method_26_code 135 = .ok (.getfield 206, 3) := by decide +kernel
theorem dModel_measure_138 : decode prog_14_method_26_code 138 = .ok (.iload_n 1, 1) := by decide +kernel
theorem dModel_measure_139 : decode prog_14_method_26_code 139 = .ok (.iaload, 1) := by decide +kernel
theorem dModel_measure_140 : decode prog_14_method_26_code 140 = .ok (.imul, 1) := by decide +kernel
theorem dModel_measure_141 : decode prog_14_method_26_code 141 = .ok (.aload_n 0, 1) := by decide +kernel
theorem dModel_measure_142 : decode prog_14_method_26_code 142 = .ok (.getfield 199, 3) := by decide +kernel
theorem dModel_measure_145 : decode prog_14_method_26_code 145 = .ok (.iload_n 1, 1) := by decide +kernel
theorem dModel_measure_146 : decode prog_14_method_26_code 146 = .ok (.iaload, 1) := by decide +kernel
theorem dModel_measure_147 : decode prog_14_method_26_code 147 = .ok (.iadd, 1) := by decide +kernel
theorem dModel_measure_148 : decode prog_14_method_26_code 148 = .ok (.aload_n 0, 1) := by decide +kernel
theorem dModel_measure_149 : decode prog_14_method_26_code 149 = .ok (.getfield 209, 3) := by decide +kernel
theorem dModel_measure_152 : decode prog_14_method_26_code 152 = .ok (.iload_n 1, 1) := by decide +kernel
theorem dModel_measure_153 : decode prog_14_method_26_code 153 = .ok (.iaload, 1) := by decide +kernel
theorem dModel_measure_154 : decode prog_14_method_26_code 154 = .ok (.iastore, 1) := by decide +kernel
theorem dModel_measure_155 : decode prog_14_method_26_code 155 = .ok (.iinc 1 1, 3) := by decide +kernel
theorem dModel_measure_158 : decode prog_14_method_26_code 158 = .ok (.goto (-111), 3) := by decide +kernel
theorem dModel_measure_161 : decode prog_14_method_26_code 161 = .ok (.iconst 0, 1) := by decide +kernel
theorem dModel_measure_162 : decode prog_14_method_26_code 162 = .ok (.istore_n 1, 1) := by decide +kernel
theorem dModel_measure_163 : decode prog_14_method_26_code 163 = .ok (.iload_n 1, 1) := by decide +kernel
theorem dModel_measure_164 : decode prog_14_method_26_code 164 = .ok (.bipush 16, 2) := by decide +kernel
theorem dModel_measure_166 : decode prog_14_method_26_code 166 = .ok (.if_icmp .ge 91, 3) := by decide +kernel
theorem dModel_measure_169 : decode prog_14_method_26_code 169 = .ok (.iconst 0, 1) := by decide +kernel
theorem dModel_measure_170 : decode prog_14_method_26_code 170 = .ok (.istore_n 2, 1) := by decide +kernel
theorem dModel_measure_171 : decode prog_14_method_26_code 171 = .ok (.iload_n 2, 1) := by decide +kernel
theorem dModel_measure_172 : decode prog_14_method_26_code 172 = .ok (.bipush 16, 2) := by decide +kernel
theorem dModel_measure_174 : decode prog_14_method_26_code 174 = .ok (.if_icmp .ge 77, 3) := by decide +kernel
theorem dModel_measure_177 : decode prog_14_method_26_code 177 = .ok (.iconst 0, 1) := by decide +kernel
theorem dModel_measure_178 : decode prog_14_method_26_code 178 = .ok (.istore_n 3, 1) := by decide +kernel
theorem dModel_measure_179 : decode prog_14_method_26_code 179 = .ok (.iload_n 3, 1) := by decide +kernel
theorem dModel_measure_180 : decode prog_14_method_26_code 180 = .ok (.bipush 16, 2) := by decide +kernel
theorem dModel_measure_182 : decode prog_14_method_26_code 182 = .ok (.if_icmp .ge 63, 3) := by decide +kernel
theorem dModel_measure_185 : decode prog_14_method_26_code 185 = .ok (.aload_n 0, 1) := by decide +kernel
theorem dModel_measure_186 : decode prog_14_method_26_code 186 = .ok (.getfield 269, 3) := by decide +kernel
theorem dModel_measure_189 : decode prog_14_method_26_code 189 = .ok (.bipush 16, 2) := by decide +kernel
theorem dModel_measure_191 : decode prog_14_method_26_code 191 = .ok (.iload_n 2, 1) := by decide +kernel
theorem dModel_measure_192 : decode prog_14_method_26_code 192 = .ok (.imul, 1) := by decide +kernel
theorem dModel_measure_193 : decode prog_14_method_26_code 193 = .ok (.iload_n 1, 1) := by decide +kernel
theorem dModel_measure_194 : decode prog_14_method_26_code 194 = .ok (.iadd, 1) := by decide +kernel
theorem dModel_measure_195 : decode prog_14_method_26_code 195 = .ok (.iaload, 1) := by decide +kernel
theorem dModel_measure_196 : decode prog_14_method_26_code 196 = .ok (.aload_n 0, 1) := by decide +kernel
theorem dModel_measure_197 : decode prog_14_method_26_code 197 = .ok (.getfield 269, 3) := by decide +kernel
theorem dModel_measure_200 : decode prog_14_method_26_code 200 = .ok (.bipush 16, 2) := by decide +kernel
theorem dModel_measure_202 : decode prog_14_method_26_code 202 = .ok (.iload_n 1, 1) := by decide +kernel
theorem dModel_measure_203 : decode prog_14_method_26_code 203 = .ok (.imul, 1) := by decide +kernel
theorem dModel_measure_204 : decode prog_14_method_26_code 204 = .ok (.iload_n 3, 1) := by decide +kernel
theorem dModel_measure_205 : decode prog_14_method_26_code 205 = .ok (.iadd, 1) := by decide +kernel
theorem dModel_measure_206 : decode prog_14_method_26_code 206 = .ok (.iaload, 1) := by decide +kernel
theorem dModel_measure_207 : decode prog_14_method_26_code 207 = .ok (.iadd, 1) := by decide +kernel
theorem dModel_measure_208 : decode prog_14_method_26_code 208 = .ok (.istore 4, 2) := by decide +kernel
theorem dModel_measure_210 : decode prog_14_method_26_code 210 = .ok (.iload 4, 2) := by decide +kernel
theorem dModel_measure_212 : decode prog_14_method_26_code 212 = .ok (.aload_n 0, 1) := by decide +kernel
theorem dModel_measure_213 : decode prog_14_method_26_code 213 = .ok (.getfield 269, 3) := by decide +kernel
theorem dModel_measure_216 : decode prog_14_method_26_code 216 = .ok (.bipush 16, 2) := by decide +kernel
theorem dModel_measure_218 : decode prog_14_method_26_code 218 = .ok (.iload_n 2, 1) := by decide +kernel
theorem dModel_measure_219 : decode prog_14_method_26_code 219 = .ok (.imul, 1) := by decide +kernel
theorem dModel_measure_220 : decode prog_14_method_26_code 220 = .ok (.iload_n 3, 1) := by decide +kernel
theorem dModel_measure_221 : decode prog_14_method_26_code 221 = .ok (.iadd, 1) := by decide +kernel
theorem dModel_measure_222 : decode prog_14_method_26_code 222 = .ok (.iaload, 1) := by decide +kernel
theorem dModel_measure_223 : decode prog_14_method_26_code 223 = .ok (.if_icmp .ge 16, 3) := by decide +kernel
theorem dModel_measure_226 : decode prog_14_method_26_code 226 = .ok (.aload_n 0, 1) := by decide +kernel
theorem dModel_measure_227 : decode prog_14_method_26_code 227 = .ok (.getfield 269, 3) := by decide +kernel
theorem dModel_measure_230 : decode prog_14_method_26_code 230 = .ok (.bipush 16, 2) := by decide +kernel
theorem dModel_measure_232 : decode prog_14_method_26_code 232 = .ok (.iload_n 2, 1) := by decide +kernel
theorem dModel_measure_233 : decode prog_14_method_26_code 233 = .ok (.imul, 1) := by decide +kernel
theorem dModel_measure_234 : decode prog_14_method_26_code 234 = .ok (.iload_n 3, 1) := by decide +kernel
theorem dModel_measure_235 : decode prog_14_method_26_code 235 = .ok (.iadd, 1) := by decide +kernel
theorem dModel_measure_236 : decode prog_14_method_26_code 236 = .ok (.iload 4, 2) := by decide +kernel
theorem dModel_measure_238 : decode prog_14_method_26_code 238 = .ok (.iastore, 1) := by decide +kernel
theorem dModel_measure_239 : decode prog_14_method_26_code 239 = .ok (.iinc 3 1, 3) := by decide +kernel
theorem dModel_measure_242 : decode prog_14_method_26_code 242 = .ok (.goto (-63), 3) := by decide +kernel
theorem dModel_measure_245 : decode prog_14_method_26_code 245 = .ok (.iinc 2 1, 3) := by decide +kernel
theorem dModel_measure_248 : decode prog_14_method_26_code 248 = .ok (.goto (-77), 3) := by decide +kernel
theorem dModel_measure_251 : decode prog_14_method_26_code 251 = .ok (.iinc 1 1, 3) := by decide +kernel
theorem dModel_measure_254 : decode prog_14_method_26_code 254 = .ok (.goto (-91), 3) := by decide +kernel
theorem dModel_measure_257 : decode prog_14_method_26_code 257 = .ok (.return_, 1) := by decide +kernel
theorem dModel_isPoint_0 : decode prog_14_method_27_code 0 = .ok (.iload_n 0, 1) := by decide +kernel
theorem dModel_isPoint_1 : decode prog_14_method_27_code 1 = .ok (.ifCond .lt 13, 3) := by decide +kernel
theorem dModel_isPoint_4 : decode prog_14_method_27_code 4 = .ok (.iload_n 0, 1) := by decide +kernel
theorem dModel_isPoint_5 : decode prog_14_method_27_code 5 = .ok (.bipush 16, 2) := by decide +kernel
theorem dModel_isPoint_7 : decode prog_14_method_27_code 7 = .ok (.if_icmp .ge 7, 3) := by decide +kernel
theorem dModel_isPoint_10 : decode prog_14_method_27_code 10 = .ok (.iconst 1, 1) := by decide +kernel
theorem dModel_isPoint_11 : decode prog_14_method_27_code 11 = .ok (.goto 4, 3) := by decide +kernel
theorem dModel_isPoint_14 : decode prog_14_method_27_code 14 = .ok (.iconst 0, 1) := by decide +kernel
theorem dModel_isPoint_15 : decode prog_14_method_27_code 15 = .ok (.ireturn, 1) := by decide +kernel
theorem dModel_days_0 : decode prog_14_method_28_code 0 = .ok (.iload_n 1, 1) := by decide +kernel
theorem dModel_days_1 : decode prog_14_method_28_code 1 = .ok (.invokestatic 273, 3) := by decide +kernel
theorem dModel_days_4 : decode prog_14_method_28_code 4 = .ok (.ifCond .eq 27, 3) := by decide +kernel
theorem dModel_days_7 : decode prog_14_method_28_code 7 = .ok (.iload_n 2, 1) := by decide +kernel
theorem dModel_days_8 : decode prog_14_method_28_code 8 = .ok (.invokestatic 273, 3) := by decide +kernel
theorem dModel_days_11 : decode prog_14_method_28_code 11 = .ok (.ifCond .eq 20, 3) := by decide +kernel
theorem dModel_days_14 : decode prog_14_method_28_code 14 = .ok (.aload_n 0, 1) := by decide +kernel
theorem dModel_days_15 : decode prog_14_method_28_code 15 = .ok (.getfield 269, 3) := by decide +kernel
theorem dModel_days_18 : decode prog_14_method_28_code 18 = .ok (.bipush 16, 2) := by decide +kernel
theorem dModel_days_20 : decode prog_14_method_28_code 20 = .ok (.iload_n 1, 1) := by decide +kernel
theorem dModel_days_21 : decode prog_14_method_28_code 21 = .ok (.imul, 1) := by decide +kernel
theorem dModel_days_22 : decode prog_14_method_28_code 22 = .ok (.iload_n 2, 1) := by decide +kernel
theorem dModel_days_23 : decode prog_14_method_28_code 23 = .ok (.iadd, 1) := by decide +kernel
theorem dModel_days_24 : decode prog_14_method_28_code 24 = .ok (.iaload, 1) := by decide +kernel
theorem dModel_days_25 : decode prog_14_method_28_code 25 = .ok (.ldc_w 272, 3) := by decide +kernel
theorem dModel_days_28 : decode prog_14_method_28_code 28 = .ok (.if_icmp .lt 7, 3) := by decide +kernel
theorem dModel_days_31 : decode prog_14_method_28_code 31 = .ok (.iconst (-1), 1) := by decide +kernel
theorem dModel_days_32 : decode prog_14_method_28_code 32 = .ok (.goto 14, 3) := by decide +kernel
theorem dModel_days_35 : decode prog_14_method_28_code 35 = .ok (.aload_n 0, 1) := by decide +kernel
theorem dModel_days_36 : decode prog_14_method_28_code 36 = .ok (.getfield 269, 3) := by decide +kernel
theorem dModel_days_39 : decode prog_14_method_28_code 39 = .ok (.bipush 16, 2) := by decide +kernel
theorem dModel_days_41 : decode prog_14_method_28_code 41 = .ok (.iload_n 1, 1) := by decide +kernel
theorem dModel_days_42 : decode prog_14_method_28_code 42 = .ok (.imul, 1) := by decide +kernel
theorem dModel_days_43 : decode prog_14_method_28_code 43 = .ok (.iload_n 2, 1) := by decide +kernel
theorem dModel_days_44 : decode prog_14_method_28_code 44 = .ok (.iadd, 1) := by decide +kernel
theorem dModel_days_45 : decode prog_14_method_28_code 45 = .ok (.iaload, 1) := by decide +kernel
theorem dModel_days_46 : decode prog_14_method_28_code 46 = .ok (.ireturn, 1) := by decide +kernel
theorem dModel_forts_0 : decode prog_14_method_29_code 0 = .ok (.aload_n 0, 1) := by decide +kernel
theorem dModel_forts_1 : decode prog_14_method_29_code 1 = .ok (.getfield 157, 3) := by decide +kernel
theorem dModel_forts_4 : decode prog_14_method_29_code 4 = .ok (.aload_n 0, 1) := by decide +kernel
theorem dModel_forts_5 : decode prog_14_method_29_code 5 = .ok (.getfield 147, 3) := by decide +kernel
theorem dModel_forts_8 : decode prog_14_method_29_code 8 = .ok (.iaload, 1) := by decide +kernel
theorem dModel_forts_9 : decode prog_14_method_29_code 9 = .ok (.ireturn, 1) := by decide +kernel
theorem dModel_pans_0 : decode prog_14_method_30_code 0 = .ok (.aload_n 0, 1) := by decide +kernel
theorem dModel_pans_1 : decode prog_14_method_30_code 1 = .ok (.getfield 160, 3) := by decide +kernel
theorem dModel_pans_4 : decode prog_14_method_30_code 4 = .ok (.aload_n 0, 1) := by decide +kernel
theorem dModel_pans_5 : decode prog_14_method_30_code 5 = .ok (.getfield 147, 3) := by decide +kernel
theorem dModel_pans_8 : decode prog_14_method_30_code 8 = .ok (.iaload, 1) := by decide +kernel
theorem dModel_pans_9 : decode prog_14_method_30_code 9 = .ok (.ireturn, 1) := by decide +kernel
theorem dModel_towns_0 : decode prog_14_method_31_code 0 = .ok (.aload_n 0, 1) := by decide +kernel
theorem dModel_towns_1 : decode prog_14_method_31_code 1 = .ok (.getfield 163, 3) := by decide +kernel
theorem dModel_towns_4 : decode prog_14_method_31_code 4 = .ok (.aload_n 0, 1) := by decide +kernel
theorem dModel_towns_5 : decode prog_14_method_31_code 5 = .ok (.getfield 147, 3) := by decide +kernel
theorem dModel_towns_8 : decode prog_14_method_31_code 8 = .ok (.iaload, 1) := by decide +kernel
theorem dModel_towns_9 : decode prog_14_method_31_code 9 = .ok (.ireturn, 1) := by decide +kernel
theorem dModel_fortAt_0 : decode prog_14_method_32_code 0 = .ok (.aload_n 0, 1) := by decide +kernel
theorem dModel_fortAt_1 : decode prog_14_method_32_code 1 = .ok (.getfield 233, 3) := by decide +kernel
theorem dModel_fortAt_4 : decode prog_14_method_32_code 4 = .ok (.iconst 3, 1) := by decide +kernel
theorem dModel_fortAt_5 : decode prog_14_method_32_code 5 = .ok (.aload_n 0, 1) := by decide +kernel
theorem dModel_fortAt_6 : decode prog_14_method_32_code 6 = .ok (.getfield 147, 3) := by decide +kernel
theorem dModel_fortAt_9 : decode prog_14_method_32_code 9 = .ok (.imul, 1) := by decide +kernel
theorem dModel_fortAt_10 : decode prog_14_method_32_code 10 = .ok (.iload_n 1, 1) := by decide +kernel
theorem dModel_fortAt_11 : decode prog_14_method_32_code 11 = .ok (.iadd, 1) := by decide +kernel
theorem dModel_fortAt_12 : decode prog_14_method_32_code 12 = .ok (.iaload, 1) := by decide +kernel
theorem dModel_fortAt_13 : decode prog_14_method_32_code 13 = .ok (.ireturn, 1) := by decide +kernel
theorem dModel_panAt_0 : decode prog_14_method_33_code 0 = .ok (.aload_n 0, 1) := by decide +kernel
theorem dModel_panAt_1 : decode prog_14_method_33_code 1 = .ok (.getfield 242, 3) := by decide +kernel
theorem dModel_panAt_4 : decode prog_14_method_33_code 4 = .ok (.iconst 3, 1) := by decide +kernel
theorem dModel_panAt_5 : decode prog_14_method_33_code 5 = .ok (.aload_n 0, 1) := by decide +kernel
theorem dModel_panAt_6 : decode prog_14_method_33_code 6 = .ok (.getfield 147, 3) := by decide +kernel
theorem dModel_panAt_9 : decode prog_14_method_33_code 9 = .ok (.imul, 1) := by decide +kernel
theorem dModel_panAt_10 : decode prog_14_method_33_code 10 = .ok (.iload_n 1, 1) := by decide +kernel
theorem dModel_panAt_11 : decode prog_14_method_33_code 11 = .ok (.iadd, 1) := by decide +kernel
theorem dModel_panAt_12 : decode prog_14_method_33_code 12 = .ok (.iaload, 1) := by decide +kernel
theorem dModel_panAt_13 : decode prog_14_method_33_code 13 = .ok (.ireturn, 1) := by decide +kernel
theorem dModel_townAt_0 : decode prog_14_method_34_code 0 = .ok (.aload_n 0, 1) := by decide +kernel
theorem dModel_townAt_1 : decode prog_14_method_34_code 1 = .ok (.getfield 251, 3) := by decide +kernel
theorem dModel_townAt_4 : decode prog_14_method_34_code 4 = .ok (.iconst 5, 1) := by decide +kernel
theorem dModel_townAt_5 : decode prog_14_method_34_code 5 = .ok (.aload_n 0, 1) := by decide +kernel
theorem dModel_townAt_6 : decode prog_14_method_34_code 6 = .ok (.getfield 147, 3) := by decide +kernel
theorem dModel_townAt_9 : decode prog_14_method_34_code 9 = .ok (.imul, 1) := by decide +kernel
theorem dModel_townAt_10 : decode prog_14_method_34_code 10 = .ok (.iload_n 1, 1) := by decide +kernel
theorem dModel_townAt_11 : decode prog_14_method_34_code 11 = .ok (.iadd, 1) := by decide +kernel
theorem dModel_townAt_12 : decode prog_14_method_34_code 12 = .ok (.iaload, 1) := by decide +kernel
theorem dModel_townAt_13 : decode prog_14_method_34_code 13 = .ok (.ireturn, 1) := by decide +kernel
theorem dModel_reform_0 : decode prog_14_method_35_code 0 = .ok (.aload_n 0, 1) := by decide +kernel
theorem dModel_reform_1 : decode prog_14_method_35_code 1 = .ok (.getfield 137, 3) := by decide +kernel
theorem dModel_reform_4 : decode prog_14_method_35_code 4 = .ok (.sipush 700, 3) := by decide +kernel
theorem dModel_reform_7 : decode prog_14_method_35_code 7 = .ok (.if_icmp .gt 12, 3) := by decide +kernel
theorem dModel_reform_10 : decode prog_14_method_35_code 10 = .ok (.iload_n 1, 1) := by decide +kernel
theorem dModel_reform_11 : decode prog_14_method_35_code 11 = .ok (.ifCond .lt 8, 3) := by decide +kernel
theorem dModel_reform_14 : decode prog_14_method_35_code 14 = .ok (.iload_n 1, 1) := by decide +kernel
theorem dModel_reform_15 : decode prog_14_method_35_code 15 = .ok (.iconst 4, 1) := by decide +kernel
theorem dModel_reform_16 : decode prog_14_method_35_code 16 = .ok (.if_icmp .lt 6, 3) := by decide +kernel
theorem dModel_reform_19 : decode prog_14_method_35_code 19 = .ok (.bipush (-2), 2) := by decide +kernel
theorem dModel_reform_21 : decode prog_14_method_35_code 21 = .ok (.ireturn, 1) := by decide +kernel
theorem dModel_reform_22 : decode prog_14_method_35_code 22 = .ok (.aload_n 0, 1) := by decide +kernel
theorem dModel_reform_23 : decode prog_14_method_35_code 23 = .ok (.iconst 1, 1) := by decide +kernel
theorem dModel_reform_24 : decode prog_14_method_35_code 24 = .ok (.invokevirtual 143, 3) := by decide +kernel
theorem dModel_reform_27 : decode prog_14_method_35_code 27 = .ok (.aload_n 0, 1) := by decide +kernel
theorem dModel_reform_28 : decode prog_14_method_35_code 28 = .ok (.iconst 4, 1) := by decide +kernel
theorem dModel_reform_29 : decode prog_14_method_35_code 29 = .ok (.putfield 276, 3) := by decide +kernel
theorem dModel_reform_32 : decode prog_14_method_35_code 32 = .ok (.aload_n 0, 1) := by decide +kernel
theorem dModel_reform_33 : decode prog_14_method_35_code 33 = .ok (.getfield 279, 3) := by decide +kernel
theorem dModel_reform_36 : decode prog_14_method_35_code 36 = .ok (.aload_n 0, 1) := by decide +kernel
theorem dModel_reform_37 : decode prog_14_method_35_code 37 = .ok (.getfield 276, 3) := by decide +kernel
theorem dModel_reform_40 : decode prog_14_method_35_code 40 = .ok (.iconst 0, 1) := by decide +kernel
theorem dModel_reform_41 : decode prog_14_method_35_code 41 = .ok (.iastore, 1) := by decide +kernel
theorem dModel_reform_42 : decode prog_14_method_35_code 42 = .ok (.aload_n 0, 1) := by decide +kernel
theorem dModel_reform_43 : decode prog_14_method_35_code 43 = .ok (.getfield 282, 3) := by decide +kernel
theorem dModel_reform_46 : decode prog_14_method_35_code 46 = .ok (.aload_n 0, 1) := by decide +kernel
theorem dModel_reform_47 : decode prog_14_method_35_code 47 = .ok (.getfield 276, 3) := by decide +kernel
theorem dModel_reform_50 : decode prog_14_method_35_code 50 = .ok (.iconst 0, 1) := by decide +kernel
theorem dModel_reform_51 : decode prog_14_method_35_code 51 = .ok (.iastore, 1) := by decide +kernel
theorem dModel_reform_52 : decode prog_14_method_35_code 52 = .ok (.iconst 0, 1) := by decide +kernel
theorem dModel_reform_53 : decode prog_14_method_35_code 53 = .ok (.istore_n 2, 1) := by decide +kernel
theorem dModel_reform_54 : decode prog_14_method_35_code 54 = .ok (.iload_n 2, 1) := by decide +kernel
theorem dModel_reform_55 : decode prog_14_method_35_code 55 = .ok (.bipush 10, 2) := by decide +kernel
theorem dModel_reform_57 : decode prog_14_method_35_code 57 = .ok (.if_icmp .ge 24, 3) := by decide +kernel
theorem dModel_reform_60 : decode prog_14_method_35_code 60 = .ok (.aload_n 0, 1) := by decide +kernel
theorem dModel_reform_61 : decode prog_14_method_35_code 61 = .ok (.getfield 285, 3) := by decide +kernel
theorem dModel_reform_64 : decode prog_14_method_35_code 64 = .ok (.bipush 10, 2) := by decide +kernel
theorem dModel_reform_66 : decode prog_14_method_35_code 66 = .ok (.aload_n 0, 1) := by decide +kernel
theorem dModel_reform_67 : decode prog_14_method_35_code 67 = .ok (.getfield 276, 3) := by decide +kernel
theorem dModel_reform_70 : decode prog_14_method_35_code 70 = .ok (.imul, 1) := by decide +kernel
theorem dModel_reform_71 : decode prog_14_method_35_code 71 = .ok (.iload_n 2, 1) := by decide +kernel
theorem dModel_reform_72 : decode prog_14_method_35_code 72 = .ok (.iadd, 1) := by decide +kernel
theorem dModel_reform_73 : decode prog_14_method_35_code 73 = .ok (.iconst (-1), 1) := by decide +kernel
theorem dModel_reform_74 : decode prog_14_method_35_code 74 = .ok (.iastore, 1) := by decide +kernel
theorem dModel_reform_75 : decode prog_14_method_35_code 75 = .ok (.iinc 2 1, 3) := by decide +kernel
theorem dModel_reform_78 : decode prog_14_method_35_code 78 = .ok (.goto (-24), 3) := by decide +kernel
theorem dModel_reform_81 : decode prog_14_method_35_code 81 = .ok (.aload_n 0, 1) := by decide +kernel
theorem dModel_reform_82 : decode prog_14_method_35_code 82 = .ok (.iconst 0, 1) := by decide +kernel
theorem dModel_reform_83 : decode prog_14_method_35_code 83 = .ok (.putfield 288, 3) := by decide +kernel
theorem dModel_reform_86 : decode prog_14_method_35_code 86 = .ok (.aload_n 0, 1) := by decide +kernel
theorem dModel_reform_87 : decode prog_14_method_35_code 87 = .ok (.iconst 0, 1) := by decide +kernel
theorem dModel_reform_88 : decode prog_14_method_35_code 88 = .ok (.putfield 291, 3) := by decide +kernel
theorem dModel_reform_91 : decode prog_14_method_35_code 91 = .ok (.aload_n 0, 1) := by decide +kernel
theorem dModel_reform_92 : decode prog_14_method_35_code 92 = .ok (.invokevirtual 130, 3) := by decide +kernel
theorem dModel_reform_95 : decode prog_14_method_35_code 95 = .ok (.aload_n 0, 1) := by decide +kernel
theorem dModel_reform_96 : decode prog_14_method_35_code 96 = .ok (.invokevirtual 126, 3) := by decide +kernel
theorem dModel_reform_99 : decode prog_14_method_35_code 99 = .ok (.ifCond .eq 17, 3) := by decide +kernel
theorem dModel_reform_102 : decode prog_14_method_35_code 102 = .ok (.aload_n 0, 1) := by decide +kernel
theorem dModel_reform_103 : decode prog_14_method_35_code 103 = .ok (.getfield 98, 3) := by decide +kernel
theorem dModel_reform_106 : decode prog_14_method_35_code 106 = .ok (.ifCond .eq 10, 3) := by decide +kernel
theorem dModel_reform_109 : decode prog_14_method_35_code 109 = .ok (.aload_n 0, 1) := by decide +kernel
theorem dModel_reform_110 : decode prog_14_method_35_code 110 = .ok (.invokevirtual 294, 3) := by decide +kernel
theorem dModel_reform_113 : decode prog_14_method_35_code 113 = .ok (.goto (-18), 3) := by decide +kernel
theorem dModel_reform_116 : decode prog_14_method_35_code 116 = .ok (.aload_n 0, 1) := by decide +kernel
theorem dModel_reform_117 : decode prog_14_method_35_code 117 = .ok (.invokevirtual 126, 3) := by decide +kernel
theorem dModel_reform_120 : decode prog_14_method_35_code 120 = .ok (.ifCond .ne 5, 3) := by decide +kernel
theorem dModel_reform_123 : decode prog_14_method_35_code 123 = .ok (.iconst (-1), 1) := by decide +kernel
theorem dModel_reform_124 : decode prog_14_method_35_code 124 = .ok (.ireturn, 1) := by decide +kernel
theorem dModel_reform_125 : decode prog_14_method_35_code 125 = .ok (.aload_n 0, 1) := by decide +kernel
theorem dModel_reform_126 : decode prog_14_method_35_code 126 = .ok (.aload_n 0, 1) := by decide +kernel
theorem dModel_reform_127 : decode prog_14_method_35_code 127 = .ok (.getfield 276, 3) := by decide +kernel
theorem dModel_reform_130 : decode prog_14_method_35_code 130 = .ok (.iload_n 1, 1) := by decide +kernel
theorem dModel_reform_131 : decode prog_14_method_35_code 131 = .ok (.invokevirtual 297, 3) := by decide +kernel
theorem dModel_reform_134 : decode prog_14_method_35_code 134 = .ok (.aload_n 0, 1) := by decide +kernel
theorem dModel_reform_135 : decode prog_14_method_35_code 135 = .ok (.getfield 282, 3) := by decide +kernel
theorem dModel_reform_138 : decode prog_14_method_35_code 138 = .ok (.iload_n 1, 1) := by decide +kernel
theorem dModel_reform_139 : decode prog_14_method_35_code 139 = .ok (.iaload, 1) := by decide +kernel
theorem dModel_reform_140 : decode prog_14_method_35_code 140 = .ok (.ireturn, 1) := by decide +kernel
theorem dModel_lay_0 : decode prog_14_method_36_code 0 = .ok (.aload_n 0, 1) := by decide +kernel
theorem dModel_lay_1 : decode prog_14_method_36_code 1 = .ok (.getfield 279, 3) := by decide +kernel
theorem dModel_lay_4 : decode prog_14_method_36_code 4 = .ok (.iload_n 2, 1) := by decide +kernel
theorem dModel_lay_5 : decode prog_14_method_36_code 5 = .ok (.aload_n 0, 1) := by decide +kernel
theorem dModel_lay_6 : decode prog_14_method_36_code 6 = .ok (.getfield 279, 3) := by decide +kernel
theorem dModel_lay_9 : decode prog_14_method_36_code 9 = .ok (.iload_n 1, 1) := by decide +kernel
theorem dModel_lay_10 : decode prog_14_method_36_code 10 = .ok (.iaload, 1) := by decide +kernel
theorem dModel_lay_11 : decode prog_14_method_36_code 11 = .ok (.iastore, 1) := by decide +kernel
theorem dModel_lay_12 : decode prog_14_method_36_code 12 = .ok (.aload_n 0, 1) := by decide +kernel
theorem dModel_lay_13 : decode prog_14_method_36_code 13 = .ok (.getfield 282, 3) := by decide +kernel
theorem dModel_lay_16 : decode prog_14_method_36_code 16 = .ok (.iload_n 2, 1) := by decide +kernel
theorem dModel_lay_17 : decode prog_14_method_36_code 17 = .ok (.aload_n 0, 1) := by decide +kernel
theorem dModel_lay_18 : decode prog_14_method_36_code 18 = .ok (.getfield 282, 3) := by decide +kernel
theorem dModel_lay_21 : decode prog_14_method_36_code 21 = .ok (.iload_n 1, 1) := by decide +kernel
theorem dModel_lay_22 : decode prog_14_method_36_code 22 = .ok (.iaload, 1) := by decide +kernel
theorem dModel_lay_23 : decode prog_14_method_36_code 23 = .ok (.iastore, 1) := by decide +kernel
theorem dModel_lay_24 : decode prog_14_method_36_code 24 = .ok (.iconst 0, 1) := by decide +kernel
theorem dModel_lay_25 : decode prog_14_method_36_code 25 = .ok (.istore_n 3, 1) := by decide +kernel
theorem dModel_lay_26 : decode prog_14_method_36_code 26 = .ok (.iload_n 3, 1) := by decide +kernel
theorem dModel_lay_27 : decode prog_14_method_36_code 27 = .ok (.bipush 10, 2) := by decide +kernel
theorem dModel_lay_29 : decode prog_14_method_36_code 29 = .ok (.if_icmp .ge 53, 3) := by decide +kernel
theorem dModel_lay_32 : decode prog_14_method_36_code 32 = .ok (.aload_n 0, 1) := by decide +kernel
theorem dModel_lay_33 : decode prog_14_method_36_code 33 = .ok (.getfield 285, 3) := by decide +kernel
theorem dModel_lay_36 : decode prog_14_method_36_code 36 = .ok (.bipush 10, 2) := by decide +kernel
theorem dModel_lay_38 : decode prog_14_method_36_code 38 = .ok (.iload_n 2, 1) := by decide +kernel
theorem dModel_lay_39 : decode prog_14_method_36_code 39 = .ok (.imul, 1) := by decide +kernel
theorem dModel_lay_40 : decode prog_14_method_36_code 40 = .ok (.iload_n 3, 1) := by decide +kernel
theorem dModel_lay_41 : decode prog_14_method_36_code 41 = .ok (.iadd, 1) := by decide +kernel
theorem dModel_lay_42 : decode prog_14_method_36_code 42 = .ok (.aload_n 0, 1) := by decide +kernel
theorem dModel_lay_43 : decode prog_14_method_36_code 43 = .ok (.getfield 285, 3) := by decide +kernel
theorem dModel_lay_46 : decode prog_14_method_36_code 46 = .ok (.bipush 10, 2) := by decide +kernel
theorem dModel_lay_48 : decode prog_14_method_36_code 48 = .ok (.iload_n 1, 1) := by decide +kernel
theorem dModel_lay_49 : decode prog_14_method_36_code 49 = .ok (.imul, 1) := by decide +kernel
theorem dModel_lay_50 : decode prog_14_method_36_code 50 = .ok (.iload_n 3, 1) := by decide +kernel
theorem dModel_lay_51 : decode prog_14_method_36_code 51 = .ok (.iadd, 1) := by decide +kernel
theorem dModel_lay_52 : decode prog_14_method_36_code 52 = .ok (.iaload, 1) := by decide +kernel
theorem dModel_lay_53 : decode prog_14_method_36_code 53 = .ok (.iastore, 1) := by decide +kernel
theorem dModel_lay_54 : decode prog_14_method_36_code 54 = .ok (.aload_n 0, 1) := by decide +kernel
theorem dModel_lay_55 : decode prog_14_method_36_code 55 = .ok (.getfield 300, 3) := by decide +kernel
theorem dModel_lay_58 : decode prog_14_method_36_code 58 = .ok (.bipush 10, 2) := by decide +kernel
theorem dModel_lay_60 : decode prog_14_method_36_code 60 = .ok (.iload_n 2, 1) := by decide +kernel
theorem dModel_lay_61 : decode prog_14_method_36_code 61 = .ok (.imul, 1) := by decide +kernel
theorem dModel_lay_62 : decode prog_14_method_36_code 62 = .ok (.iload_n 3, 1) := by decide +kernel
theorem dModel_lay_63 : decode prog_14_method_36_code 63 = .ok (.iadd, 1) := by decide +kernel
theorem dModel_lay_64 : decode prog_14_method_36_code 64 = .ok (.aload_n 0, 1) := by decide +kernel
theorem dModel_lay_65 : decode prog_14_method_36_code 65 = .ok (.getfield 300, 3) := by decide +kernel
theorem dModel_lay_68 : decode prog_14_method_36_code 68 = .ok (.bipush 10, 2) := by decide +kernel
theorem dModel_lay_70 : decode prog_14_method_36_code 70 = .ok (.iload_n 1, 1) := by decide +kernel
theorem dModel_lay_71 : decode prog_14_method_36_code 71 = .ok (.imul, 1) := by decide +kernel
theorem dModel_lay_72 : decode prog_14_method_36_code 72 = .ok (.iload_n 3, 1) := by decide +kernel
theorem dModel_lay_73 : decode prog_14_method_36_code 73 = .ok (.iadd, 1) := by decide +kernel
theorem dModel_lay_74 : decode prog_14_method_36_code 74 = .ok (.iaload, 1) := by decide +kernel
theorem dModel_lay_75 : decode prog_14_method_36_code 75 = .ok (.iastore, 1) := by decide +kernel
theorem dModel_lay_76 : decode prog_14_method_36_code 76 = .ok (.iinc 3 1, 3) := by decide +kernel
theorem dModel_lay_79 : decode prog_14_method_36_code 79 = .ok (.goto (-53), 3) := by decide +kernel
theorem dModel_lay_82 : decode prog_14_method_36_code 82 = .ok (.iconst 0, 1) := by decide +kernel
theorem dModel_lay_83 : decode prog_14_method_36_code 83 = .ok (.istore_n 3, 1) := by decide +kernel
theorem dModel_lay_84 : decode prog_14_method_36_code 84 = .ok (.iload_n 3, 1) := by decide +kernel
theorem dModel_lay_85 : decode prog_14_method_36_code 85 = .ok (.sipush 700, 3) := by decide +kernel
theorem dModel_lay_88 : decode prog_14_method_36_code 88 = .ok (.if_icmp .ge 57, 3) := by decide +kernel
theorem dModel_lay_91 : decode prog_14_method_36_code 91 = .ok (.aload_n 0, 1) := by decide +kernel
theorem dModel_lay_92 : decode prog_14_method_36_code 92 = .ok (.getfield 303, 3) := by decide +kernel
theorem dModel_lay_95 : decode prog_14_method_36_code 95 = .ok (.sipush 700, 3) := by decide +kernel
theorem dModel_lay_98 : decode prog_14_method_36_code 98 = .ok (.iload_n 2, 1) := by decide +kernel
theorem dModel_lay_99 : decode prog_14_method_36_code 99 = .ok (.imul, 1) := by decide +kernel
theorem dModel_lay_100 : decode prog_14_method_36_code 100 = .ok (.iload_n 3, 1) := by decide +kernel
theorem dModel_lay_101 : decode prog_14_method_36_code 101 = .ok (.iadd, 1) := by decide +kernel
theorem dModel_lay_102 : decode prog_14_method_36_code 102 = .ok (.aload_n 0, 1) := by decide +kernel
theorem dModel_lay_103 : decode prog_14_method_36_code 103 = .ok (.getfield 303, 3) := by decide +kernel
theorem dModel_lay_106 : decode prog_14_method_36_code 106 = .ok (.sipush 700, 3) := by decide +kernel
theorem dModel_lay_109 : decode prog_14_method_36_code 109 = .ok (.iload_n 1, 1) := by decide +kernel
theorem dModel_lay_110 : decode prog_14_method_36_code 110 = .ok (.imul, 1) := by decide +kernel
theorem dModel_lay_111 : decode prog_14_method_36_code 111 = .ok (.iload_n 3, 1) := by decide +kernel
theorem dModel_lay_112 : decode prog_14_method_36_code 112 = .ok (.iadd, 1) := by decide +kernel
theorem dModel_lay_113 : decode prog_14_method_36_code 113 = .ok (.iaload, 1) := by decide +kernel
theorem dModel_lay_114 : decode prog_14_method_36_code 114 = .ok (.iastore, 1) := by decide +kernel
theorem dModel_lay_115 : decode prog_14_method_36_code 115 = .ok (.aload_n 0, 1) := by decide +kernel
theorem dModel_lay_116 : decode prog_14_method_36_code 116 = .ok (.getfield 306, 3) := by decide +kernel
theorem dModel_lay_119 : decode prog_14_method_36_code 119 = .ok (.sipush 700, 3) := by decide +kernel
theorem dModel_lay_122 : decode prog_14_method_36_code 122 = .ok (.iload_n 2, 1) := by decide +kernel
theorem dModel_lay_123 : decode prog_14_method_36_code 123 = .ok (.imul, 1) := by decide +kernel
theorem dModel_lay_124 : decode prog_14_method_36_code 124 = .ok (.iload_n 3, 1) := by decide +kernel
theorem dModel_lay_125 : decode prog_14_method_36_code 125 = .ok (.iadd, 1) := by decide +kernel
theorem dModel_lay_126 : decode prog_14_method_36_code 126 = .ok (.aload_n 0, 1) := by decide +kernel
theorem dModel_lay_127 : decode prog_14_method_36_code 127 = .ok (.getfield 306, 3) := by decide +kernel
theorem dModel_lay_130 : decode prog_14_method_36_code 130 = .ok (.sipush 700, 3) := by decide +kernel
theorem dModel_lay_133 : decode prog_14_method_36_code 133 = .ok (.iload_n 1, 1) := by decide +kernel
theorem dModel_lay_134 : decode prog_14_method_36_code 134 = .ok (.imul, 1) := by decide +kernel
theorem dModel_lay_135 : decode prog_14_method_36_code 135 = .ok (.iload_n 3, 1) := by decide +kernel
theorem dModel_lay_136 : decode prog_14_method_36_code 136 = .ok (.iadd, 1) := by decide +kernel
theorem dModel_lay_137 : decode prog_14_method_36_code 137 = .ok (.iaload, 1) := by decide +kernel
theorem dModel_lay_138 : decode prog_14_method_36_code 138 = .ok (.iastore, 1) := by decide +kernel
theorem dModel_lay_139 : decode prog_14_method_36_code 139 = .ok (.iinc 3 1, 3) := by decide +kernel
theorem dModel_lay_142 : decode prog_14_method_36_code 142 = .ok (.goto (-58), 3) := by decide +kernel
theorem dModel_lay_145 : decode prog_14_method_36_code 145 = .ok (.return_, 1) := by decide +kernel
theorem dModel_readReform_0 : decode prog_14_method_37_code 0 = .ok (.aload_n 0, 1) := by decide +kernel
theorem dModel_readReform_1 : decode prog_14_method_37_code 1 = .ok (.ldc2_w 45, 3) := by decide +kernel
theorem dModel_readReform_4 : decode prog_14_method_37_code 4 = .ok (.invokevirtual 178, 3) := by decide +kernel
theorem dModel_readReform_7 : decode prog_14_method_37_code 7 = .ok (.ifCond .eq 7, 3) := by decide +kernel
theorem dModel_readReform_10 : decode prog_14_method_37_code 10 = .ok (.iconst 0, 1) := by decide +kernel
theorem dModel_readReform_11 : decode prog_14_method_37_code 11 = .ok (.goto 84, 3) := by decide +kernel
theorem dModel_readReform_14 : decode prog_14_method_37_code 14 = .ok (.aload_n 0, 1) := by decide +kernel
theorem dModel_readReform_15 : decode prog_14_method_37_code 15 = .ok (.ldc2_w 49, 3) := by decide +kernel
theorem dModel_readReform_18 : decode prog_14_method_37_code 18 = .ok (.invokevirtual 178, 3) := by decide +kernel
theorem dModel_readReform_21 : decode prog_14_method_37_code 21 = .ok (.ifCond .eq 7, 3) := by decide +kernel
theorem dModel_readReform_24 : decode prog_14_method_37_code 24 = .ok (.iconst 1, 1) := by decide +kernel
theorem dModel_readReform_25 : decode prog_14_method_37_code 25 = .ok (.goto 70, 3) := by decide +kernel
theorem dModel_readReform_28 : decode prog_14_method_37_code 28 = .ok (.aload_n 0, 1) := by decide +kernel
theorem dModel_readReform_29 : decode prog_14_method_37_code 29 = .ok (.ldc2_w 51, 3) := by decide +kernel
theorem dModel_readReform_32 : decode prog_14_method_37_code 32 = .ok (.invokevirtual 178, 3) := by decide +kernel
theorem dModel_readReform_35 : decode prog_14_method_37_code 35 = .ok (.ifCond .eq 7, 3) := by decide +kernel
theorem dModel_readReform_38 : decode prog_14_method_37_code 38 = .ok (.iconst 2, 1) := by decide +kernel
theorem dModel_readReform_39 : decode prog_14_method_37_code 39 = .ok (.goto 56, 3) := by decide +kernel
theorem dModel_readReform_42 : decode prog_14_method_37_code 42 = .ok (.aload_n 0, 1) := by decide +kernel
theorem dModel_readReform_43 : decode prog_14_method_37_code 43 = .ok (.ldc2_w 53, 3) := by decide +kernel
theorem dModel_readReform_46 : decode prog_14_method_37_code 46 = .ok (.invokevirtual 178, 3) := by decide +kernel
theorem dModel_readReform_49 : decode prog_14_method_37_code 49 = .ok (.ifCond .eq 7, 3) := by decide +kernel
theorem dModel_readReform_52 : decode prog_14_method_37_code 52 = .ok (.iconst 3, 1) := by decide +kernel
theorem dModel_readReform_53 : decode prog_14_method_37_code 53 = .ok (.goto 42, 3) := by decide +kernel
theorem dModel_readReform_56 : decode prog_14_method_37_code 56 = .ok (.aload_n 0, 1) := by decide +kernel
theorem dModel_readReform_57 : decode prog_14_method_37_code 57 = .ok (.ldc2_w 55, 3) := by decide +kernel
theorem dModel_readReform_60 : decode prog_14_method_37_code 60 = .ok (.invokevirtual 178, 3) := by decide +kernel
theorem dModel_readReform_63 : decode prog_14_method_37_code 63 = .ok (.ifCond .eq 7, 3) := by decide +kernel
theorem dModel_readReform_66 : decode prog_14_method_37_code 66 = .ok (.iconst 4, 1) := by decide +kernel
theorem dModel_readReform_67 : decode prog_14_method_37_code 67 = .ok (.goto 28, 3) := by decide +kernel
theorem dModel_readReform_70 : decode prog_14_method_37_code 70 = .ok (.aload_n 0, 1) := by decide +kernel
theorem dModel_readReform_71 : decode prog_14_method_37_code 71 = .ok (.ldc2_w 47, 3) := by decide +kernel
theorem dModel_readReform_74 : decode prog_14_method_37_code 74 = .ok (.invokevirtual 178, 3) := by decide +kernel
theorem dModel_readReform_77 : decode prog_14_method_37_code 77 = .ok (.ifCond .eq 17, 3) := by decide +kernel
theorem dModel_readReform_80 : decode prog_14_method_37_code 80 = .ok (.iconst 5, 1) := by decide +kernel
theorem dModel_readReform_81 : decode prog_14_method_37_code 81 = .ok (.aload_n 0, 1) := by decide +kernel
theorem dModel_readReform_82 : decode prog_14_method_37_code 82 = .ok (.getfield 279, 3) := by decide +kernel
theorem dModel_readReform_85 : decode prog_14_method_37_code 85 = .ok (.aload_n 0, 1) := by decide +kernel
theorem dModel_readReform_86 : decode prog_14_method_37_code 86 = .ok (.getfield 276, 3) := by decide +kernel
theorem dModel_readReform_89 : decode prog_14_method_37_code 89 = .ok (.iaload, 1) := by decide +kernel
theorem dModel_readReform_90 : decode prog_14_method_37_code 90 = .ok (.iadd, 1) := by decide +kernel
theorem dModel_readReform_91 : decode prog_14_method_37_code 91 = .ok (.goto 4, 3) := by decide +kernel
theorem dModel_readReform_94 : decode prog_14_method_37_code 94 = .ok (.iconst (-1), 1) := by decide +kernel
theorem dModel_readReform_95 : decode prog_14_method_37_code 95 = .ok (.istore_n 1, 1) := by decide +kernel
theorem dModel_readReform_96 : decode prog_14_method_37_code 96 = .ok (.iload_n 1, 1) := by decide +kernel
theorem dModel_readReform_97 : decode prog_14_method_37_code 97 = .ok (.ifCond .lt 40, 3) := by decide +kernel
theorem dModel_readReform_100 : decode prog_14_method_37_code 100 = .ok (.iload_n 1, 1) := by decide +kernel
theorem dModel_readReform_101 : decode prog_14_method_37_code 101 = .ok (.bipush 10, 2) := by decide +kernel
theorem dModel_readReform_103 : decode prog_14_method_37_code 103 = .ok (.if_icmp .eq 34, 3) := by decide +kernel
theorem dModel_readReform_106 : decode prog_14_method_37_code 106 = .ok (.aload_n 0, 1) := by decide +kernel
theorem dModel_readReform_107 : decode prog_14_method_37_code 107 = .ok (.getfield 285, 3) := by decide +kernel
theorem dModel_readReform_110 : decode prog_14_method_37_code 110 = .ok (.bipush 10, 2) := by decide +kernel
theorem dModel_readReform_112 : decode prog_14_method_37_code 112 = .ok (.aload_n 0, 1) := by decide +kernel
theorem dModel_readReform_113 : decode prog_14_method_37_code 113 = .ok (.getfield 276, 3) := by decide +kernel
theorem dModel_readReform_116 : decode prog_14_method_37_code 116 = .ok (.imul, 1) := by decide +kernel
theorem dModel_readReform_117 : decode prog_14_method_37_code 117 = .ok (.iload_n 1, 1) := by decide +kernel
theorem dModel_readReform_118 : decode prog_14_method_37_code 118 = .ok (.ifCond .lt 9, 3) := by decide +kernel
theorem dModel_readReform_121 : decode prog_14_method_37_code 121 = .ok (.iload_n 1, 1) := by decide +kernel
theorem dModel_readReform_122 : decode prog_14_method_37_code 122 = .ok (.bipush 10, 2) := by decide +kernel
theorem dModel_readReform_124 : decode prog_14_method_37_code 124 = .ok (.if_icmp .lt 7, 3) := by decide +kernel
theorem dModel_readReform_127 : decode prog_14_method_37_code 127 = .ok (.iconst 0, 1) := by decide +kernel
theorem dModel_readReform_128 : decode prog_14_method_37_code 128 = .ok (.goto 4, 3) := by decide +kernel
theorem dModel_readReform_131 : decode prog_14_method_37_code 131 = .ok (.iload_n 1, 1) := by decide +kernel
theorem dModel_readReform_132 : decode prog_14_method_37_code 132 = .ok (.iadd, 1) := by decide +kernel
theorem dModel_readReform_133 : decode prog_14_method_37_code 133 = .ok (.iaload, 1) := by decide +kernel
theorem dModel_readReform_134 : decode prog_14_method_37_code 134 = .ok (.ifCond .lt 7, 3) := by decide +kernel
theorem dModel_readReform_137 : decode prog_14_method_37_code 137 = .ok (.aload_n 0, 1) := by decide +kernel
theorem dModel_readReform_138 : decode prog_14_method_37_code 138 = .ok (.invokevirtual 134, 3) := by decide +kernel
theorem dModel_readReform_141 : decode prog_14_method_37_code 141 = .ok (.aload_n 0, 1) := by decide +kernel
theorem dModel_readReform_142 : decode prog_14_method_37_code 142 = .ok (.invokevirtual 126, 3) := by decide +kernel
theorem dModel_readReform_145 : decode prog_14_method_37_code 145 = .ok (.ifCond .ne 4, 3) := by decide +kernel
theorem dModel_readReform_148 : decode prog_14_method_37_code 148 = .ok (.return_, 1) := by decide +kernel
theorem dModel_readReform_149 : decode prog_14_method_37_code 149 = .ok (.aload_n 0, 1) := by decide +kernel
theorem dModel_readReform_150 : decode prog_14_method_37_code 150 = .ok (.invokevirtual 130, 3) := by decide +kernel
theorem dModel_readReform_153 : decode prog_14_method_37_code 153 = .ok (.aload_n 0, 1) := by decide +kernel
theorem dModel_readReform_154 : decode prog_14_method_37_code 154 = .ok (.iload_n 1, 1) := by decide +kernel
theorem dModel_readReform_155 : decode prog_14_method_37_code 155 = .ok (.putfield 309, 3) := by decide +kernel
theorem dModel_readReform_158 : decode prog_14_method_37_code 158 = .ok (.aload_n 0, 1) := by decide +kernel
theorem dModel_readReform_159 : decode prog_14_method_37_code 159 = .ok (.getfield 288, 3) := by decide +kernel
theorem dModel_readReform_162 : decode prog_14_method_37_code 162 = .ok (.istore_n 2, 1) := by decide +kernel
theorem dModel_readReform_163 : decode prog_14_method_37_code 163 = .ok (.aload_n 0, 1) := by decide +kernel
theorem dModel_readReform_164 : decode prog_14_method_37_code 164 = .ok (.invokevirtual 312, 3) := by decide +kernel
theorem dModel_readReform_167 : decode prog_14_method_37_code 167 = .ok (.aload_n 0, 1) := by decide +kernel
theorem dModel_readReform_168 : decode prog_14_method_37_code 168 = .ok (.aload_n 0, 1) := by decide +kernel
theorem dModel_readReform_169 : decode prog_14_method_37_code 169 = .ok (.bipush 59, 2) := by decide +kernel
theorem dModel_readReform_171 : decode prog_14_method_37_code 171 = .ok (.invokevirtual 193, 3) := by decide +kernel
theorem dModel_readReform_174 : decode prog_14_method_37_code 174 = .ok (.invokevirtual 196, 3) := by decide +kernel
theorem dModel_readReform_177 : decode prog_14_method_37_code 177 = .ok (.aload_n 0, 1) := by decide +kernel
theorem dModel_readReform_178 : decode prog_14_method_37_code 178 = .ok (.getfield 285, 3) := by decide +kernel
theorem dModel_readReform_181 : decode prog_14_method_37_code 181 = .ok (.bipush 10, 2) := by decide +kernel
theorem dModel_readReform_183 : decode prog_14_method_37_code 183 = .ok (.aload_n 0, 1) := by decide +kernel
theorem dModel_readReform_184 : decode prog_14_method_37_code 184 = .ok (.getfield 276, 3) := by decide +kernel
theorem dModel_readReform_187 : decode prog_14_method_37_code 187 = .ok (.imul, 1) := by decide +kernel
theorem dModel_readReform_188 : decode prog_14_method_37_code 188 = .ok (.iload_n 1, 1) := by decide +kernel
theorem dModel_readReform_189 : decode prog_14_method_37_code 189 = .ok (.iadd, 1) := by decide +kernel
theorem dModel_readReform_190 : decode prog_14_method_37_code 190 = .ok (.iload_n 2, 1) := by decide +kernel
theorem dModel_readReform_191 : decode prog_14_method_37_code 191 = .ok (.iastore, 1) := by decide +kernel
theorem dModel_readReform_192 : decode prog_14_method_37_code 192 = .ok (.aload_n 0, 1) := by decide +kernel
theorem dModel_readReform_193 : decode prog_14_method_37_code 193 = .ok (.getfield 300, 3) := by decide +kernel
theorem dModel_readReform_196 : decode prog_14_method_37_code 196 = .ok (.bipush 10, 2) := by decide +kernel
theorem dModel_readReform_198 : decode prog_14_method_37_code 198 = .ok (.aload_n 0, 1) := by decide +kernel
theorem dModel_readReform_199 : decode prog_14_method_37_code 199 = .ok (.getfield 276, 3) := by decide +kernel
theorem dModel_readReform_202 : decode prog_14_method_37_code 202 = .ok (.imul, 1) := by decide +kernel
theorem dModel_readReform_203 : decode prog_14_method_37_code 203 = .ok (.iload_n 1, 1) := by decide +kernel
theorem dModel_readReform_204 : decode prog_14_method_37_code 204 = .ok (.iadd, 1) := by decide +kernel
theorem dModel_readReform_205 : decode prog_14_method_37_code 205 = .ok (.aload_n 0, 1) := by decide +kernel
theorem dModel_readReform_206 : decode prog_14_method_37_code 206 = .ok (.getfield 288, 3) := by decide +kernel
theorem dModel_readReform_209 : decode prog_14_method_37_code 209 = .ok (.iastore, 1) := by decide +kernel
theorem dModel_readReform_210 : decode prog_14_method_37_code 210 = .ok (.iload_n 1, 1) := by decide +kernel
theorem dModel_readReform_211 : decode prog_14_method_37_code 211 = .ok (.iconst 5, 1) := by decide +kernel
theorem dModel_readReform_212 : decode prog_14_method_37_code 212 = .ok (.if_icmp .lt 16, 3) := by decide +kernel
theorem dModel_readReform_215 : decode prog_14_method_37_code 215 = .ok (.aload_n 0, 1) := by decide +kernel
theorem dModel_readReform_216 : decode prog_14_method_37_code 216 = .ok (.getfield 279, 3) := by decide +kernel
theorem dModel_readReform_219 : decode prog_14_method_37_code 219 = .ok (.aload_n 0, 1) := by decide +kernel
theorem dModel_readReform_220 : decode prog_14_method_37_code 220 = .ok (.getfield 276, 3) := by decide +kernel
theorem dModel_readReform_223 : decode prog_14_method_37_code 223 = .ok (.dup2, 1) := by decide +kernel
theorem dModel_readReform_224 : decode prog_14_method_37_code 224 = .ok (.iaload, 1) := by decide +kernel
theorem dModel_readReform_225 : decode prog_14_method_37_code 225 = .ok (.iconst 1, 1) := by decide +kernel
theorem dModel_readReform_226 : decode prog_14_method_37_code 226 = .ok (.iadd, 1) := by decide +kernel
theorem dModel_readReform_227 : decode prog_14_method_37_code 227 = .ok (.iastore, 1) := by decide +kernel
theorem dModel_readReform_228 : decode prog_14_method_37_code 228 = .ok (.aload_n 0, 1) := by decide +kernel
theorem dModel_readReform_229 : decode prog_14_method_37_code 229 = .ok (.getfield 282, 3) := by decide +kernel
theorem dModel_readReform_232 : decode prog_14_method_37_code 232 = .ok (.aload_n 0, 1) := by decide +kernel
theorem dModel_readReform_233 : decode prog_14_method_37_code 233 = .ok (.getfield 276, 3) := by decide +kernel
theorem dModel_readReform_236 : decode prog_14_method_37_code 236 = .ok (.dup2, 1) := by decide +kernel
theorem dModel_readReform_237 : decode prog_14_method_37_code 237 = .ok (.iaload, 1) := by decide +kernel
theorem dModel_readReform_238 : decode prog_14_method_37_code 238 = .ok (.iconst 1, 1) := by decide +kernel
theorem dModel_readReform_239 : decode prog_14_method_37_code 239 = .ok (.iadd, 1) := by decide +kernel
theorem dModel_readReform_240 : decode prog_14_method_37_code 240 = .ok (.iastore, 1) := by decide +kernel
theorem dModel_readReform_241 : decode prog_14_method_37_code 241 = .ok (.return_, 1) := by decide +kernel
theorem dModel_step_0 : decode prog_14_method_38_code 0 = .ok (.aload_n 0, 1) := by decide +kernel
theorem dModel_step_1 : decode prog_14_method_38_code 1 = .ok (.getfield 303, 3) := by decide +kernel
theorem dModel_step_4 : decode prog_14_method_38_code 4 = .ok (.sipush 700, 3) := by decide +kernel
theorem dModel_step_7 : decode prog_14_method_38_code 7 = .ok (.aload_n 0, 1) := by decide +kernel
theorem dModel_step_8 : decode prog_14_method_38_code 8 = .ok (.getfield 276, 3) := by decide +kernel
theorem dModel_step_11 : decode prog_14_method_38_code 11 = .ok (.imul, 1) := by decide +kernel
theorem dModel_step_12 : decode prog_14_method_38_code 12 = .ok (.aload_n 0, 1) := by decide +kernel
theorem dModel_step_13 : decode prog_14_method_38_code 13 = .ok (.getfield 288, 3) := by decide +kernel
theorem dModel_step_16 : decode prog_14_method_38_code 16 = .ok (.iadd, 1) := by decide +kernel
theorem dModel_step_17 : decode prog_14_method_38_code 17 = .ok (.iload_n 1, 1) := by decide +kernel
theorem dModel_step_18 : decode prog_14_method_38_code 18 = .ok (.iastore, 1) := by decide +kernel
theorem dModel_step_19 : decode prog_14_method_38_code 19 = .ok (.aload_n 0, 1) := by decide +kernel
theorem dModel_step_20 : decode prog_14_method_38_code 20 = .ok (.getfield 306, 3) := by decide +kernel
theorem dModel_step_23 : decode prog_14_method_38_code 23 = .ok (.sipush 700, 3) := by decide +kernel
theorem dModel_step_26 : decode prog_14_method_38_code 26 = .ok (.aload_n 0, 1) := by decide +kernel
theorem dModel_step_27 : decode prog_14_method_38_code 27 = .ok (.getfield 276, 3) := by decide +kernel
theorem dModel_step_30 : decode prog_14_method_38_code 30 = .ok (.imul, 1) := by decide +kernel
theorem dModel_step_31 : decode prog_14_method_38_code 31 = .ok (.aload_n 0, 1) := by decide +kernel
theorem dModel_step_32 : decode prog_14_method_38_code 32 = .ok (.getfield 288, 3) := by decide +kernel
theorem dModel_step_35 : decode prog_14_method_38_code 35 = .ok (.iadd, 1) := by decide +kernel
theorem dModel_step_36 : decode prog_14_method_38_code 36 = .ok (.iload_n 2, 1) := by decide +kernel
theorem dModel_step_37 : decode prog_14_method_38_code 37 = .ok (.iastore, 1) := by decide +kernel
theorem dModel_step_38 : decode prog_14_method_38_code 38 = .ok (.aload_n 0, 1) := by decide +kernel
theorem dModel_step_39 : decode prog_14_method_38_code 39 = .ok (.dup, 1) := by decide +kernel
theorem dModel_step_40 : decode prog_14_method_38_code 40 = .ok (.getfield 288, 3) := by decide +kernel
theorem dModel_step_43 : decode prog_14_method_38_code 43 = .ok (.iconst 1, 1) := by decide +kernel
theorem dModel_step_44 : decode prog_14_method_38_code 44 = .ok (.iadd, 1) := by decide +kernel
theorem dModel_step_45 : decode prog_14_method_38_code 45 = .ok (.putfield 288, 3) := by decide +kernel
theorem dModel_step_48 : decode prog_14_method_38_code 48 = .ok (.return_, 1) := by decide +kernel
theorem dModel_pile_0 : decode prog_14_method_39_code 0 = .ok (.aload_n 0, 1) := by decide +kernel
theorem dModel_pile_1 : decode prog_14_method_39_code 1 = .ok (.getfield 315, 3) := by decide +kernel
theorem dModel_pile_4 : decode prog_14_method_39_code 4 = .ok (.aload_n 0, 1) := by decide +kernel
theorem dModel_pile_5 : decode prog_14_method_39_code 5 = .ok (.getfield 318, 3) := by decide +kernel
theorem dModel_pile_8 : decode prog_14_method_39_code 8 = .ok (.iload_n 1, 1) := by decide +kernel
theorem dModel_pile_9 : decode prog_14_method_39_code 9 = .ok (.iastore, 1) := by decide +kernel
theorem dModel_pile_10 : decode prog_14_method_39_code 10 = .ok (.aload_n 0, 1) := by decide +kernel
theorem dModel_pile_11 : decode prog_14_method_39_code 11 = .ok (.getfield 321, 3) := by decide +kernel
theorem dModel_pile_14 : decode prog_14_method_39_code 14 = .ok (.aload_n 0, 1) := by decide +kernel
theorem dModel_pile_15 : decode prog_14_method_39_code 15 = .ok (.getfield 318, 3) := by decide +kernel
theorem dModel_pile_18 : decode prog_14_method_39_code 18 = .ok (.iload_n 2, 1) := by decide +kernel
theorem dModel_pile_19 : decode prog_14_method_39_code 19 = .ok (.iastore, 1) := by decide +kernel
theorem dModel_pile_20 : decode prog_14_method_39_code 20 = .ok (.aload_n 0, 1) := by decide +kernel
theorem dModel_pile_21 : decode prog_14_method_39_code 21 = .ok (.dup, 1) := by decide +kernel
theorem dModel_pile_22 : decode prog_14_method_39_code 22 = .ok (.getfield 318, 3) := by decide +kernel
theorem dModel_pile_25 : decode prog_14_method_39_code 25 = .ok (.iconst 1, 1) := by decide +kernel
theorem dModel_pile_26 : decode prog_14_method_39_code 26 = .ok (.iadd, 1) := by decide +kernel
theorem dModel_pile_27 : decode prog_14_method_39_code 27 = .ok (.putfield 318, 3) := by decide +kernel
theorem dModel_pile_30 : decode prog_14_method_39_code 30 = .ok (.return_, 1) := by decide +kernel
theorem dModel_e_0 : decode prog_14_method_40_code 0 = .ok (.aload_n 0, 1) := by decide +kernel
theorem dModel_e_1 : decode prog_14_method_40_code 1 = .ok (.iconst 0, 1) := by decide +kernel
theorem dModel_e_2 : decode prog_14_method_40_code 2 = .ok (.putfield 318, 3) := by decide +kernel
theorem dModel_e_5 : decode prog_14_method_40_code 5 = .ok (.aload_n 0, 1) := by decide +kernel
theorem dModel_e_6 : decode prog_14_method_40_code 6 = .ok (.iconst 0, 1) := by decide +kernel
theorem dModel_e_7 : decode prog_14_method_40_code 7 = .ok (.putfield 324, 3) := by decide +kernel
theorem dModel_e_10 : decode prog_14_method_40_code 10 = .ok (.aload_n 0, 1) := by decide +kernel
theorem dModel_e_11 : decode prog_14_method_40_code 11 = .ok (.bipush 8, 2) := by decide +kernel
theorem dModel_e_13 : decode prog_14_method_40_code 13 = .ok (.iconst 0, 1) := by decide +kernel
theorem dModel_e_14 : decode prog_14_method_40_code 14 = .ok (.invokevirtual 327, 3) := by decide +kernel
theorem dModel_e_17 : decode prog_14_method_40_code 17 = .ok (.iconst 1, 1) := by decide +kernel
theorem dModel_e_18 : decode prog_14_method_40_code 18 = .ok (.istore_n 1, 1) := by decide +kernel
theorem dModel_e_19 : decode prog_14_method_40_code 19 = .ok (.aload_n 0, 1) := by decide +kernel
theorem dModel_e_20 : decode prog_14_method_40_code 20 = .ok (.invokevirtual 126, 3) := by decide +kernel
theorem dModel_e_23 : decode prog_14_method_40_code 23 = .ok (.ifCond .eq 29, 3) := by decide +kernel
theorem dModel_e_26 : decode prog_14_method_40_code 26 = .ok (.aload_n 0, 1) := by decide +kernel
theorem dModel_e_27 : decode prog_14_method_40_code 27 = .ok (.getfield 318, 3) := by decide +kernel
theorem dModel_e_30 : decode prog_14_method_40_code 30 = .ok (.ifCond .le 22, 3) := by decide +kernel
theorem dModel_e_33 : decode prog_14_method_40_code 33 = .ok (.iload_n 1, 1) := by decide +kernel
theorem dModel_e_34 : decode prog_14_method_40_code 34 = .ok (.ifCond .eq 10, 3) := by decide +kernel
theorem dModel_e_37 : decode prog_14_method_40_code 37 = .ok (.aload_n 0, 1) := by decide +kernel
theorem dModel_e_38 : decode prog_14_method_40_code 38 = .ok (.invokevirtual 330, 3) := by decide +kernel
theorem dModel_e_41 : decode prog_14_method_40_code 41 = .ok (.goto 7, 3) := by decide +kernel
theorem dModel_e_44 : decode prog_14_method_40_code 44 = .ok (.aload_n 0, 1) := by decide +kernel
theorem dModel_e_45 : decode prog_14_method_40_code 45 = .ok (.invokevirtual 333, 3) := by decide +kernel
theorem dModel_e_48 : decode prog_14_method_40_code 48 = .ok (.istore_n 1, 1) := by decide +kernel
theorem dModel_e_49 : decode prog_14_method_40_code 49 = .ok (.goto (-30), 3) := by decide +kernel
theorem dModel_e_52 : decode prog_14_method_40_code 52 = .ok (.return_, 1) := by decide +kernel
theorem dModel_wordHere_0 : decode prog_14_method_41_code 0 = .ok (.aload_n 0, 1) := by decide +kernel
theorem dModel_wordHere_1 : decode prog_14_method_41_code 1 = .ok (.ldc2_w 63, 3) := by decide +kernel
theorem dModel_wordHere_4 : decode prog_14_method_41_code 4 = .ok (.invokevirtual 178, 3) := by decide +kernel
theorem dModel_wordHere_7 : decode prog_14_method_41_code 7 = .ok (.ifCond .eq 6, 3) := by decide +kernel
theorem dModel_wordHere_10 : decode prog_14_method_41_code 10 = .ok (.bipush 121, 2) := by decide +kernel
theorem dModel_wordHere_12 : decode prog_14_method_41_code 12 = .ok (.ireturn, 1) := by decide +kernel
theorem dModel_wordHere_13 : decode prog_14_method_41_code 13 = .ok (.aload_n 0, 1) := by decide +kernel
theorem dModel_wordHere_14 : decode prog_14_method_41_code 14 = .ok (.ldc2_w 65, 3) := by decide +kernel
theorem dModel_wordHere_17 : decode prog_14_method_41_code 17 = .ok (.invokevirtual 178, 3) := by decide +kernel
theorem dModel_wordHere_20 : decode prog_14_method_41_code 20 = .ok (.ifCond .eq 6, 3) := by decide +kernel
theorem dModel_wordHere_23 : decode prog_14_method_41_code 23 = .ok (.bipush 109, 2) := by decide +kernel
theorem dModel_wordHere_25 : decode prog_14_method_41_code 25 = .ok (.ireturn, 1) := by decide +kernel
theorem dModel_wordHere_26 : decode prog_14_method_41_code 26 = .ok (.aload_n 0, 1) := by decide +kernel
theorem dModel_wordHere_27 : decode prog_14_method_41_code 27 = .ok (.ldc2_w 71, 3) := by decide +kernel
theorem dModel_wordHere_30 : decode prog_14_method_41_code 30 = .ok (.invokevirtual 178, 3) := by decide +kernel
theorem dModel_wordHere_33 : decode prog_14_method_41_code 33 = .ok (.ifCond .eq 6, 3) := by decide +kernel
theorem dModel_wordHere_36 : decode prog_14_method_41_code 36 = .ok (.bipush 119, 2) := by decide +kernel
theorem dModel_wordHere_38 : decode prog_14_method_41_code 38 = .ok (.ireturn, 1) := by decide +kernel
theorem dModel_wordHere_39 : decode prog_14_method_41_code 39 = .ok (.aload_n 0, 1) := by decide +kernel
theorem dModel_wordHere_40 : decode prog_14_method_41_code 40 = .ok (.ldc2_w 79, 3) := by decide +kernel
theorem dModel_wordHere_43 : decode prog_14_method_41_code 43 = .ok (.invokevirtual 178, 3) := by decide +kernel
theorem dModel_wordHere_46 : decode prog_14_method_41_code 46 = .ok (.ifCond .eq 6, 3) := by decide +kernel
theorem dModel_wordHere_49 : decode prog_14_method_41_code 49 = .ok (.bipush 100, 2) := by decide +kernel
theorem dModel_wordHere_51 : decode prog_14_method_41_code 51 = .ok (.ireturn, 1) := by decide +kernel
theorem dModel_wordHere_52 : decode prog_14_method_41_code 52 = .ok (.aload_n 0, 1) := by decide +kernel
theorem dModel_wordHere_53 : decode prog_14_method_41_code 53 = .ok (.getfield 309, 3) := by decide +kernel
theorem dModel_wordHere_56 : decode prog_14_method_41_code 56 = .ok (.ifCond .ne 7, 3) := by decide +kernel
theorem dModel_wordHere_59 : decode prog_14_method_41_code 59 = .ok (.iconst 1, 1) := by decide +kernel
theorem dModel_wordHere_60 : decode prog_14_method_41_code 60 = .ok (.goto 4, 3) := by decide +kernel
theorem dModel_wordHere_63 : decode prog_14_method_41_code 63 = .ok (.iconst 0, 1) := by decide +kernel
theorem dModel_wordHere_64 : decode prog_14_method_41_code 64 = .ok (.istore_n 1, 1) := by decide +kernel
theorem dModel_wordHere_65 : decode prog_14_method_41_code 65 = .ok (.aload_n 0, 1) := by decide +kernel
theorem dModel_wordHere_66 : decode prog_14_method_41_code 66 = .ok (.getfield 309, 3) := by decide +kernel
theorem dModel_wordHere_69 : decode prog_14_method_41_code 69 = .ok (.iconst 5, 1) := by decide +kernel
theorem dModel_wordHere_70 : decode prog_14_method_41_code 70 = .ok (.if_icmp .lt 7, 3) := by decide +kernel
theorem dModel_wordHere_73 : decode prog_14_method_41_code 73 = .ok (.iconst 1, 1) := by decide +kernel
theorem dModel_wordHere_74 : decode prog_14_method_41_code 74 = .ok (.goto 4, 3) := by decide +kernel
theorem dModel_wordHere_77 : decode prog_14_method_41_code 77 = .ok (.iconst 0, 1) := by decide +kernel
theorem dModel_wordHere_78 : decode prog_14_method_41_code 78 = .ok (.istore_n 2, 1) := by decide +kernel
theorem dModel_wordHere_79 : decode prog_14_method_41_code 79 = .ok (.aload_n 0, 1) := by decide +kernel
theorem dModel_wordHere_80 : decode prog_14_method_41_code 80 = .ok (.ldc2_w 25, 3) := by decide +kernel
theorem dModel_wordHere_83 : decode prog_14_method_41_code 83 = .ok (.invokevirtual 178, 3) := by decide +kernel
theorem dModel_wordHere_86 : decode prog_14_method_41_code 86 = .ok (.ifCond .eq 8, 3) := by decide +kernel
theorem dModel_wordHere_89 : decode prog_14_method_41_code 89 = .ok (.bipush 115, 2) := by decide +kernel
theorem dModel_wordHere_91 : decode prog_14_method_41_code 91 = .ok (.goto 79, 3) := by decide +kernel
theorem dModel_wordHere_94 : decode prog_14_method_41_code 94 = .ok (.aload_n 0, 1) := by decide +kernel
theorem dModel_wordHere_95 : decode prog_14_method_41_code 95 = .ok (.ldc2_w 67, 3) := by decide +kernel
theorem dModel_wordHere_98 : decode prog_14_method_41_code 98 = .ok (.invokevirtual 178, 3) := by decide +kernel
theorem dModel_wordHere_101 : decode prog_14_method_41_code 101 = .ok (.ifCond .eq 8, 3) := by decide +kernel
theorem dModel_wordHere_104 : decode prog_14_method_41_code 104 = .ok (.bipush 110, 2) := by decide +kernel
theorem dModel_wordHere_106 : decode prog_14_method_41_code 106 = .ok (.goto 64, 3) := by decide +kernel
theorem dModel_wordHere_109 : decode prog_14_method_41_code 109 = .ok (.aload_n 0, 1) := by decide +kernel
theorem dModel_wordHere_110 : decode prog_14_method_41_code 110 = .ok (.ldc2_w 69, 3) := by decide +kernel
theorem dModel_wordHere_113 : decode prog_14_method_41_code 113 = .ok (.invokevirtual 178, 3) := by decide +kernel
theorem dModel_wordHere_116 : decode prog_14_method_41_code 116 = .ok (.ifCond .eq 8, 3) := by decide +kernel
theorem dModel_wordHere_119 : decode prog_14_method_41_code 119 = .ok (.bipush 68, 2) := by decide +kernel
theorem dModel_wordHere_121 : decode prog_14_method_41_code 121 = .ok (.goto 49, 3) := by decide +kernel
theorem dModel_wordHere_124 : decode prog_14_method_41_code 124 = .ok (.aload_n 0, 1) := by decide +kernel
theorem dModel_wordHere_125 : decode prog_14_method_41_code 125 = .ok (.ldc2_w 73, 3) := by decide +kernel
theorem dModel_wordHere_128 : decode prog_14_method_41_code 128 = .ok (.invokevirtual 178, 3) := by decide +kernel
theorem dModel_wordHere_131 : decode prog_14_method_41_code 131 = .ok (.ifCond .eq 8, 3) := by decide +kernel
theorem dModel_wordHere_134 : decode prog_14_method_41_code 134 = .ok (.bipush 97, 2) := by decide +kernel
theorem dModel_wordHere_136 : decode prog_14_method_41_code 136 = .ok (.goto 34, 3) := by decide +kernel
theorem dModel_wordHere_139 : decode prog_14_method_41_code 139 = .ok (.aload_n 0, 1) := by decide +kernel
theorem dModel_wordHere_140 : decode prog_14_method_41_code 140 = .ok (.ldc2_w 75, 3) := by decide +kernel
theorem dModel_wordHere_143 : decode prog_14_method_41_code 143 = .ok (.invokevirtual 178, 3) := by decide +kernel
theorem dModel_wordHere_146 : decode prog_14_method_41_code 146 = .ok (.ifCond .eq 8, 3) := by decide +kernel
theorem dModel_wordHere_149 : decode prog_14_method_41_code 149 = .ok (.bipush 107, 2) := by decide +kernel
theorem dModel_wordHere_151 : decode prog_14_method_41_code 151 = .ok (.goto 19, 3) := by decide +kernel
theorem dModel_wordHere_154 : decode prog_14_method_41_code 154 = .ok (.aload_n 0, 1) := by decide +kernel
theorem dModel_wordHere_155 : decode prog_14_method_41_code 155 = .ok (.ldc2_w 77, 3) := by decide +kernel
theorem dModel_wordHere_158 : decode prog_14_method_41_code 158 = .ok (.invokevirtual 178, 3) := by decide +kernel
theorem dModel_wordHere_161 : decode prog_14_method_41_code 161 = .ok (.ifCond .eq 8, 3) := by decide +kernel
theorem dModel_wordHere_164 : decode prog_14_method_41_code 164 = .ok (.bipush 98, 2) := by decide +kernel
theorem dModel_wordHere_166 : decode prog_14_method_41_code 166 = .ok (.goto 4, 3) := by decide +kernel
theorem dModel_wordHere_169 : decode prog_14_method_41_code 169 = .ok (.iconst 0, 1) := by decide +kernel
theorem dModel_wordHere_170 : decode prog_14_method_41_code 170 = .ok (.istore_n 3, 1) := by decide +kernel
theorem dModel_wordHere_171 : decode prog_14_method_41_code 171 = .ok (.iload_n 3, 1) := by decide +kernel
theorem dModel_wordHere_172 : decode prog_14_method_41_code 172 = .ok (.bipush 68, 2) := by decide +kernel
theorem dModel_wordHere_174 : decode prog_14_method_41_code 174 = .ok (.if_icmp .ne 19, 3) := by decide +kernel
theorem dModel_wordHere_177 : decode prog_14_method_41_code 177 = .ok (.iload_n 1, 1) := by decide +kernel
theorem dModel_wordHere_178 : decode prog_14_method_41_code 178 = .ok (.ifCond .ne 7, 3) := by decide +kernel
theorem dModel_wordHere_181 : decode prog_14_method_41_code 181 = .ok (.iload_n 2, 1) := by decide +kernel
theorem dModel_wordHere_182 : decode prog_14_method_41_code 182 = .ok (.ifCond .eq 7, 3) := by decide +kernel
theorem dModel_wordHere_185 : decode prog_14_method_41_code 185 = .ok (.iconst 1, 1) := by decide +kernel
theorem dModel_wordHere_186 : decode prog_14_method_41_code 186 = .ok (.goto 24, 3) := by decide +kernel
theorem dModel_wordHere_189 : decode prog_14_method_41_code 189 = .ok (.iconst 0, 1) := by decide +kernel
theorem dModel_wordHere_190 : decode prog_14_method_41_code 190 = .ok (.goto 20, 3) := by decide +kernel
theorem dModel_wordHere_193 : decode prog_14_method_41_code 193 = .ok (.iload_n 3, 1) := by decide +kernel
theorem dModel_wordHere_194 : decode prog_14_method_41_code 194 = .ok (.bipush 115, 2) := by decide +kernel
theorem dModel_wordHere_196 : decode prog_14_method_41_code 196 = .ok (.if_icmp .eq 9, 3) := by decide +kernel
theorem dModel_wordHere_199 : decode prog_14_method_41_code 199 = .ok (.iload_n 3, 1) := by decide +kernel
theorem dModel_wordHere_200 : decode prog_14_method_41_code 200 = .ok (.bipush 110, 2) := by decide +kernel
theorem dModel_wordHere_202 : decode prog_14_method_41_code 202 = .ok (.if_icmp .ne 7, 3) := by decide +kernel
theorem dModel_wordHere_205 : decode prog_14_method_41_code 205 = .ok (.iload_n 1, 1) := by decide +kernel
theorem dModel_wordHere_206 : decode prog_14_method_41_code 206 = .ok (.goto 4, 3) := by decide +kernel
theorem dModel_wordHere_209 : decode prog_14_method_41_code 209 = .ok (.iload_n 2, 1) := by decide +kernel
theorem dModel_wordHere_210 : decode prog_14_method_41_code 210 = .ok (.istore 4, 2) := by decide +kernel
theorem dModel_wordHere_212 : decode prog_14_method_41_code 212 = .ok (.iload_n 3, 1) := by decide +kernel
theorem dModel_wordHere_213 : decode prog_14_method_41_code 213 = .ok (.ifCond .eq 26, 3) := by decide +kernel
theorem dModel_wordHere_216 : decode prog_14_method_41_code 216 = .ok (.iload 4, 2) := by decide +kernel
theorem dModel_wordHere_218 : decode prog_14_method_41_code 218 = .ok (.ifCond .ne 21, 3) := by decide +kernel
theorem dModel_wordHere_221 : decode prog_14_method_41_code 221 = .ok (.aload_n 0, 1) := by decide +kernel
theorem dModel_wordHere_222 : decode prog_14_method_41_code 222 = .ok (.getfield 291, 3) := by decide +kernel
theorem dModel_wordHere_225 : decode prog_14_method_41_code 225 = .ok (.bipush 100, 2) := by decide +kernel
theorem dModel_wordHere_227 : decode prog_14_method_41_code 227 = .ok (.if_icmp .ge 12, 3) := by decide +kernel
theorem dModel_wordHere_230 : decode prog_14_method_41_code 230 = .ok (.aload_n 0, 1) := by decide +kernel
theorem dModel_wordHere_231 : decode prog_14_method_41_code 231 = .ok (.iconst 5, 1) := by decide +kernel
theorem dModel_wordHere_232 : decode prog_14_method_41_code 232 = .ok (.aload_n 0, 1) := by decide +kernel
theorem dModel_wordHere_233 : decode prog_14_method_41_code 233 = .ok (.getfield 95, 3) := by decide +kernel
theorem dModel_wordHere_236 : decode prog_14_method_41_code 236 = .ok (.invokevirtual 122, 3) := by decide +kernel
theorem dModel_wordHere_239 : decode prog_14_method_41_code 239 = .ok (.iload_n 3, 1) := by decide +kernel
theorem dModel_wordHere_240 : decode prog_14_method_41_code 240 = .ok (.ireturn, 1) := by decide +kernel
theorem dModel_unit_0 : decode prog_14_method_42_code 0 = .ok (.aload_n 0, 1) := by decide +kernel
theorem dModel_unit_1 : decode prog_14_method_42_code 1 = .ok (.getfield 315, 3) := by decide +kernel
theorem dModel_unit_4 : decode prog_14_method_42_code 4 = .ok (.aload_n 0, 1) := by decide +kernel
theorem dModel_unit_5 : decode prog_14_method_42_code 5 = .ok (.getfield 318, 3) := by decide +kernel
theorem dModel_unit_8 : decode prog_14_method_42_code 8 = .ok (.iconst 1, 1) := by decide +kernel
theorem dModel_unit_9 : decode prog_14_method_42_code 9 = .ok (.isub, 1) := by decide +kernel
theorem dModel_unit_10 : decode prog_14_method_42_code 10 = .ok (.iaload, 1) := by decide +kernel
theorem dModel_unit_11 : decode prog_14_method_42_code 11 = .ok (.iconst 3, 1) := by decide +kernel
theorem dModel_unit_12 : decode prog_14_method_42_code 12 = .ok (.if_icmp .le 19, 3) := by decide +kernel
theorem dModel_unit_15 : decode prog_14_method_42_code 15 = .ok (.aload_n 0, 1) := by decide +kernel
theorem dModel_unit_16 : decode prog_14_method_42_code 16 = .ok (.getfield 315, 3) := by decide +kernel
theorem dModel_unit_19 : decode prog_14_method_42_code 19 = .ok (.aload_n 0, 1) := by decide +kernel
theorem dModel_unit_20 : decode prog_14_method_42_code 20 = .ok (.getfield 318, 3) := by decide +kernel
theorem dModel_unit_23 : decode prog_14_method_42_code 23 = .ok (.iconst 1, 1) := by decide +kernel
theorem dModel_unit_24 : decode prog_14_method_42_code 24 = .ok (.isub, 1) := by decide +kernel
theorem dModel_unit_25 : decode prog_14_method_42_code 25 = .ok (.iaload, 1) := by decide +kernel
theorem dModel_unit_26 : decode prog_14_method_42_code 26 = .ok (.bipush 7, 2) := by decide +kernel
theorem dModel_unit_28 : decode prog_14_method_42_code 28 = .ok (.if_icmp .lt 7, 3) := by decide +kernel
theorem dModel_unit_31 : decode prog_14_method_42_code 31 = .ok (.iconst 1, 1) := by decide +kernel
theorem dModel_unit_32 : decode prog_14_method_42_code 32 = .ok (.goto 4, 3) := by decide +kernel
theorem dModel_unit_35 : decode prog_14_method_42_code 35 = .ok (.iconst 0, 1) := by decide +kernel
theorem dModel_unit_36 : decode prog_14_method_42_code 36 = .ok (.istore_n 1, 1) := by decide +kernel
theorem dModel_unit_37 : decode prog_14_method_42_code 37 = .ok (.iload_n 1, 1) := by decide +kernel
theorem dModel_unit_38 : decode prog_14_method_42_code 38 = .ok (.ifCond .eq 58, 3) := by decide +kernel
theorem dModel_unit_41 : decode prog_14_method_42_code 41 = .ok (.aload_n 0, 1) := by decide +kernel
theorem dModel_unit_42 : decode prog_14_method_42_code 42 = .ok (.ldc2_w 61, 3) := by decide +kernel
theorem dModel_unit_45 : decode prog_14_method_42_code 45 = .ok (.invokevirtual 178, 3) := by decide +kernel
theorem dModel_unit_48 : decode prog_14_method_42_code 48 = .ok (.ifCond .eq 48, 3) := by decide +kernel
theorem dModel_unit_51 : decode prog_14_method_42_code 51 = .ok (.aload_n 0, 1) := by decide +kernel
theorem dModel_unit_52 : decode prog_14_method_42_code 52 = .ok (.getfield 324, 3) := by decide +kernel
theorem dModel_unit_55 : decode prog_14_method_42_code 55 = .ok (.bipush 7, 2) := by decide +kernel
theorem dModel_unit_57 : decode prog_14_method_42_code 57 = .ok (.if_icmp .ne 7, 3) := by decide +kernel
theorem dModel_unit_60 : decode prog_14_method_42_code 60 = .ok (.aload_n 0, 1) := by decide +kernel
theorem dModel_unit_61 : decode prog_14_method_42_code 61 = .ok (.invokevirtual 134, 3) := by decide +kernel
theorem dModel_unit_64 : decode prog_14_method_42_code 64 = .ok (.aload_n 0, 1) := by decide +kernel
theorem dModel_unit_65 : decode prog_14_method_42_code 65 = .ok (.invokevirtual 126, 3) := by decide +kernel
theorem dModel_unit_68 : decode prog_14_method_42_code 68 = .ok (.ifCond .ne 5, 3) := by decide +kernel
theorem dModel_unit_71 : decode prog_14_method_42_code 71 = .ok (.iconst 1, 1) := by decide +kernel
theorem dModel_unit_72 : decode prog_14_method_42_code 72 = .ok (.ireturn, 1) := by decide +kernel
theorem dModel_unit_73 : decode prog_14_method_42_code 73 = .ok (.aload_n 0, 1) := by decide +kernel
theorem dModel_unit_74 : decode prog_14_method_42_code 74 = .ok (.iconst 3, 1) := by decide +kernel
theorem dModel_unit_75 : decode prog_14_method_42_code 75 = .ok (.bipush 126, 2) := by decide +kernel
theorem dModel_unit_77 : decode prog_14_method_42_code 77 = .ok (.invokevirtual 327, 3) := by decide +kernel
theorem dModel_unit_80 : decode prog_14_method_42_code 80 = .ok (.aload_n 0, 1) := by decide +kernel
theorem dModel_unit_81 : decode prog_14_method_42_code 81 = .ok (.dup, 1) := by decide +kernel
theorem dModel_unit_82 : decode prog_14_method_42_code 82 = .ok (.getfield 324, 3) := by decide +kernel
theorem dModel_unit_85 : decode prog_14_method_42_code 85 = .ok (.iconst 1, 1) := by decide +kernel
theorem dModel_unit_86 : decode prog_14_method_42_code 86 = .ok (.iadd, 1) := by decide +kernel
theorem dModel_unit_87 : decode prog_14_method_42_code 87 = .ok (.putfield 324, 3) := by decide +kernel
theorem dModel_unit_90 : decode prog_14_method_42_code 90 = .ok (.aload_n 0, 1) := by decide +kernel
theorem dModel_unit_91 : decode prog_14_method_42_code 91 = .ok (.invokevirtual 130, 3) := by decide +kernel
theorem dModel_unit_94 : decode prog_14_method_42_code 94 = .ok (.iconst 1, 1) := by decide +kernel
theorem dModel_unit_95 : decode prog_14_method_42_code 95 = .ok (.ireturn, 1) := by decide +kernel
theorem dModel_unit_96 : decode prog_14_method_42_code 96 = .ok (.aload_n 0, 1) := by decide +kernel
theorem dModel_unit_97 : decode prog_14_method_42_code 97 = .ok (.invokevirtual 336, 3) := by decide +kernel
theorem dModel_unit_100 : decode prog_14_method_42_code 100 = .ok (.istore_n 2, 1) := by decide +kernel
theorem dModel_unit_101 : decode prog_14_method_42_code 101 = .ok (.aload_n 0, 1) := by decide +kernel
theorem dModel_unit_102 : decode prog_14_method_42_code 102 = .ok (.invokevirtual 126, 3) := by decide +kernel
theorem dModel_unit_105 : decode prog_14_method_42_code 105 = .ok (.ifCond .ne 5, 3) := by decide +kernel
theorem dModel_unit_108 : decode prog_14_method_42_code 108 = .ok (.iconst 1, 1) := by decide +kernel
theorem dModel_unit_109 : decode prog_14_method_42_code 109 = .ok (.ireturn, 1) := by decide +kernel
theorem dModel_unit_110 : decode prog_14_method_42_code 110 = .ok (.iload_n 2, 1) := by decide +kernel
theorem dModel_unit_111 : decode prog_14_method_42_code 111 = .ok (.ifCond .ne 20, 3) := by decide +kernel
theorem dModel_unit_114 : decode prog_14_method_42_code 114 = .ok (.aload_n 0, 1) := by decide +kernel
theorem dModel_unit_115 : decode prog_14_method_42_code 115 = .ok (.getfield 98, 3) := by decide +kernel
theorem dModel_unit_118 : decode prog_14_method_42_code 118 = .ok (.iconst 4, 1) := by decide +kernel
theorem dModel_unit_119 : decode prog_14_method_42_code 119 = .ok (.if_icmp .eq 12, 3) := by decide +kernel
theorem dModel_unit_122 : decode prog_14_method_42_code 122 = .ok (.aload_n 0, 1) := by decide +kernel
theorem dModel_unit_123 : decode prog_14_method_42_code 123 = .ok (.bipush 40, 2) := by decide +kernel
theorem dModel_unit_125 : decode prog_14_method_42_code 125 = .ok (.invokevirtual 193, 3) := by decide +kernel
theorem dModel_unit_128 : decode prog_14_method_42_code 128 = .ok (.ifCond .eq 12, 3) := by decide +kernel
theorem dModel_unit_131 : decode prog_14_method_42_code 131 = .ok (.aload_n 0, 1) := by decide +kernel
theorem dModel_unit_132 : decode prog_14_method_42_code 132 = .ok (.getfield 291, 3) := by decide +kernel
theorem dModel_unit_135 : decode prog_14_method_42_code 135 = .ok (.bipush 100, 2) := by decide +kernel
theorem dModel_unit_137 : decode prog_14_method_42_code 137 = .ok (.if_icmp .ne 7, 3) := by decide +kernel
theorem dModel_unit_140 : decode prog_14_method_42_code 140 = .ok (.aload_n 0, 1) := by decide +kernel
theorem dModel_unit_141 : decode prog_14_method_42_code 141 = .ok (.invokevirtual 134, 3) := by decide +kernel
theorem dModel_unit_144 : decode prog_14_method_42_code 144 = .ok (.aload_n 0, 1) := by decide +kernel
theorem dModel_unit_145 : decode prog_14_method_42_code 145 = .ok (.invokevirtual 126, 3) := by decide +kernel
theorem dModel_unit_148 : decode prog_14_method_42_code 148 = .ok (.ifCond .ne 5, 3) := by decide +kernel
theorem dModel_unit_151 : decode prog_14_method_42_code 151 = .ok (.iconst 1, 1) := by decide +kernel
theorem dModel_unit_152 : decode prog_14_method_42_code 152 = .ok (.ireturn, 1) := by decide +kernel
theorem dModel_unit_153 : decode prog_14_method_42_code 153 = .ok (.aload_n 0, 1) := by decide +kernel
theorem dModel_unit_154 : decode prog_14_method_42_code 154 = .ok (.dup, 1) := by decide +kernel
theorem dModel_unit_155 : decode prog_14_method_42_code 155 = .ok (.getfield 291, 3) := by decide +kernel
theorem dModel_unit_158 : decode prog_14_method_42_code 158 = .ok (.iconst 1, 1) := by decide +kernel
theorem dModel_unit_159 : decode prog_14_method_42_code 159 = .ok (.iadd, 1) := by decide +kernel
theorem dModel_unit_160 : decode prog_14_method_42_code 160 = .ok (.putfield 291, 3) := by decide +kernel
theorem dModel_unit_163 : decode prog_14_method_42_code 163 = .ok (.aload_n 0, 1) := by decide +kernel
theorem dModel_unit_164 : decode prog_14_method_42_code 164 = .ok (.bipush 40, 2) := by decide +kernel
theorem dModel_unit_166 : decode prog_14_method_42_code 166 = .ok (.invokevirtual 193, 3) := by decide +kernel
theorem dModel_unit_169 : decode prog_14_method_42_code 169 = .ok (.ifCond .eq 48, 3) := by decide +kernel
theorem dModel_unit_172 : decode prog_14_method_42_code 172 = .ok (.aload_n 0, 1) := by decide +kernel
theorem dModel_unit_173 : decode prog_14_method_42_code 173 = .ok (.getfield 324, 3) := by decide +kernel
theorem dModel_unit_176 : decode prog_14_method_42_code 176 = .ok (.bipush 7, 2) := by decide +kernel
theorem dModel_unit_178 : decode prog_14_method_42_code 178 = .ok (.if_icmp .ne 7, 3) := by decide +kernel
theorem dModel_unit_181 : decode prog_14_method_42_code 181 = .ok (.aload_n 0, 1) := by decide +kernel
theorem dModel_unit_182 : decode prog_14_method_42_code 182 = .ok (.invokevirtual 134, 3) := by decide +kernel
theorem dModel_unit_185 : decode prog_14_method_42_code 185 = .ok (.aload_n 0, 1) := by decide +kernel
theorem dModel_unit_186 : decode prog_14_method_42_code 186 = .ok (.invokevirtual 126, 3) := by decide +kernel
theorem dModel_unit_189 : decode prog_14_method_42_code 189 = .ok (.ifCond .ne 5, 3) := by decide +kernel
theorem dModel_unit_192 : decode prog_14_method_42_code 192 = .ok (.iconst 1, 1) := by decide +kernel
theorem dModel_unit_193 : decode prog_14_method_42_code 193 = .ok (.ireturn, 1) := by decide +kernel
theorem dModel_unit_194 : decode prog_14_method_42_code 194 = .ok (.aload_n 0, 1) := by decide +kernel
theorem dModel_unit_195 : decode prog_14_method_42_code 195 = .ok (.bipush 7, 2) := by decide +kernel
theorem dModel_unit_197 : decode prog_14_method_42_code 197 = .ok (.iconst 0, 1) := by decide +kernel
theorem dModel_unit_198 : decode prog_14_method_42_code 198 = .ok (.invokevirtual 327, 3) := by decide +kernel
theorem dModel_unit_201 : decode prog_14_method_42_code 201 = .ok (.aload_n 0, 1) := by decide +kernel
theorem dModel_unit_202 : decode prog_14_method_42_code 202 = .ok (.dup, 1) := by decide +kernel
theorem dModel_unit_203 : decode prog_14_method_42_code 203 = .ok (.getfield 324, 3) := by decide +kernel
theorem dModel_unit_206 : decode prog_14_method_42_code 206 = .ok (.iconst 1, 1) := by decide +kernel
theorem dModel_unit_207 : decode prog_14_method_42_code 207 = .ok (.iadd, 1) := by decide +kernel
theorem dModel_unit_208 : decode prog_14_method_42_code 208 = .ok (.putfield 324, 3) := by decide +kernel
theorem dModel_unit_211 : decode prog_14_method_42_code 211 = .ok (.aload_n 0, 1) := by decide +kernel
theorem dModel_unit_212 : decode prog_14_method_42_code 212 = .ok (.invokevirtual 130, 3) := by decide +kernel
theorem dModel_unit_215 : decode prog_14_method_42_code 215 = .ok (.iconst 1, 1) := by decide +kernel
theorem dModel_unit_216 : decode prog_14_method_42_code 216 = .ok (.ireturn, 1) := by decide +kernel
theorem dModel_unit_217 : decode prog_14_method_42_code 217 = .ok (.aload_n 0, 1) := by decide +kernel
theorem dModel_unit_218 : decode prog_14_method_42_code 218 = .ok (.iload_n 2, 1) := by decide +kernel
theorem dModel_unit_219 : decode prog_14_method_42_code 219 = .ok (.ifCond .ne 8, 3) := by decide +kernel
theorem dModel_unit_222 : decode prog_14_method_42_code 222 = .ok (.bipush 78, 2) := by decide +kernel
theorem dModel_unit_224 : decode prog_14_method_42_code 224 = .ok (.goto 4, 3) := by decide +kernel
theorem dModel_unit_227 : decode prog_14_method_42_code 227 = .ok (.iload_n 2, 1) := by decide +kernel
theorem dModel_unit_228 : decode prog_14_method_42_code 228 = .ok (.iload_n 2, 1) := by decide +kernel
theorem dModel_unit_229 : decode prog_14_method_42_code 229 = .ok (.ifCond .ne 10, 3) := by decide +kernel
theorem dModel_unit_232 : decode prog_14_method_42_code 232 = .ok (.aload_n 0, 1) := by decide +kernel
theorem dModel_unit_233 : decode prog_14_method_42_code 233 = .ok (.getfield 108, 3) := by decide +kernel
theorem dModel_unit_236 : decode prog_14_method_42_code 236 = .ok (.goto 4, 3) := by decide +kernel
theorem dModel_unit_239 : decode prog_14_method_42_code 239 = .ok (.iconst 0, 1) := by decide +kernel
theorem dModel_unit_240 : decode prog_14_method_42_code 240 = .ok (.invokevirtual 339, 3) := by decide +kernel
theorem dModel_unit_243 : decode prog_14_method_42_code 243 = .ok (.aload_n 0, 1) := by decide +kernel
theorem dModel_unit_244 : decode prog_14_method_42_code 244 = .ok (.invokevirtual 130, 3) := by decide +kernel
theorem dModel_unit_247 : decode prog_14_method_42_code 247 = .ok (.iconst 0, 1) := by decide +kernel
theorem dModel_unit_248 : decode prog_14_method_42_code 248 = .ok (.ireturn, 1) := by decide +kernel
theorem dModel_rankHere_0 : decode prog_14_method_43_code 0 = .ok (.aload_n 0, 1) := by decide +kernel
theorem dModel_rankHere_1 : decode prog_14_method_43_code 1 = .ok (.ldc2_w 57, 3) := by decide +kernel
theorem dModel_rankHere_4 : decode prog_14_method_43_code 4 = .ok (.invokevirtual 178, 3) := by decide +kernel
theorem dModel_rankHere_7 : decode prog_14_method_43_code 7 = .ok (.ifCond .eq 5, 3) := by decide +kernel
theorem dModel_rankHere_10 : decode prog_14_method_43_code 10 = .ok (.iconst 2, 1) := by decide +kernel
theorem dModel_rankHere_11 : decode prog_14_method_43_code 11 = .ok (.ireturn, 1) := by decide +kernel
theorem dModel_rankHere_12 : decode prog_14_method_43_code 12 = .ok (.aload_n 0, 1) := by decide +kernel
theorem dModel_rankHere_13 : decode prog_14_method_43_code 13 = .ok (.ldc2_w 59, 3) := by decide +kernel
theorem dModel_rankHere_16 : decode prog_14_method_43_code 16 = .ok (.invokevirtual 178, 3) := by decide +kernel
theorem dModel_rankHere_19 : decode prog_14_method_43_code 19 = .ok (.ifCond .eq 5, 3) := by decide +kernel
theorem dModel_rankHere_22 : decode prog_14_method_43_code 22 = .ok (.iconst 1, 1) := by decide +kernel
theorem dModel_rankHere_23 : decode prog_14_method_43_code 23 = .ok (.ireturn, 1) := by decide +kernel
theorem dModel_rankHere_24 : decode prog_14_method_43_code 24 = .ok (.aload_n 0, 1) := by decide +kernel
theorem dModel_rankHere_25 : decode prog_14_method_43_code 25 = .ok (.bipush 60, 2) := by decide +kernel
theorem dModel_rankHere_27 : decode prog_14_method_43_code 27 = .ok (.invokevirtual 193, 3) := by decide +kernel
theorem dModel_rankHere_30 : decode prog_14_method_43_code 30 = .ok (.ifCond .ne 21, 3) := by decide +kernel
theorem dModel_rankHere_33 : decode prog_14_method_43_code 33 = .ok (.aload_n 0, 1) := by decide +kernel
theorem dModel_rankHere_34 : decode prog_14_method_43_code 34 = .ok (.bipush 62, 2) := by decide +kernel
theorem dModel_rankHere_36 : decode prog_14_method_43_code 36 = .ok (.invokevirtual 193, 3) := by decide +kernel
theorem dModel_rankHere_39 : decode prog_14_method_43_code 39 = .ok (.ifCond .ne 12, 3) := by decide +kernel
theorem dModel_rankHere_42 : decode prog_14_method_43_code 42 = .ok (.aload_n 0, 1) := by decide +kernel
theorem dModel_rankHere_43 : decode prog_14_method_43_code 43 = .ok (.bipush 61, 2) := by decide +kernel
theorem dModel_rankHere_45 : decode prog_14_method_43_code 45 = .ok (.invokevirtual 193, 3) := by decide +kernel
theorem dModel_rankHere_48 : decode prog_14_method_43_code 48 = .ok (.ifCond .eq 5, 3) := by decide +kernel
theorem dModel_rankHere_51 : decode prog_14_method_43_code 51 = .ok (.iconst 4, 1) := by decide +kernel
theorem dModel_rankHere_52 : decode prog_14_method_43_code 52 = .ok (.ireturn, 1) := by decide +kernel
theorem dModel_rankHere_53 : decode prog_14_method_43_code 53 = .ok (.aload_n 0, 1) := by decide +kernel
theorem dModel_rankHere_54 : decode prog_14_method_43_code 54 = .ok (.bipush 43, 2) := by decide +kernel
theorem dModel_rankHere_56 : decode prog_14_method_43_code 56 = .ok (.invokevirtual 193, 3) := by decide +kernel
theorem dModel_rankHere_59 : decode prog_14_method_43_code 59 = .ok (.ifCond .ne 12, 3) := by decide +kernel
theorem dModel_rankHere_62 : decode prog_14_method_43_code 62 = .ok (.aload_n 0, 1) := by decide +kernel
theorem dModel_rankHere_63 : decode prog_14_method_43_code 63 = .ok (.bipush 45, 2) := by decide +kernel
theorem dModel_rankHere_65 : decode prog_14_method_43_code 65 = .ok (.invokevirtual 193, 3) := by decide +kernel
theorem dModel_rankHere_68 : decode prog_14_method_43_code 68 = .ok (.ifCond .eq 5, 3) := by decide +kernel
theorem dModel_rankHere_71 : decode prog_14_method_43_code 71 = .ok (.iconst 5, 1) := by decide +kernel
theorem dModel_rankHere_72 : decode prog_14_method_43_code 72 = .ok (.ireturn, 1) := by decide +kernel
theorem dModel_rankHere_73 : decode prog_14_method_43_code 73 = .ok (.aload_n 0, 1) := by decide +kernel
theorem dModel_rankHere_74 : decode prog_14_method_43_code 74 = .ok (.bipush 42, 2) := by decide +kernel
theorem dModel_rankHere_76 : decode prog_14_method_43_code 76 = .ok (.invokevirtual 193, 3) := by decide +kernel
theorem dModel_rankHere_79 : decode prog_14_method_43_code 79 = .ok (.ifCond .ne 12, 3) := by decide +kernel
theorem dModel_rankHere_82 : decode prog_14_method_43_code 82 = .ok (.aload_n 0, 1) := by decide +kernel
theorem dModel_rankHere_83 : decode prog_14_method_43_code 83 = .ok (.bipush 47, 2) := by decide +kernel
theorem dModel_rankHere_85 : decode prog_14_method_43_code 85 = .ok (.invokevirtual 193, 3) := by decide +kernel
theorem dModel_rankHere_88 : decode prog_14_method_43_code 88 = .ok (.ifCond .eq 8, 3) := by decide +kernel
theorem dModel_rankHere_91 : decode prog_14_method_43_code 91 = .ok (.bipush 6, 2) := by decide +kernel
theorem dModel_rankHere_93 : decode prog_14_method_43_code 93 = .ok (.goto 4, 3) := by decide +kernel
theorem dModel_rankHere_96 : decode prog_14_method_43_code 96 = .ok (.iconst 0, 1) := by decide +kernel
theorem dModel_rankHere_97 : decode prog_14_method_43_code 97 = .ok (.ireturn, 1) := by decide +kernel
theorem dModel_behind_0 : decode prog_14_method_44_code 0 = .ok (.aload_n 0, 1) := by decide +kernel
theorem dModel_behind_1 : decode prog_14_method_44_code 1 = .ok (.invokevirtual 342, 3) := by decide +kernel
theorem dModel_behind_4 : decode prog_14_method_44_code 4 = .ok (.istore_n 1, 1) := by decide +kernel
theorem dModel_behind_5 : decode prog_14_method_44_code 5 = .ok (.iload_n 1, 1) := by decide +kernel
theorem dModel_behind_6 : decode prog_14_method_44_code 6 = .ok (.iconst 4, 1) := by decide +kernel
theorem dModel_behind_7 : decode prog_14_method_44_code 7 = .ok (.if_icmp .ne 14, 3) := by decide +kernel
theorem dModel_behind_10 : decode prog_14_method_44_code 10 = .ok (.aload_n 0, 1) := by decide +kernel
theorem dModel_behind_11 : decode prog_14_method_44_code 11 = .ok (.invokevirtual 345, 3) := by decide +kernel
theorem dModel_behind_14 : decode prog_14_method_44_code 14 = .ok (.ifCond .eq 7, 3) := by decide +kernel
theorem dModel_behind_17 : decode prog_14_method_44_code 17 = .ok (.iconst 1, 1) := by decide +kernel
theorem dModel_behind_18 : decode prog_14_method_44_code 18 = .ok (.goto 4, 3) := by decide +kernel
theorem dModel_behind_21 : decode prog_14_method_44_code 21 = .ok (.iconst 0, 1) := by decide +kernel
theorem dModel_behind_22 : decode prog_14_method_44_code 22 = .ok (.istore_n 2, 1) := by decide +kernel
theorem dModel_behind_23 : decode prog_14_method_44_code 23 = .ok (.aload_n 0, 1) := by decide +kernel
theorem dModel_behind_24 : decode prog_14_method_44_code 24 = .ok (.getfield 315, 3) := by decide +kernel
theorem dModel_behind_27 : decode prog_14_method_44_code 27 = .ok (.aload_n 0, 1) := by decide +kernel
theorem dModel_behind_28 : decode prog_14_method_44_code 28 = .ok (.getfield 318, 3) := by decide +kernel
theorem dModel_behind_31 : decode prog_14_method_44_code 31 = .ok (.iconst 1, 1) := by decide +kernel
theorem dModel_behind_32 : decode prog_14_method_44_code 32 = .ok (.isub, 1) := by decide +kernel
theorem dModel_behind_33 : decode prog_14_method_44_code 33 = .ok (.iaload, 1) := by decide +kernel
theorem dModel_behind_34 : decode prog_14_method_44_code 34 = .ok (.bipush 6, 2) := by decide +kernel
theorem dModel_behind_36 : decode prog_14_method_44_code 36 = .ok (.if_icmp .gt 72, 3) := by decide +kernel
theorem dModel_behind_39 : decode prog_14_method_44_code 39 = .ok (.aload_n 0, 1) := by decide +kernel
theorem dModel_behind_40 : decode prog_14_method_44_code 40 = .ok (.getfield 315, 3) := by decide +kernel
theorem dModel_behind_43 : decode prog_14_method_44_code 43 = .ok (.aload_n 0, 1) := by decide +kernel
theorem dModel_behind_44 : decode prog_14_method_44_code 44 = .ok (.getfield 318, 3) := by decide +kernel
theorem dModel_behind_47 : decode prog_14_method_44_code 47 = .ok (.iconst 1, 1) := by decide +kernel
theorem dModel_behind_48 : decode prog_14_method_44_code 48 = .ok (.isub, 1) := by decide +kernel
theorem dModel_behind_49 : decode prog_14_method_44_code 49 = .ok (.iaload, 1) := by decide +kernel
theorem dModel_behind_50 : decode prog_14_method_44_code 50 = .ok (.iload_n 1, 1) := by decide +kernel
theorem dModel_behind_51 : decode prog_14_method_44_code 51 = .ok (.if_icmp .lt 57, 3) := by decide +kernel
theorem dModel_behind_54 : decode prog_14_method_44_code 54 = .ok (.iload_n 2, 1) := by decide +kernel
theorem dModel_behind_55 : decode prog_14_method_44_code 55 = .ok (.ifCond .ne 53, 3) := by decide +kernel
theorem dModel_behind_58 : decode prog_14_method_44_code 58 = .ok (.aload_n 0, 1) := by decide +kernel
theorem dModel_behind_59 : decode prog_14_method_44_code 59 = .ok (.dup, 1) := by decide +kernel
theorem dModel_behind_60 : decode prog_14_method_44_code 60 = .ok (.getfield 318, 3) := by decide +kernel
theorem dModel_behind_63 : decode prog_14_method_44_code 63 = .ok (.iconst 1, 1) := by decide +kernel
theorem dModel_behind_64 : decode prog_14_method_44_code 64 = .ok (.isub, 1) := by decide +kernel
theorem dModel_behind_65 : decode prog_14_method_44_code 65 = .ok (.putfield 318, 3) := by decide +kernel
theorem dModel_behind_68 : decode prog_14_method_44_code 68 = .ok (.aload_n 0, 1) := by decide +kernel
theorem dModel_behind_69 : decode prog_14_method_44_code 69 = .ok (.getfield 315, 3) := by decide +kernel
theorem dModel_behind_72 : decode prog_14_method_44_code 72 = .ok (.aload_n 0, 1) := by decide +kernel
theorem dModel_behind_73 : decode prog_14_method_44_code 73 = .ok (.getfield 318, 3) := by decide +kernel
theorem dModel_behind_76 : decode prog_14_method_44_code 76 = .ok (.iaload, 1) := by decide +kernel
theorem dModel_behind_77 : decode prog_14_method_44_code 77 = .ok (.iconst 3, 1) := by decide +kernel
theorem dModel_behind_78 : decode prog_14_method_44_code 78 = .ok (.if_icmp .ne 13, 3) := by decide +kernel
theorem dModel_behind_81 : decode prog_14_method_44_code 81 = .ok (.aload_n 0, 1) := by decide +kernel
theorem dModel_behind_82 : decode prog_14_method_44_code 82 = .ok (.dup, 1) := by decide +kernel
theorem dModel_behind_83 : decode prog_14_method_44_code 83 = .ok (.getfield 324, 3) := by decide +kernel
theorem dModel_behind_86 : decode prog_14_method_44_code 86 = .ok (.iconst 1, 1) := by decide +kernel
theorem dModel_behind_87 : decode prog_14_method_44_code 87 = .ok (.isub, 1) := by decide +kernel
theorem dModel_behind_88 : decode prog_14_method_44_code 88 = .ok (.putfield 324, 3) := by decide +kernel
theorem dModel_behind_91 : decode prog_14_method_44_code 91 = .ok (.aload_n 0, 1) := by decide +kernel
theorem dModel_behind_92 : decode prog_14_method_44_code 92 = .ok (.aload_n 0, 1) := by decide +kernel
theorem dModel_behind_93 : decode prog_14_method_44_code 93 = .ok (.getfield 321, 3) := by decide +kernel
theorem dModel_behind_96 : decode prog_14_method_44_code 96 = .ok (.aload_n 0, 1) := by decide +kernel
theorem dModel_behind_97 : decode prog_14_method_44_code 97 = .ok (.getfield 318, 3) := by decide +kernel
theorem dModel_behind_100 : decode prog_14_method_44_code 100 = .ok (.iaload, 1) := by decide +kernel
theorem dModel_behind_101 : decode prog_14_method_44_code 101 = .ok (.iconst 0, 1) := by decide +kernel
theorem dModel_behind_102 : decode prog_14_method_44_code 102 = .ok (.invokevirtual 339, 3) := by decide +kernel
theorem dModel_behind_105 : decode prog_14_method_44_code 105 = .ok (.goto (-82), 3) := by decide +kernel
theorem dModel_behind_108 : decode prog_14_method_44_code 108 = .ok (.iload_n 1, 1) := by decide +kernel
theorem dModel_behind_109 : decode prog_14_method_44_code 109 = .ok (.ifCond .le 46, 3) := by decide +kernel
theorem dModel_behind_112 : decode prog_14_method_44_code 112 = .ok (.iload_n 2, 1) := by decide +kernel
theorem dModel_behind_113 : decode prog_14_method_44_code 113 = .ok (.ifCond .ne 42, 3) := by decide +kernel
theorem dModel_behind_116 : decode prog_14_method_44_code 116 = .ok (.aload_n 0, 1) := by decide +kernel
theorem dModel_behind_117 : decode prog_14_method_44_code 117 = .ok (.iload_n 1, 1) := by decide +kernel
theorem dModel_behind_118 : decode prog_14_method_44_code 118 = .ok (.iload_n 1, 1) := by decide +kernel
theorem dModel_behind_119 : decode prog_14_method_44_code 119 = .ok (.iconst 2, 1) := by decide +kernel
theorem dModel_behind_120 : decode prog_14_method_44_code 120 = .ok (.if_icmp .ne 8, 3) := by decide +kernel
theorem dModel_behind_123 : decode prog_14_method_44_code 123 = .ok (.bipush 38, 2) := by decide +kernel
theorem dModel_behind_125 : decode prog_14_method_44_code 125 = .ok (.goto 21, 3) := by decide +kernel
theorem dModel_behind_128 : decode prog_14_method_44_code 128 = .ok (.iload_n 1, 1) := by decide +kernel
theorem dModel_behind_129 : decode prog_14_method_44_code 129 = .ok (.iconst 1, 1) := by decide +kernel
theorem dModel_behind_130 : decode prog_14_method_44_code 130 = .ok (.if_icmp .ne 8, 3) := by decide +kernel
theorem dModel_behind_133 : decode prog_14_method_44_code 133 = .ok (.bipush 124, 2) := by decide +kernel
theorem dModel_behind_135 : decode prog_14_method_44_code 135 = .ok (.goto 11, 3) := by decide +kernel
theorem dModel_behind_138 : decode prog_14_method_44_code 138 = .ok (.aload_n 0, 1) := by decide +kernel
theorem dModel_behind_139 : decode prog_14_method_44_code 139 = .ok (.aload_n 0, 1) := by decide +kernel
theorem dModel_behind_140 : decode prog_14_method_44_code 140 = .ok (.getfield 95, 3) := by decide +kernel
theorem dModel_behind_143 : decode prog_14_method_44_code 143 = .ok (.invokevirtual 81, 3) := by decide +kernel
theorem dModel_behind_146 : decode prog_14_method_44_code 146 = .ok (.invokevirtual 327, 3) := by decide +kernel
theorem dModel_behind_149 : decode prog_14_method_44_code 149 = .ok (.aload_n 0, 1) := by decide +kernel
theorem dModel_behind_150 : decode prog_14_method_44_code 150 = .ok (.invokevirtual 130, 3) := by decide +kernel
theorem dModel_behind_153 : decode prog_14_method_44_code 153 = .ok (.iconst 1, 1) := by decide +kernel
theorem dModel_behind_154 : decode prog_14_method_44_code 154 = .ok (.ireturn, 1) := by decide +kernel
theorem dModel_behind_155 : decode prog_14_method_44_code 155 = .ok (.iload_n 2, 1) := by decide +kernel
theorem dModel_behind_156 : decode prog_14_method_44_code 156 = .ok (.ifCond .eq 9, 3) := by decide +kernel
theorem dModel_behind_159 : decode prog_14_method_44_code 159 = .ok (.aload_n 0, 1) := by decide +kernel
theorem dModel_behind_160 : decode prog_14_method_44_code 160 = .ok (.invokevirtual 134, 3) := by decide +kernel
theorem dModel_behind_163 : decode prog_14_method_44_code 163 = .ok (.iconst 1, 1) := by decide +kernel
theorem dModel_behind_164 : decode prog_14_method_44_code 164 = .ok (.ireturn, 1) := by decide +kernel
theorem dModel_behind_165 : decode prog_14_method_44_code 165 = .ok (.aload_n 0, 1) := by decide +kernel
theorem dModel_behind_166 : decode prog_14_method_44_code 166 = .ok (.dup, 1) := by decide +kernel
theorem dModel_behind_167 : decode prog_14_method_44_code 167 = .ok (.getfield 318, 3) := by decide +kernel
theorem dModel_behind_170 : decode prog_14_method_44_code 170 = .ok (.iconst 1, 1) := by decide +kernel
theorem dModel_behind_171 : decode prog_14_method_44_code 171 = .ok (.isub, 1) := by decide +kernel
theorem dModel_behind_172 : decode prog_14_method_44_code 172 = .ok (.putfield 318, 3) := by decide +kernel
theorem dModel_behind_175 : decode prog_14_method_44_code 175 = .ok (.aload_n 0, 1) := by decide +kernel
theorem dModel_behind_176 : decode prog_14_method_44_code 176 = .ok (.getfield 315, 3) := by decide +kernel
theorem dModel_behind_179 : decode prog_14_method_44_code 179 = .ok (.aload_n 0, 1) := by decide +kernel
theorem dModel_behind_180 : decode prog_14_method_44_code 180 = .ok (.getfield 318, 3) := by decide +kernel
theorem dModel_behind_183 : decode prog_14_method_44_code 183 = .ok (.iaload, 1) := by decide +kernel
theorem dModel_behind_184 : decode prog_14_method_44_code 184 = .ok (.bipush 7, 2) := by decide +kernel
theorem dModel_behind_186 : decode prog_14_method_44_code 186 = .ok (.if_icmp .ne 23, 3) := by decide +kernel
theorem dModel_behind_189 : decode prog_14_method_44_code 189 = .ok (.aload_n 0, 1) := by decide +kernel
theorem dModel_behind_190 : decode prog_14_method_44_code 190 = .ok (.dup, 1) := by decide +kernel
theorem dModel_behind_191 : decode prog_14_method_44_code 191 = .ok (.getfield 324, 3) := by decide +kernel
theorem dModel_behind_194 : decode prog_14_method_44_code 194 = .ok (.iconst 1, 1) := by decide +kernel
theorem dModel_behind_195 : decode prog_14_method_44_code 195 = .ok (.isub, 1) := by decide +kernel
theorem dModel_behind_196 : decode prog_14_method_44_code 196 = .ok (.putfield 324, 3) := by decide +kernel
theorem dModel_behind_199 : decode prog_14_method_44_code 199 = .ok (.aload_n 0, 1) := by decide +kernel
theorem dModel_behind_200 : decode prog_14_method_44_code 200 = .ok (.aload_n 0, 1) := by decide +kernel
theorem dModel_behind_201 : decode prog_14_method_44_code 201 = .ok (.bipush 41, 2) := by decide +kernel
theorem dModel_behind_203 : decode prog_14_method_44_code 203 = .ok (.invokevirtual 193, 3) := by decide +kernel
theorem dModel_behind_206 : decode prog_14_method_44_code 206 = .ok (.invokevirtual 196, 3) := by decide +kernel
theorem dModel_behind_209 : decode prog_14_method_44_code 209 = .ok (.iconst 0, 1) := by decide +kernel
theorem dModel_behind_210 : decode prog_14_method_44_code 210 = .ok (.ireturn, 1) := by decide +kernel
theorem dModel_isCompared_0 : decode prog_14_method_45_code 0 = .ok (.aload_n 0, 1) := by decide +kernel
theorem dModel_isCompared_1 : decode prog_14_method_45_code 1 = .ok (.getfield 318, 3) := by decide +kernel
theorem dModel_isCompared_4 : decode prog_14_method_45_code 4 = .ok (.iconst 1, 1) := by decide +kernel
theorem dModel_isCompared_5 : decode prog_14_method_45_code 5 = .ok (.isub, 1) := by decide +kernel
theorem dModel_isCompared_6 : decode prog_14_method_45_code 6 = .ok (.istore_n 1, 1) := by decide +kernel
theorem dModel_isCompared_7 : decode prog_14_method_45_code 7 = .ok (.aload_n 0, 1) := by decide +kernel
theorem dModel_isCompared_8 : decode prog_14_method_45_code 8 = .ok (.getfield 315, 3) := by decide +kernel
theorem dModel_isCompared_11 : decode prog_14_method_45_code 11 = .ok (.iload_n 1, 1) := by decide +kernel
theorem dModel_isCompared_12 : decode prog_14_method_45_code 12 = .ok (.iaload, 1) := by decide +kernel
theorem dModel_isCompared_13 : decode prog_14_method_45_code 13 = .ok (.iconst 5, 1) := by decide +kernel
theorem dModel_isCompared_14 : decode prog_14_method_45_code 14 = .ok (.if_icmp .eq 14, 3) := by decide +kernel
theorem dModel_isCompared_17 : decode prog_14_method_45_code 17 = .ok (.aload_n 0, 1) := by decide +kernel
theorem dModel_isCompared_18 : decode prog_14_method_45_code 18 = .ok (.getfield 315, 3) := by decide +kernel
theorem dModel_isCompared_21 : decode prog_14_method_45_code 21 = .ok (.iload_n 1, 1) := by decide +kernel
theorem dModel_isCompared_22 : decode prog_14_method_45_code 22 = .ok (.iaload, 1) := by decide +kernel
theorem dModel_isCompared_23 : decode prog_14_method_45_code 23 = .ok (.bipush 6, 2) := by decide +kernel
theorem dModel_isCompared_25 : decode prog_14_method_45_code 25 = .ok (.if_icmp .ne 9, 3) := by decide +kernel
theorem dModel_isCompared_28 : decode prog_14_method_45_code 28 = .ok (.iinc 1 (-1), 3) := by decide +kernel
theorem dModel_isCompared_31 : decode prog_14_method_45_code 31 = .ok (.goto (-24), 3) := by decide +kernel
theorem dModel_isCompared_34 : decode prog_14_method_45_code 34 = .ok (.aload_n 0, 1) := by decide +kernel
theorem dModel_isCompared_35 : decode prog_14_method_45_code 35 = .ok (.getfield 315, 3) := by decide +kernel
theorem dModel_isCompared_38 : decode prog_14_method_45_code 38 = .ok (.iload_n 1, 1) := by decide +kernel
theorem dModel_isCompared_39 : decode prog_14_method_45_code 39 = .ok (.iaload, 1) := by decide +kernel
theorem dModel_isCompared_40 : decode prog_14_method_45_code 40 = .ok (.iconst 4, 1) := by decide +kernel
theorem dModel_isCompared_41 : decode prog_14_method_45_code 41 = .ok (.if_icmp .ne 7, 3) := by decide +kernel
theorem dModel_isCompared_44 : decode prog_14_method_45_code 44 = .ok (.iconst 1, 1) := by decide +kernel
theorem dModel_isCompared_45 : decode prog_14_method_45_code 45 = .ok (.goto 4, 3) := by decide +kernel
theorem dModel_isCompared_48 : decode prog_14_method_45_code 48 = .ok (.iconst 0, 1) := by decide +kernel
theorem dModel_isCompared_49 : decode prog_14_method_45_code 49 = .ok (.ireturn, 1) := by decide +kernel
theorem dModel_term_0 : decode prog_14_method_46_code 0 = .ok (.iload_n 1, 1) := by decide +kernel
theorem dModel_term_1 : decode prog_14_method_46_code 1 = .ok (.lookupswitch 144 #[(68, 129), (78, 91), (97, 134), (100, 114), (107, 139), (109, 101), (110, 124), (115, 119), (119, 109), (121, 93)], 91) := by decide +kernel
theorem dModel_term_92 : decode prog_14_method_46_code 92 = .ok (.iload_n 2, 1) := by decide +kernel
theorem dModel_term_93 : decode prog_14_method_46_code 93 = .ok (.ireturn, 1) := by decide +kernel
theorem dModel_term_94 : decode prog_14_method_46_code 94 = .ok (.aload_n 0, 1) := by decide +kernel
theorem dModel_term_95 : decode prog_14_method_46_code 95 = .ok (.getfield 348, 3) := by decide +kernel
theorem dModel_term_98 : decode prog_14_method_46_code 98 = .ok (.bipush 12, 2) := by decide +kernel
theorem dModel_term_100 : decode prog_14_method_46_code 100 = .ok (.idiv, 1) := by decide +kernel
theorem dModel_term_101 : decode prog_14_method_46_code 101 = .ok (.ireturn, 1) := by decide +kernel
theorem dModel_term_102 : decode prog_14_method_46_code 102 = .ok (.aload_n 0, 1) := by decide +kernel
theorem dModel_term_103 : decode prog_14_method_46_code 103 = .ok (.getfield 348, 3) := by decide +kernel
theorem dModel_term_106 : decode prog_14_method_46_code 106 = .ok (.bipush 12, 2) := by decide +kernel
theorem dModel_term_108 : decode prog_14_method_46_code 108 = .ok (.irem, 1) := by decide +kernel
theorem dModel_term_109 : decode prog_14_method_46_code 109 = .ok (.ireturn, 1) := by decide +kernel
theorem dModel_term_110 : decode prog_14_method_46_code 110 = .ok (.aload_n 0, 1) := by decide +kernel
theorem dModel_term_111 : decode prog_14_method_46_code 111 = .ok (.invokevirtual 351, 3) := by decide +kernel
theorem dModel_term_114 : decode prog_14_method_46_code 114 = .ok (.ireturn, 1) := by decide +kernel
theorem dModel_term_115 : decode prog_14_method_46_code 115 = .ok (.aload_n 0, 1) := by decide +kernel
theorem dModel_term_116 : decode prog_14_method_46_code 116 = .ok (.invokevirtual 354, 3) := by decide +kernel
theorem dModel_term_119 : decode prog_14_method_46_code 119 = .ok (.ireturn, 1) := by decide +kernel
theorem dModel_term_120 : decode prog_14_method_46_code 120 = .ok (.aload_n 0, 1) := by decide +kernel
theorem dModel_term_121 : decode prog_14_method_46_code 121 = .ok (.getfield 357, 3) := by decide +kernel
theorem dModel_term_124 : decode prog_14_method_46_code 124 = .ok (.ireturn, 1) := by decide +kernel
theorem dModel_term_125 : decode prog_14_method_46_code 125 = .ok (.aload_n 0, 1) := by decide +kernel
theorem dModel_term_126 : decode prog_14_method_46_code 126 = .ok (.getfield 360, 3) := by decide +kernel
theorem dModel_term_129 : decode prog_14_method_46_code 129 = .ok (.ireturn, 1) := by decide +kernel
theorem dModel_term_130 : decode prog_14_method_46_code 130 = .ok (.aload_n 0, 1) := by decide +kernel
theorem dModel_term_131 : decode prog_14_method_46_code 131 = .ok (.getfield 363, 3) := by decide +kernel
theorem dModel_term_134 : decode prog_14_method_46_code 134 = .ok (.ireturn, 1) := by decide +kernel
theorem dModel_term_135 : decode prog_14_method_46_code 135 = .ok (.aload_n 0, 1) := by decide +kernel
theorem dModel_term_136 : decode prog_14_method_46_code 136 = .ok (.getfield 366, 3) := by decide +kernel
theorem dModel_term_139 : decode prog_14_method_46_code 139 = .ok (.ireturn, 1) := by decide +kernel
theorem dModel_term_140 : decode prog_14_method_46_code 140 = .ok (.aload_n 0, 1) := by decide +kernel
theorem dModel_term_141 : decode prog_14_method_46_code 141 = .ok (.getfield 369, 3) := by decide +kernel
theorem dModel_term_144 : decode prog_14_method_46_code 144 = .ok (.ireturn, 1) := by decide +kernel
theorem dModel_term_145 : decode prog_14_method_46_code 145 = .ok (.aload_n 0, 1) := by decide +kernel
theorem dModel_term_146 : decode prog_14_method_46_code 146 = .ok (.getfield 372, 3) := by decide +kernel
theorem dModel_term_149 : decode prog_14_method_46_code 149 = .ok (.ireturn, 1) := by decide +kernel
theorem dModel_two_0 : decode prog_14_method_47_code 0 = .ok (.iload_n 0, 1) := by decide +kernel
theorem dModel_two_1 : decode prog_14_method_47_code 1 = .ok (.tableswitch 186 38 62 #[172, 186, 186, 186, 123, 115, 186, 119, 186, 127, 186, 186, 186, 186, 186, 186, 186, 186, 186, 186, 186, 186, 139, 161, 150], 115) := by decide +kernel
theorem dModel_two_116 : decode prog_14_method_47_code 116 = .ok (.iload_n 1, 1) := by decide +kernel
theorem dModel_two_117 : decode prog_14_method_47_code 117 = .ok (.iload_n 2, 1) := by decide +kernel
theorem dModel_two_118 : decode prog_14_method_47_code 118 = .ok (.iadd, 1) := by decide +kernel
theorem dModel_two_119 : decode prog_14_method_47_code 119 = .ok (.ireturn, 1) := by decide +kernel
theorem dModel_two_120 : decode prog_14_method_47_code 120 = .ok (.iload_n 1, 1) := by decide +kernel
theorem dModel_two_121 : decode prog_14_method_47_code 121 = .ok (.iload_n 2, 1) := by decide +kernel
theorem dModel_two_122 : decode prog_14_method_47_code 122 = .ok (.isub, 1) := by decide +kernel
theorem dModel_two_123 : decode prog_14_method_47_code 123 = .ok (.ireturn, 1) := by decide +kernel
theorem dModel_two_124 : decode prog_14_method_47_code 124 = .ok (.iload_n 1, 1) := by decide +kernel
theorem dModel_two_125 : decode prog_14_method_47_code 125 = .ok (.iload_n 2, 1) := by decide +kernel
theorem dModel_two_126 : decode prog_14_method_47_code 126 = .ok (.imul, 1) := by decide +kernel
theorem dModel_two_127 : decode prog_14_method_47_code 127 = .ok (.ireturn, 1) := by decide +kernel
theorem dModel_two_128 : decode prog_14_method_47_code 128 = .ok (.iload_n 2, 1) := by decide +kernel
theorem dModel_two_129 : decode prog_14_method_47_code 129 = .ok (.ifCond .ne 7, 3) := by decide +kernel
theorem dModel_two_132 : decode prog_14_method_47_code 132 = .ok (.iconst 0, 1) := by decide +kernel
theorem dModel_two_133 : decode prog_14_method_47_code 133 = .ok (.goto 6, 3) := by decide +kernel
theorem dModel_two_136 : decode prog_14_method_47_code 136 = .ok (.iload_n 1, 1) := by decide +kernel
theorem dModel_two_137 : decode prog_14_method_47_code 137 = .ok (.iload_n 2, 1) := by decide +kernel
theorem dModel_two_138 : decode prog_14_method_47_code 138 = .ok (.idiv, 1) := by decide +kernel
theorem dModel_two_139 : decode prog_14_method_47_code 139 = .ok (.ireturn, 1) := by decide +kernel
theorem dModel_two_140 : decode prog_14_method_47_code 140 = .ok (.iload_n 1, 1) := by decide +kernel
theorem dModel_two_141 : decode prog_14_method_47_code 141 = .ok (.iload_n 2, 1) := by decide +kernel
theorem dModel_two_142 : decode prog_14_method_47_code 142 = .ok (.if_icmp .ge 7, 3) := by decide +kernel
theorem dModel_two_145 : decode prog_14_method_47_code 145 = .ok (.iconst 1, 1) := by decide +kernel
theorem dModel_two_146 : decode prog_14_method_47_code 146 = .ok (.goto 4, 3) := by decide +kernel
theorem dModel_two_149 : decode prog_14_method_47_code 149 = .ok (.iconst 0, 1) := by decide +kernel
theorem dModel_two_150 : decode prog_14_method_47_code 150 = .ok (.ireturn, 1) := by decide +kernel
theorem dModel_two_151 : decode prog_14_method_47_code 151 = .ok (.iload_n 1, 1) := by decide +kernel
theorem dModel_two_152 : decode prog_14_method_47_code 152 = .ok (.iload_n 2, 1) := by decide +kernel
theorem dModel_two_153 : decode prog_14_method_47_code 153 = .ok (.if_icmp .le 7, 3) := by decide +kernel
theorem dModel_two_156 : decode prog_14_method_47_code 156 = .ok (.iconst 1, 1) := by decide +kernel
theorem dModel_two_157 : decode prog_14_method_47_code 157 = .ok (.goto 4, 3) := by decide +kernel
theorem dModel_two_160 : decode prog_14_method_47_code 160 = .ok (.iconst 0, 1) := by decide +kernel
theorem dModel_two_161 : decode prog_14_method_47_code 161 = .ok (.ireturn, 1) := by decide +kernel
theorem dModel_two_162 : decode prog_14_method_47_code 162 = .ok (.iload_n 1, 1) := by decide +kernel
theorem dModel_two_163 : decode prog_14_method_47_code 163 = .ok (.iload_n 2, 1) := by decide +kernel
theorem dModel_two_164 : decode prog_14_method_47_code 164 = .ok (.if_icmp .ne 7, 3) := by decide +kernel
theorem dModel_two_167 : decode prog_14_method_47_code 167 = .ok (.iconst 1, 1) := by decide +kernel
theorem dModel_two_168 : decode prog_14_method_47_code 168 = .ok (.goto 4, 3) := by decide +kernel
theorem dModel_two_171 : decode prog_14_method_47_code 171 = .ok (.iconst 0, 1) := by decide +kernel
theorem dModel_two_172 : decode prog_14_method_47_code 172 = .ok (.ireturn, 1) := by decide +kernel
theorem dModel_two_173 : decode prog_14_method_47_code 173 = .ok (.iload_n 1, 1) := by decide +kernel
theorem dModel_two_174 : decode prog_14_method_47_code 174 = .ok (.ifCond .eq 11, 3) := by decide +kernel
theorem dModel_two_177 : decode prog_14_method_47_code 177 = .ok (.iload_n 2, 1) := by decide +kernel
theorem dModel_two_178 : decode prog_14_method_47_code 178 = .ok (.ifCond .eq 7, 3) := by decide +kernel
theorem dModel_two_181 : decode prog_14_method_47_code 181 = .ok (.iconst 1, 1) := by decide +kernel
theorem dModel_two_182 : decode prog_14_method_47_code 182 = .ok (.goto 4, 3) := by decide +kernel
theorem dModel_two_185 : decode prog_14_method_47_code 185 = .ok (.iconst 0, 1) := by decide +kernel
theorem dModel_two_186 : decode prog_14_method_47_code 186 = .ok (.ireturn, 1) := by decide +kernel
theorem dModel_two_187 : decode prog_14_method_47_code 187 = .ok (.iload_n 1, 1) := by decide +kernel
theorem dModel_two_188 : decode prog_14_method_47_code 188 = .ok (.ifCond .ne 7, 3) := by decide +kernel
theorem dModel_two_191 : decode prog_14_method_47_code 191 = .ok (.iload_n 2, 1) := by decide +kernel
theorem dModel_two_192 : decode prog_14_method_47_code 192 = .ok (.ifCond .eq 7, 3) := by decide +kernel
theorem dModel_two_195 : decode prog_14_method_47_code 195 = .ok (.iconst 1, 1) := by decide +kernel
theorem dModel_two_196 : decode prog_14_method_47_code 196 = .ok (.goto 4, 3) := by decide +kernel
theorem dModel_two_199 : decode prog_14_method_47_code 199 = .ok (.iconst 0, 1) := by decide +kernel
theorem dModel_two_200 : decode prog_14_method_47_code 200 = .ok (.ireturn, 1) := by decide +kernel
theorem dModel_told_0 : decode prog_14_method_48_code 0 = .ok (.bipush 10, 2) := by decide +kernel
theorem dModel_told_2 : decode prog_14_method_48_code 2 = .ok (.iload_n 1, 1) := by decide +kernel
theorem dModel_told_3 : decode prog_14_method_48_code 3 = .ok (.imul, 1) := by decide +kernel
theorem dModel_told_4 : decode prog_14_method_48_code 4 = .ok (.iload_n 2, 1) := by decide +kernel
theorem dModel_told_5 : decode prog_14_method_48_code 5 = .ok (.iadd, 1) := by decide +kernel
theorem dModel_told_6 : decode prog_14_method_48_code 6 = .ok (.istore_n 3, 1) := by decide +kernel
theorem dModel_told_7 : decode prog_14_method_48_code 7 = .ok (.aload_n 0, 1) := by decide +kernel
theorem dModel_told_8 : decode prog_14_method_48_code 8 = .ok (.getfield 285, 3) := by decide +kernel
theorem dModel_told_11 : decode prog_14_method_48_code 11 = .ok (.iload_n 3, 1) := by decide +kernel
theorem dModel_told_12 : decode prog_14_method_48_code 12 = .ok (.iaload, 1) := by decide +kernel
theorem dModel_told_13 : decode prog_14_method_48_code 13 = .ok (.ifCond .ge 5, 3) := by decide +kernel
theorem dModel_told_16 : decode prog_14_method_48_code 16 = .ok (.iconst 0, 1) := by decide +kernel
theorem dModel_told_17 : decode prog_14_method_48_code 17 = .ok (.ireturn, 1) := by decide +kernel
theorem dModel_told_18 : decode prog_14_method_48_code 18 = .ok (.iconst 0, 1) := by decide +kernel
theorem dModel_told_19 : decode prog_14_method_48_code 19 = .ok (.istore 4, 2) := by decide +kernel
theorem dModel_told_21 : decode prog_14_method_48_code 21 = .ok (.sipush 700, 3) := by decide +kernel
theorem dModel_told_24 : decode prog_14_method_48_code 24 = .ok (.iload_n 1, 1) := by decide +kernel
theorem dModel_told_25 : decode prog_14_method_48_code 25 = .ok (.imul, 1) := by decide +kernel
theorem dModel_told_26 : decode prog_14_method_48_code 26 = .ok (.aload_n 0, 1) := by decide +kernel
theorem dModel_told_27 : decode prog_14_method_48_code 27 = .ok (.getfield 285, 3) := by decide +kernel
theorem dModel_told_30 : decode prog_14_method_48_code 30 = .ok (.iload_n 3, 1) := by decide +kernel
theorem dModel_told_31 : decode prog_14_method_48_code 31 = .ok (.iaload, 1) := by decide +kernel
theorem dModel_told_32 : decode prog_14_method_48_code 32 = .ok (.iadd, 1) := by decide +kernel
theorem dModel_told_33 : decode prog_14_method_48_code 33 = .ok (.istore 5, 2) := by decide +kernel
theorem dModel_told_35 : decode prog_14_method_48_code 35 = .ok (.iload 5, 2) := by decide +kernel
theorem dModel_told_37 : decode prog_14_method_48_code 37 = .ok (.sipush 700, 3) := by decide +kernel
theorem dModel_told_40 : decode prog_14_method_48_code 40 = .ok (.iload_n 1, 1) := by decide +kernel
theorem dModel_told_41 : decode prog_14_method_48_code 41 = .ok (.imul, 1) := by decide +kernel
theorem dModel_told_42 : decode prog_14_method_48_code 42 = .ok (.aload_n 0, 1) := by decide +kernel
theorem dModel_told_43 : decode prog_14_method_48_code 43 = .ok (.getfield 300, 3) := by decide +kernel
theorem dModel_told_46 : decode prog_14_method_48_code 46 = .ok (.iload_n 3, 1) := by decide +kernel
theorem dModel_told_47 : decode prog_14_method_48_code 47 = .ok (.iaload, 1) := by decide +kernel
theorem dModel_told_48 : decode prog_14_method_48_code 48 = .ok (.iadd, 1) := by decide +kernel
theorem dModel_told_49 : decode prog_14_method_48_code 49 = .ok (.if_icmp .ge 141, 3) := by decide +kernel
theorem dModel_told_52 : decode prog_14_method_48_code 52 = .ok (.aload_n 0, 1) := by decide +kernel
theorem dModel_told_53 : decode prog_14_method_48_code 53 = .ok (.getfield 303, 3) := by decide +kernel
theorem dModel_told_56 : decode prog_14_method_48_code 56 = .ok (.iload 5, 2) := by decide +kernel
theorem dModel_told_58 : decode prog_14_method_48_code 58 = .ok (.iaload, 1) := by decide +kernel
theorem dModel_told_59 : decode prog_14_method_48_code 59 = .ok (.istore 6, 2) := by decide +kernel
theorem dModel_told_61 : decode prog_14_method_48_code 61 = .ok (.iload 6, 2) := by decide +kernel
theorem dModel_told_63 : decode prog_14_method_48_code 63 = .ok (.bipush 126, 2) := by decide +kernel
theorem dModel_told_65 : decode prog_14_method_48_code 65 = .ok (.if_icmp .ne 32, 3) := by decide +kernel
theorem dModel_told_68 : decode prog_14_method_48_code 68 = .ok (.aload_n 0, 1) := by decide +kernel
theorem dModel_told_69 : decode prog_14_method_48_code 69 = .ok (.getfield 375, 3) := by decide +kernel
theorem dModel_told_72 : decode prog_14_method_48_code 72 = .ok (.iload 4, 2) := by decide +kernel
theorem dModel_told_74 : decode prog_14_method_48_code 74 = .ok (.iconst 1, 1) := by decide +kernel
theorem dModel_told_75 : decode prog_14_method_48_code 75 = .ok (.isub, 1) := by decide +kernel
theorem dModel_told_76 : decode prog_14_method_48_code 76 = .ok (.aload_n 0, 1) := by decide +kernel
theorem dModel_told_77 : decode prog_14_method_48_code 77 = .ok (.getfield 375, 3) := by decide +kernel
theorem dModel_told_80 : decode prog_14_method_48_code 80 = .ok (.iload 4, 2) := by decide +kernel
theorem dModel_told_82 : decode prog_14_method_48_code 82 = .ok (.iconst 1, 1) := by decide +kernel
theorem dModel_told_83 : decode prog_14_method_48_code 83 = .ok (.isub, 1) := by decide +kernel
theorem dModel_told_84 : decode prog_14_method_48_code 84 = .ok (.iaload, 1) := by decide +kernel
theorem dModel_told_85 : decode prog_14_method_48_code 85 = .ok (.ifCond .ne 7, 3) := by decide +kernel
theorem dModel_told_88 : decode prog_14_method_48_code 88 = .ok (.iconst 1, 1) := by decide +kernel
theorem dModel_told_89 : decode prog_14_method_48_code 89 = .ok (.goto 4, 3) := by decide +kernel
theorem dModel_told_92 : decode prog_14_method_48_code 92 = .ok (.iconst 0, 1) := by decide +kernel
theorem dModel_told_93 : decode prog_14_method_48_code 93 = .ok (.iastore, 1) := by decide +kernel
theorem dModel_told_94 : decode prog_14_method_48_code 94 = .ok (.goto 90, 3) := by decide +kernel
theorem dModel_told_97 : decode prog_14_method_48_code 97 = .ok (.iload 6, 2) := by decide +kernel
theorem dModel_told_99 : decode prog_14_method_48_code 99 = .ok (.bipush 97, 2) := by decide +kernel
theorem dModel_told_101 : decode prog_14_method_48_code 101 = .ok (.if_icmp .lt 10, 3) := by decide +kernel
theorem dModel_told_104 : decode prog_14_method_48_code 104 = .ok (.iload 6, 2) := by decide +kernel
theorem dModel_told_106 : decode prog_14_method_48_code 106 = .ok (.bipush 122, 2) := by decide +kernel
theorem dModel_told_108 : decode prog_14_method_48_code 108 = .ok (.if_icmp .le 17, 3) := by decide +kernel
theorem dModel_told_111 : decode prog_14_method_48_code 111 = .ok (.iload 6, 2) := by decide +kernel
theorem dModel_told_113 : decode prog_14_method_48_code 113 = .ok (.bipush 78, 2) := by decide +kernel
theorem dModel_told_115 : decode prog_14_method_48_code 115 = .ok (.if_icmp .eq 10, 3) := by decide +kernel
theorem dModel_told_118 : decode prog_14_method_48_code 118 = .ok (.iload 6, 2) := by decide +kernel
theorem dModel_told_120 : decode prog_14_method_48_code 120 = .ok (.bipush 68, 2) := by decide +kernel
theorem dModel_told_122 : decode prog_14_method_48_code 122 = .ok (.if_icmp .ne 29, 3) := by decide +kernel
theorem dModel_told_125 : decode prog_14_method_48_code 125 = .ok (.aload_n 0, 1) := by decide +kernel
theorem dModel_told_126 : decode prog_14_method_48_code 126 = .ok (.getfield 375, 3) := by decide +kernel
theorem dModel_told_129 : decode prog_14_method_48_code 129 = .ok (.iload 4, 2) := by decide +kernel
theorem dModel_told_131 : decode prog_14_method_48_code 131 = .ok (.aload_n 0, 1) := by decide +kernel
theorem dModel_told_132 : decode prog_14_method_48_code 132 = .ok (.iload 6, 2) := by decide +kernel
theorem dModel_told_134 : decode prog_14_method_48_code 134 = .ok (.aload_n 0, 1) := by decide +kernel
theorem dModel_told_135 : decode prog_14_method_48_code 135 = .ok (.getfield 306, 3) := by decide +kernel
theorem dModel_told_138 : decode prog_14_method_48_code 138 = .ok (.iload 5, 2) := by decide +kernel
theorem dModel_told_140 : decode prog_14_method_48_code 140 = .ok (.iaload, 1) := by decide +kernel
theorem dModel_told_141 : decode prog_14_method_48_code 141 = .ok (.invokevirtual 377, 3) := by decide +kernel
theorem dModel_told_144 : decode prog_14_method_48_code 144 = .ok (.iastore, 1) := by decide +kernel
theorem dModel_told_145 : decode prog_14_method_48_code 145 = .ok (.iinc 4 1, 3) := by decide +kernel
theorem dModel_told_148 : decode prog_14_method_48_code 148 = .ok (.goto 36, 3) := by decide +kernel
theorem dModel_told_151 : decode prog_14_method_48_code 151 = .ok (.iinc 4 (-1), 3) := by decide +kernel
theorem dModel_told_154 : decode prog_14_method_48_code 154 = .ok (.aload_n 0, 1) := by decide +kernel
theorem dModel_told_155 : decode prog_14_method_48_code 155 = .ok (.getfield 375, 3) := by decide +kernel
theorem dModel_told_158 : decode prog_14_method_48_code 158 = .ok (.iload 4, 2) := by decide +kernel
theorem dModel_told_160 : decode prog_14_method_48_code 160 = .ok (.iconst 1, 1) := by decide +kernel
theorem dModel_told_161 : decode prog_14_method_48_code 161 = .ok (.isub, 1) := by decide +kernel
theorem dModel_told_162 : decode prog_14_method_48_code 162 = .ok (.iload 6, 2) := by decide +kernel
theorem dModel_told_164 : decode prog_14_method_48_code 164 = .ok (.aload_n 0, 1) := by decide +kernel
theorem dModel_told_165 : decode prog_14_method_48_code 165 = .ok (.getfield 375, 3) := by decide +kernel
theorem dModel_told_168 : decode prog_14_method_48_code 168 = .ok (.iload 4, 2) := by decide +kernel
theorem dModel_told_170 : decode prog_14_method_48_code 170 = .ok (.iconst 1, 1) := by decide +kernel
theorem dModel_told_171 : decode prog_14_method_48_code 171 = .ok (.isub, 1) := by decide +kernel
theorem dModel_told_172 : decode prog_14_method_48_code 172 = .ok (.iaload, 1) := by decide +kernel
theorem dModel_told_173 : decode prog_14_method_48_code 173 = .ok (.aload_n 0, 1) := by decide +kernel
theorem dModel_told_174 : decode prog_14_method_48_code 174 = .ok (.getfield 375, 3) := by decide +kernel
theorem dModel_told_177 : decode prog_14_method_48_code 177 = .ok (.iload 4, 2) := by decide +kernel
theorem dModel_told_179 : decode prog_14_method_48_code 179 = .ok (.iaload, 1) := by decide +kernel
theorem dModel_told_180 : decode prog_14_method_48_code 180 = .ok (.invokestatic 380, 3) := by decide +kernel
theorem dModel_told_183 : decode prog_14_method_48_code 183 = .ok (.iastore, 1) := by decide +kernel
theorem dModel_told_184 : decode prog_14_method_48_code 184 = .ok (.iinc 5 1, 3) := by decide +kernel
theorem dModel_told_187 : decode prog_14_method_48_code 187 = .ok (.goto (-152), 3) := by decide +kernel
theorem dModel_told_190 : decode prog_14_method_48_code 190 = .ok (.aload_n 0, 1) := by decide +kernel
theorem dModel_told_191 : decode prog_14_method_48_code 191 = .ok (.getfield 375, 3) := by decide +kernel
theorem dModel_told_194 : decode prog_14_method_48_code 194 = .ok (.iconst 0, 1) := by decide +kernel
theorem dModel_told_195 : decode prog_14_method_48_code 195 = .ok (.iaload, 1) := by decide +kernel
theorem dModel_told_196 : decode prog_14_method_48_code 196 = .ok (.ireturn, 1) := by decide +kernel
theorem dModel_bounded_0 : decode prog_14_method_49_code 0 = .ok (.aload_n 0, 1) := by decide +kernel
theorem dModel_bounded_1 : decode prog_14_method_49_code 1 = .ok (.iload_n 1, 1) := by decide +kernel
theorem dModel_bounded_2 : decode prog_14_method_49_code 2 = .ok (.iload_n 2, 1) := by decide +kernel
theorem dModel_bounded_3 : decode prog_14_method_49_code 3 = .ok (.invokevirtual 384, 3) := by decide +kernel
theorem dModel_bounded_6 : decode prog_14_method_49_code 6 = .ok (.istore_n 3, 1) := by decide +kernel
theorem dModel_bounded_7 : decode prog_14_method_49_code 7 = .ok (.iload_n 2, 1) := by decide +kernel
theorem dModel_bounded_8 : decode prog_14_method_49_code 8 = .ok (.iconst 4, 1) := by decide +kernel
theorem dModel_bounded_9 : decode prog_14_method_49_code 9 = .ok (.if_icmp .ne 8, 3) := by decide +kernel
theorem dModel_bounded_12 : decode prog_14_method_49_code 12 = .ok (.bipush 100, 2) := by decide +kernel
theorem dModel_bounded_14 : decode prog_14_method_49_code 14 = .ok (.goto 6, 3) := by decide +kernel
theorem dModel_bounded_17 : decode prog_14_method_49_code 17 = .ok (.sipush 9999, 3) := by decide +kernel
theorem dModel_bounded_20 : decode prog_14_method_49_code 20 = .ok (.istore 4, 2) := by decide +kernel
theorem dModel_bounded_22 : decode prog_14_method_49_code 22 = .ok (.iload_n 3, 1) := by decide +kernel
theorem dModel_bounded_23 : decode prog_14_method_49_code 23 = .ok (.ifCond .ge 7, 3) := by decide +kernel
theorem dModel_bounded_26 : decode prog_14_method_49_code 26 = .ok (.iconst 0, 1) := by decide +kernel
theorem dModel_bounded_27 : decode prog_14_method_49_code 27 = .ok (.goto 15, 3) := by decide +kernel
theorem dModel_bounded_30 : decode prog_14_method_49_code 30 = .ok (.iload_n 3, 1) := by decide +kernel
theorem dModel_bounded_31 : decode prog_14_method_49_code 31 = .ok (.iload 4, 2) := by decide +kernel
theorem dModel_bounded_33 : decode prog_14_method_49_code 33 = .ok (.if_icmp .le 8, 3) := by decide +kernel
theorem dModel_bounded_36 : decode prog_14_method_49_code 36 = .ok (.iload 4, 2) := by decide +kernel
theorem dModel_bounded_38 : decode prog_14_method_49_code 38 = .ok (.goto 4, 3) := by decide +kernel
theorem dModel_bounded_41 : decode prog_14_method_49_code 41 = .ok (.iload_n 3, 1) := by decide +kernel
theorem dModel_bounded_42 : decode prog_14_method_49_code 42 = .ok (.ireturn, 1) := by decide +kernel
theorem dModel_merchant_0 : decode prog_14_method_50_code 0 = .ok (.iload_n 1, 1) := by decide +kernel
theorem dModel_merchant_1 : decode prog_14_method_50_code 1 = .ok (.ifCond .lt 19, 3) := by decide +kernel
theorem dModel_merchant_4 : decode prog_14_method_50_code 4 = .ok (.iload_n 1, 1) := by decide +kernel
theorem dModel_merchant_5 : decode prog_14_method_50_code 5 = .ok (.sipush 30000, 3) := by decide +kernel
theorem dModel_merchant_8 : decode prog_14_method_50_code 8 = .ok (.if_icmp .gt 12, 3) := by decide +kernel
theorem dModel_merchant_11 : decode prog_14_method_50_code 11 = .ok (.aload_n 0, 1) := by decide +kernel
theorem dModel_merchant_12 : decode prog_14_method_50_code 12 = .ok (.getfield 387, 3) := by decide +kernel
theorem dModel_merchant_15 : decode prog_14_method_50_code 15 = .ok (.bipush 6, 2) := by decide +kernel
theorem dModel_merchant_17 : decode prog_14_method_50_code 17 = .ok (.if_icmp .ne 5, 3) := by decide +kernel
theorem dModel_merchant_20 : decode prog_14_method_50_code 20 = .ok (.iconst (-1), 1) := by decide +kernel
theorem dModel_merchant_21 : decode prog_14_method_50_code 21 = .ok (.ireturn, 1) := by decide +kernel
theorem dModel_merchant_22 : decode prog_14_method_50_code 22 = .ok (.aload_n 0, 1) := by decide +kernel
theorem dModel_merchant_23 : decode prog_14_method_50_code 23 = .ok (.iconst 0, 1) := by decide +kernel
theorem dModel_merchant_24 : decode prog_14_method_50_code 24 = .ok (.putfield 172, 3) := by decide +kernel
theorem dModel_merchant_27 : decode prog_14_method_50_code 27 = .ok (.aload_n 0, 1) := by decide +kernel
theorem dModel_merchant_28 : decode prog_14_method_50_code 28 = .ok (.getfield 390, 3) := by decide +kernel
theorem dModel_merchant_31 : decode prog_14_method_50_code 31 = .ok (.aload_n 0, 1) := by decide +kernel
theorem dModel_merchant_32 : decode prog_14_method_50_code 32 = .ok (.getfield 387, 3) := by decide +kernel
theorem dModel_merchant_35 : decode prog_14_method_50_code 35 = .ok (.iload_n 1, 1) := by decide +kernel
theorem dModel_merchant_36 : decode prog_14_method_50_code 36 = .ok (.iastore, 1) := by decide +kernel
theorem dModel_merchant_37 : decode prog_14_method_50_code 37 = .ok (.aload_n 0, 1) := by decide +kernel
theorem dModel_merchant_38 : decode prog_14_method_50_code 38 = .ok (.dup, 1) := by decide +kernel
theorem dModel_merchant_39 : decode prog_14_method_50_code 39 = .ok (.getfield 387, 3) := by decide +kernel
theorem dModel_merchant_42 : decode prog_14_method_50_code 42 = .ok (.iconst 1, 1) := by decide +kernel
theorem dModel_merchant_43 : decode prog_14_method_50_code 43 = .ok (.iadd, 1) := by decide +kernel
theorem dModel_merchant_44 : decode prog_14_method_50_code 44 = .ok (.putfield 387, 3) := by decide +kernel
theorem dModel_merchant_47 : decode prog_14_method_50_code 47 = .ok (.aload_n 0, 1) := by decide +kernel
theorem dModel_merchant_48 : decode prog_14_method_50_code 48 = .ok (.getfield 387, 3) := by decide +kernel
theorem dModel_merchant_51 : decode prog_14_method_50_code 51 = .ok (.iconst 1, 1) := by decide +kernel
theorem dModel_merchant_52 : decode prog_14_method_50_code 52 = .ok (.isub, 1) := by decide +kernel
theorem dModel_merchant_53 : decode prog_14_method_50_code 53 = .ok (.ireturn, 1) := by decide +kernel
theorem dModel_isIn_0 : decode prog_14_method_51_code 0 = .ok (.iload_n 0, 1) := by decide +kernel
theorem dModel_isIn_1 : decode prog_14_method_51_code 1 = .ok (.iload_n 1, 1) := by decide +kernel
theorem dModel_isIn_2 : decode prog_14_method_51_code 2 = .ok (.if_icmp .lt 12, 3) := by decide +kernel
theorem dModel_isIn_5 : decode prog_14_method_51_code 5 = .ok (.iload_n 0, 1) := by decide +kernel
theorem dModel_isIn_6 : decode prog_14_method_51_code 6 = .ok (.iload_n 2, 1) := by decide +kernel
theorem dModel_isIn_7 : decode prog_14_method_51_code 7 = .ok (.if_icmp .gt 7, 3) := by decide +kernel
theorem dModel_isIn_10 : decode prog_14_method_51_code 10 = .ok (.iconst 1, 1) := by decide +kernel
theorem dModel_isIn_11 : decode prog_14_method_51_code 11 = .ok (.goto 4, 3) := by decide +kernel
theorem dModel_isIn_14 : decode prog_14_method_51_code 14 = .ok (.iconst 0, 1) := by decide +kernel
theorem dModel_isIn_15 : decode prog_14_method_51_code 15 = .ok (.ireturn, 1) := by decide +kernel
theorem dModel_costs_0 : decode prog_14_method_52_code 0 = .ok (.iload_n 1, 1) := by decide +kernel
theorem dModel_costs_1 : decode prog_14_method_52_code 1 = .ok (.iconst 0, 1) := by decide +kernel
theorem dModel_costs_2 : decode prog_14_method_52_code 2 = .ok (.bipush 99, 2) := by decide +kernel
theorem dModel_costs_4 : decode prog_14_method_52_code 4 = .ok (.invokestatic 393, 3) := by decide +kernel
theorem dModel_costs_7 : decode prog_14_method_52_code 7 = .ok (.ifCond .eq 47, 3) := by decide +kernel
theorem dModel_costs_10 : decode prog_14_method_52_code 10 = .ok (.iload_n 2, 1) := by decide +kernel
theorem dModel_costs_11 : decode prog_14_method_52_code 11 = .ok (.iconst 1, 1) := by decide +kernel
theorem dModel_costs_12 : decode prog_14_method_52_code 12 = .ok (.bipush 50, 2) := by decide +kernel
theorem dModel_costs_14 : decode prog_14_method_52_code 14 = .ok (.invokestatic 393, 3) := by decide +kernel
theorem dModel_costs_17 : decode prog_14_method_52_code 17 = .ok (.ifCond .eq 37, 3) := by decide +kernel
theorem dModel_costs_20 : decode prog_14_method_52_code 20 = .ok (.iload_n 3, 1) := by decide +kernel
theorem dModel_costs_21 : decode prog_14_method_52_code 21 = .ok (.iconst 0, 1) := by decide +kernel
theorem dModel_costs_22 : decode prog_14_method_52_code 22 = .ok (.bipush 99, 2) := by decide +kernel
theorem dModel_costs_24 : decode prog_14_method_52_code 24 = .ok (.invokestatic 393, 3) := by decide +kernel
theorem dModel_costs_27 : decode prog_14_method_52_code 27 = .ok (.ifCond .eq 27, 3) := by decide +kernel
theorem dModel_costs_30 : decode prog_14_method_52_code 30 = .ok (.iload 4, 2) := by decide +kernel
theorem dModel_costs_32 : decode prog_14_method_52_code 32 = .ok (.iconst 0, 1) := by decide +kernel
theorem dModel_costs_33 : decode prog_14_method_52_code 33 = .ok (.sipush 9999, 3) := by decide +kernel
theorem dModel_costs_36 : decode prog_14_method_52_code 36 = .ok (.invokestatic 393, 3) := by decide +kernel
theorem dModel_costs_39 : decode prog_14_method_52_code 39 = .ok (.ifCond .eq 15, 3) := by decide +kernel
theorem dModel_costs_42 : decode prog_14_method_52_code 42 = .ok (.iload 5, 2) := by decide +kernel
theorem dModel_costs_44 : decode prog_14_method_52_code 44 = .ok (.iconst 0, 1) := by decide +kernel
theorem dModel_costs_45 : decode prog_14_method_52_code 45 = .ok (.sipush 999, 3) := by decide +kernel
theorem dModel_costs_48 : decode prog_14_method_52_code 48 = .ok (.invokestatic 393, 3) := by decide +kernel
theorem dModel_costs_51 : decode prog_14_method_52_code 51 = .ok (.ifCond .ne 5, 3) := by decide +kernel
theorem dModel_costs_54 : decode prog_14_method_52_code 54 = .ok (.iconst 0, 1) := by decide +kernel
theorem dModel_costs_55 : decode prog_14_method_52_code 55 = .ok (.ireturn, 1) := by decide +kernel
theorem dModel_costs_56 : decode prog_14_method_52_code 56 = .ok (.aload_n 0, 1) := by decide +kernel
theorem dModel_costs_57 : decode prog_14_method_52_code 57 = .ok (.iconst 0, 1) := by decide +kernel
theorem dModel_costs_58 : decode prog_14_method_52_code 58 = .ok (.putfield 172, 3) := by decide +kernel
theorem dModel_costs_61 : decode prog_14_method_52_code 61 = .ok (.aload_n 0, 1) := by decide +kernel
theorem dModel_costs_62 : decode prog_14_method_52_code 62 = .ok (.iload_n 1, 1) := by decide +kernel
theorem dModel_costs_63 : decode prog_14_method_52_code 63 = .ok (.putfield 397, 3) := by decide +kernel
theorem dModel_costs_66 : decode prog_14_method_52_code 66 = .ok (.aload_n 0, 1) := by decide +kernel
theorem dModel_costs_67 : decode prog_14_method_52_code 67 = .ok (.iload_n 2, 1) := by decide +kernel
theorem dModel_costs_68 : decode prog_14_method_52_code 68 = .ok (.putfield 400, 3) := by decide +kernel
theorem dModel_costs_71 : decode prog_14_method_52_code 71 = .ok (.aload_n 0, 1) := by decide +kernel
theorem dModel_costs_72 : decode prog_14_method_52_code 72 = .ok (.iload_n 3, 1) := by decide +kernel
theorem dModel_costs_73 : decode prog_14_method_52_code 73 = .ok (.putfield 403, 3) := by decide +kernel
theorem dModel_costs_76 : decode prog_14_method_52_code 76 = .ok (.aload_n 0, 1) := by decide +kernel
theorem dModel_costs_77 : decode prog_14_method_52_code 77 = .ok (.iload 4, 2) := by decide +kernel
theorem dModel_costs_79 : decode prog_14_method_52_code 79 = .ok (.putfield 406, 3) := by decide +kernel
theorem dModel_costs_82 : decode prog_14_method_52_code 82 = .ok (.aload_n 0, 1) := by decide +kernel
theorem dModel_costs_83 : decode prog_14_method_52_code 83 = .ok (.iload 5, 2) := by decide +kernel
theorem dModel_costs_85 : decode prog_14_method_52_code 85 = .ok (.putfield 409, 3) := by decide +kernel
theorem dModel_costs_88 : decode prog_14_method_52_code 88 = .ok (.iconst 1, 1) := by decide +kernel
theorem dModel_costs_89 : decode prog_14_method_52_code 89 = .ok (.ireturn, 1) := by decide +kernel
theorem dModel_fact_0 : decode prog_14_method_53_code 0 = .ok (.aload_n 0, 1) := by decide +kernel
theorem dModel_fact_1 : decode prog_14_method_53_code 1 = .ok (.getfield 169, 3) := by decide +kernel
theorem dModel_fact_4 : decode prog_14_method_53_code 4 = .ok (.bipush 40, 2) := by decide +kernel
theorem dModel_fact_6 : decode prog_14_method_53_code 6 = .ok (.if_icmp .ne 5, 3) := by decide +kernel
theorem dModel_fact_9 : decode prog_14_method_53_code 9 = .ok (.iconst (-1), 1) := by decide +kernel
theorem dModel_fact_10 : decode prog_14_method_53_code 10 = .ok (.ireturn, 1) := by decide +kernel
theorem dModel_fact_11 : decode prog_14_method_53_code 11 = .ok (.aload_n 0, 1) := by decide +kernel
theorem dModel_fact_12 : decode prog_14_method_53_code 12 = .ok (.getfield 412, 3) := by decide +kernel
theorem dModel_fact_15 : decode prog_14_method_53_code 15 = .ok (.aload_n 0, 1) := by decide +kernel
theorem dModel_fact_16 : decode prog_14_method_53_code 16 = .ok (.getfield 169, 3) := by decide +kernel
theorem dModel_fact_19 : decode prog_14_method_53_code 19 = .ok (.iload_n 1, 1) := by decide +kernel
theorem dModel_fact_20 : decode prog_14_method_53_code 20 = .ok (.iastore, 1) := by decide +kernel
theorem dModel_fact_21 : decode prog_14_method_53_code 21 = .ok (.aload_n 0, 1) := by decide +kernel
theorem dModel_fact_22 : decode prog_14_method_53_code 22 = .ok (.getfield 415, 3) := by decide +kernel
theorem dModel_fact_25 : decode prog_14_method_53_code 25 = .ok (.aload_n 0, 1) := by decide +kernel
theorem dModel_fact_26 : decode prog_14_method_53_code 26 = .ok (.getfield 169, 3) := by decide +kernel
theorem dModel_fact_29 : decode prog_14_method_53_code 29 = .ok (.iload_n 2, 1) := by decide +kernel
theorem dModel_fact_30 : decode prog_14_method_53_code 30 = .ok (.iastore, 1) := by decide +kernel
theorem dModel_fact_31 : decode prog_14_method_53_code 31 = .ok (.aload_n 0, 1) := by decide +kernel
theorem dModel_fact_32 : decode prog_14_method_53_code 32 = .ok (.getfield 418, 3) := by decide +kernel
theorem dModel_fact_35 : decode prog_14_method_53_code 35 = .ok (.aload_n 0, 1) := by decide +kernel
theorem dModel_fact_36 : decode prog_14_method_53_code 36 = .ok (.getfield 169, 3) := by decide +kernel
theorem dModel_fact_39 : decode prog_14_method_53_code 39 = .ok (.iload_n 3, 1) := by decide +kernel
theorem dModel_fact_40 : decode prog_14_method_53_code 40 = .ok (.iastore, 1) := by decide +kernel
theorem dModel_fact_41 : decode prog_14_method_53_code 41 = .ok (.aload_n 0, 1) := by decide +kernel
theorem dModel_fact_42 : decode prog_14_method_53_code 42 = .ok (.getfield 421, 3) := by decide +kernel
theorem dModel_fact_45 : decode prog_14_method_53_code 45 = .ok (.aload_n 0, 1) := by decide +kernel
theorem dModel_fact_46 : decode prog_14_method_53_code 46 = .ok (.getfield 169, 3) := by decide +kernel
theorem dModel_fact_49 : decode prog_14_method_53_code 49 = .ok (.iload 4, 2) := by decide +kernel
theorem dModel_fact_51 : decode prog_14_method_53_code 51 = .ok (.iastore, 1) := by decide +kernel
theorem dModel_fact_52 : decode prog_14_method_53_code 52 = .ok (.aload_n 0, 1) := by decide +kernel
theorem dModel_fact_53 : decode prog_14_method_53_code 53 = .ok (.getfield 424, 3) := by decide +kernel
theorem dModel_fact_56 : decode prog_14_method_53_code 56 = .ok (.aload_n 0, 1) := by decide +kernel
theorem dModel_fact_57 : decode prog_14_method_53_code 57 = .ok (.getfield 169, 3) := by decide +kernel
theorem dModel_fact_60 : decode prog_14_method_53_code 60 = .ok (.aload_n 0, 1) := by decide +kernel
theorem dModel_fact_61 : decode prog_14_method_53_code 61 = .ok (.getfield 427, 3) := by decide +kernel
theorem dModel_fact_64 : decode prog_14_method_53_code 64 = .ok (.iastore, 1) := by decide +kernel
theorem dModel_fact_65 : decode prog_14_method_53_code 65 = .ok (.aload_n 0, 1) := by decide +kernel
theorem dModel_fact_66 : decode prog_14_method_53_code 66 = .ok (.getfield 430, 3) := by decide +kernel
theorem dModel_fact_69 : decode prog_14_method_53_code 69 = .ok (.aload_n 0, 1) := by decide +kernel
theorem dModel_fact_70 : decode prog_14_method_53_code 70 = .ok (.getfield 169, 3) := by decide +kernel
theorem dModel_fact_73 : decode prog_14_method_53_code 73 = .ok (.iconst (-1), 1) := by decide +kernel
theorem dModel_fact_74 : decode prog_14_method_53_code 74 = .ok (.iastore, 1) := by decide +kernel
theorem dModel_fact_75 : decode prog_14_method_53_code 75 = .ok (.aload_n 0, 1) := by decide +kernel
theorem dModel_fact_76 : decode prog_14_method_53_code 76 = .ok (.dup, 1) := by decide +kernel
theorem dModel_fact_77 : decode prog_14_method_53_code 77 = .ok (.getfield 169, 3) := by decide +kernel
theorem dModel_fact_80 : decode prog_14_method_53_code 80 = .ok (.iconst 1, 1) := by decide +kernel
theorem dModel_fact_81 : decode prog_14_method_53_code 81 = .ok (.iadd, 1) := by decide +kernel
theorem dModel_fact_82 : decode prog_14_method_53_code 82 = .ok (.putfield 169, 3) := by decide +kernel
theorem dModel_fact_85 : decode prog_14_method_53_code 85 = .ok (.aload_n 0, 1) := by decide +kernel
theorem dModel_fact_86 : decode prog_14_method_53_code 86 = .ok (.getfield 169, 3) := by decide +kernel
theorem dModel_fact_89 : decode prog_14_method_53_code 89 = .ok (.iconst 1, 1) := by decide +kernel
theorem dModel_fact_90 : decode prog_14_method_53_code 90 = .ok (.isub, 1) := by decide +kernel
theorem dModel_fact_91 : decode prog_14_method_53_code 91 = .ok (.ireturn, 1) := by decide +kernel
theorem dModel_isMonth_0 : decode prog_14_method_54_code 0 = .ok (.iload_n 0, 1) := by decide +kernel
theorem dModel_isMonth_1 : decode prog_14_method_54_code 1 = .ok (.iconst 0, 1) := by decide +kernel
theorem dModel_isMonth_2 : decode prog_14_method_54_code 2 = .ok (.sipush 239, 3) := by decide +kernel
theorem dModel_isMonth_5 : decode prog_14_method_54_code 5 = .ok (.invokestatic 393, 3) := by decide +kernel
theorem dModel_isMonth_8 : decode prog_14_method_54_code 8 = .ok (.ireturn, 1) := by decide +kernel
theorem dModel_weather_0 : decode prog_14_method_55_code 0 = .ok (.iload_n 1, 1) := by decide +kernel
theorem dModel_weather_1 : decode prog_14_method_55_code 1 = .ok (.iconst 0, 1) := by decide +kernel
theorem dModel_weather_2 : decode prog_14_method_55_code 2 = .ok (.aload_n 0, 1) := by decide +kernel
theorem dModel_weather_3 : decode prog_14_method_55_code 3 = .ok (.invokevirtual 433, 3) := by decide +kernel
theorem dModel_weather_6 : decode prog_14_method_55_code 6 = .ok (.iconst 1, 1) := by decide +kernel
theorem dModel_weather_7 : decode prog_14_method_55_code 7 = .ok (.isub, 1) := by decide +kernel
theorem dModel_weather_8 : decode prog_14_method_55_code 8 = .ok (.invokestatic 393, 3) := by decide +kernel
theorem dModel_weather_11 : decode prog_14_method_55_code 11 = .ok (.ifCond .eq 32, 3) := by decide +kernel
theorem dModel_weather_14 : decode prog_14_method_55_code 14 = .ok (.iload_n 2, 1) := by decide +kernel
theorem dModel_weather_15 : decode prog_14_method_55_code 15 = .ok (.invokestatic 436, 3) := by decide +kernel
theorem dModel_weather_18 : decode prog_14_method_55_code 18 = .ok (.ifCond .eq 25, 3) := by decide +kernel
theorem dModel_weather_21 : decode prog_14_method_55_code 21 = .ok (.iload_n 3, 1) := by decide +kernel
theorem dModel_weather_22 : decode prog_14_method_55_code 22 = .ok (.iconst 0, 1) := by decide +kernel
theorem dModel_weather_23 : decode prog_14_method_55_code 23 = .ok (.sipush 300, 3) := by decide +kernel
theorem dModel_weather_26 : decode prog_14_method_55_code 26 = .ok (.invokestatic 393, 3) := by decide +kernel
theorem dModel_weather_29 : decode prog_14_method_55_code 29 = .ok (.ifCond .eq 14, 3) := by decide +kernel
theorem dModel_weather_32 : decode prog_14_method_55_code 32 = .ok (.aload_n 0, 1) := by decide +kernel
theorem dModel_weather_33 : decode prog_14_method_55_code 33 = .ok (.iconst 0, 1) := by decide +kernel
theorem dModel_weather_34 : decode prog_14_method_55_code 34 = .ok (.iload_n 1, 1) := by decide +kernel
theorem dModel_weather_35 : decode prog_14_method_55_code 35 = .ok (.iload_n 2, 1) := by decide +kernel
theorem dModel_weather_36 : decode prog_14_method_55_code 36 = .ok (.iload_n 3, 1) := by decide +kernel
theorem dModel_weather_37 : decode prog_14_method_55_code 37 = .ok (.invokevirtual 439, 3) := by decide +kernel
theorem dModel_weather_40 : decode prog_14_method_55_code 40 = .ok (.goto 4, 3) := by decide +kernel
theorem dModel_weather_43 : decode prog_14_method_55_code 43 = .ok (.iconst (-1), 1) := by decide +kernel
theorem dModel_weather_44 : decode prog_14_method_55_code 44 = .ok (.ireturn, 1) := by decide +kernel
theorem dModel_forged_0 : decode prog_14_method_56_code 0 = .ok (.iload_n 1, 1) := by decide +kernel
theorem dModel_forged_1 : decode prog_14_method_56_code 1 = .ok (.iconst 0, 1) := by decide +kernel
theorem dModel_forged_2 : decode prog_14_method_56_code 2 = .ok (.sipush 1999, 3) := by decide +kernel
theorem dModel_forged_5 : decode prog_14_method_56_code 5 = .ok (.invokestatic 393, 3) := by decide +kernel
theorem dModel_forged_8 : decode prog_14_method_56_code 8 = .ok (.ifCond .eq 21, 3) := by decide +kernel
theorem dModel_forged_11 : decode prog_14_method_56_code 11 = .ok (.iload_n 2, 1) := by decide +kernel
theorem dModel_forged_12 : decode prog_14_method_56_code 12 = .ok (.invokestatic 436, 3) := by decide +kernel
theorem dModel_forged_15 : decode prog_14_method_56_code 15 = .ok (.ifCond .eq 14, 3) := by decide +kernel
theorem dModel_forged_18 : decode prog_14_method_56_code 18 = .ok (.aload_n 0, 1) := by decide +kernel
theorem dModel_forged_19 : decode prog_14_method_56_code 19 = .ok (.iconst 1, 1) := by decide +kernel
theorem dModel_forged_20 : decode prog_14_method_56_code 20 = .ok (.iload_n 1, 1) := by decide +kernel
theorem dModel_forged_21 : decode prog_14_method_56_code 21 = .ok (.iload_n 2, 1) := by decide +kernel
theorem dModel_forged_22 : decode prog_14_method_56_code 22 = .ok (.iconst 0, 1) := by decide +kernel
theorem dModel_forged_23 : decode prog_14_method_56_code 23 = .ok (.invokevirtual 439, 3) := by decide +kernel
theorem dModel_forged_26 : decode prog_14_method_56_code 26 = .ok (.goto 4, 3) := by decide +kernel
theorem dModel_forged_29 : decode prog_14_method_56_code 29 = .ok (.iconst (-1), 1) := by decide +kernel
theorem dModel_forged_30 : decode prog_14_method_56_code 30 = .ok (.ireturn, 1) := by decide +kernel
theorem dModel_dead_0 : decode prog_14_method_57_code 0 = .ok (.iload_n 1, 1) := by decide +kernel
theorem dModel_dead_1 : decode prog_14_method_57_code 1 = .ok (.iconst 0, 1) := by decide +kernel
theorem dModel_dead_2 : decode prog_14_method_57_code 2 = .ok (.aload_n 0, 1) := by decide +kernel
theorem dModel_dead_3 : decode prog_14_method_57_code 3 = .ok (.getfield 387, 3) := by decide +kernel
theorem dModel_dead_6 : decode prog_14_method_57_code 6 = .ok (.iconst 1, 1) := by decide +kernel
theorem dModel_dead_7 : decode prog_14_method_57_code 7 = .ok (.isub, 1) := by decide +kernel
theorem dModel_dead_8 : decode prog_14_method_57_code 8 = .ok (.invokestatic 393, 3) := by decide +kernel
theorem dModel_dead_11 : decode prog_14_method_57_code 11 = .ok (.ifCond .eq 40, 3) := by decide +kernel
theorem dModel_dead_14 : decode prog_14_method_57_code 14 = .ok (.iload_n 2, 1) := by decide +kernel
theorem dModel_dead_15 : decode prog_14_method_57_code 15 = .ok (.invokestatic 436, 3) := by decide +kernel
theorem dModel_dead_18 : decode prog_14_method_57_code 18 = .ok (.ifCond .eq 33, 3) := by decide +kernel
theorem dModel_dead_21 : decode prog_14_method_57_code 21 = .ok (.iload_n 3, 1) := by decide +kernel
theorem dModel_dead_22 : decode prog_14_method_57_code 22 = .ok (.iconst (-1), 1) := by decide +kernel
theorem dModel_dead_23 : decode prog_14_method_57_code 23 = .ok (.aload_n 0, 1) := by decide +kernel
theorem dModel_dead_24 : decode prog_14_method_57_code 24 = .ok (.getfield 387, 3) := by decide +kernel
theorem dModel_dead_27 : decode prog_14_method_57_code 27 = .ok (.iconst 1, 1) := by decide +kernel
theorem dModel_dead_28 : decode prog_14_method_57_code 28 = .ok (.isub, 1) := by decide +kernel
theorem dModel_dead_29 : decode prog_14_method_57_code 29 = .ok (.invokestatic 393, 3) := by decide +kernel
theorem dModel_dead_32 : decode prog_14_method_57_code 32 = .ok (.ifCond .eq 19, 3) := by decide +kernel
theorem dModel_dead_35 : decode prog_14_method_57_code 35 = .ok (.iload_n 3, 1) := by decide +kernel
theorem dModel_dead_36 : decode prog_14_method_57_code 36 = .ok (.iload_n 1, 1) := by decide +kernel
theorem dModel_dead_37 : decode prog_14_method_57_code 37 = .ok (.if_icmp .eq 14, 3) := by decide +kernel
theorem dModel_dead_40 : decode prog_14_method_57_code 40 = .ok (.aload_n 0, 1) := by decide +kernel
theorem dModel_dead_41 : decode prog_14_method_57_code 41 = .ok (.iconst 2, 1) := by decide +kernel
theorem dModel_dead_42 : decode prog_14_method_57_code 42 = .ok (.iload_n 1, 1) := by decide +kernel
theorem dModel_dead_43 : decode prog_14_method_57_code 43 = .ok (.iload_n 2, 1) := by decide +kernel
theorem dModel_dead_44 : decode prog_14_method_57_code 44 = .ok (.iload_n 3, 1) := by decide +kernel
theorem dModel_dead_45 : decode prog_14_method_57_code 45 = .ok (.invokevirtual 439, 3) := by decide +kernel
theorem dModel_dead_48 : decode prog_14_method_57_code 48 = .ok (.goto 4, 3) := by decide +kernel
theorem dModel_dead_51 : decode prog_14_method_57_code 51 = .ok (.iconst (-1), 1) := by decide +kernel
theorem dModel_dead_52 : decode prog_14_method_57_code 52 = .ok (.ireturn, 1) := by decide +kernel
theorem dModel_untell_0 : decode prog_14_method_58_code 0 = .ok (.iload_n 1, 1) := by decide +kernel
theorem dModel_untell_1 : decode prog_14_method_58_code 1 = .ok (.ifCond .lt 20, 3) := by decide +kernel
theorem dModel_untell_4 : decode prog_14_method_58_code 4 = .ok (.iload_n 1, 1) := by decide +kernel
theorem dModel_untell_5 : decode prog_14_method_58_code 5 = .ok (.aload_n 0, 1) := by decide +kernel
theorem dModel_untell_6 : decode prog_14_method_58_code 6 = .ok (.getfield 169, 3) := by decide +kernel
theorem dModel_untell_9 : decode prog_14_method_58_code 9 = .ok (.if_icmp .ge 12, 3) := by decide +kernel
theorem dModel_untell_12 : decode prog_14_method_58_code 12 = .ok (.aload_n 0, 1) := by decide +kernel
theorem dModel_untell_13 : decode prog_14_method_58_code 13 = .ok (.getfield 430, 3) := by decide +kernel
theorem dModel_untell_16 : decode prog_14_method_58_code 16 = .ok (.iload_n 1, 1) := by decide +kernel
theorem dModel_untell_17 : decode prog_14_method_58_code 17 = .ok (.iaload, 1) := by decide +kernel
theorem dModel_untell_18 : decode prog_14_method_58_code 18 = .ok (.ifCond .lt 5, 3) := by decide +kernel
theorem dModel_untell_21 : decode prog_14_method_58_code 21 = .ok (.iconst 0, 1) := by decide +kernel
theorem dModel_untell_22 : decode prog_14_method_58_code 22 = .ok (.ireturn, 1) := by decide +kernel
theorem dModel_untell_23 : decode prog_14_method_58_code 23 = .ok (.aload_n 0, 1) := by decide +kernel
theorem dModel_untell_24 : decode prog_14_method_58_code 24 = .ok (.getfield 430, 3) := by decide +kernel
theorem dModel_untell_27 : decode prog_14_method_58_code 27 = .ok (.iload_n 1, 1) := by decide +kernel
