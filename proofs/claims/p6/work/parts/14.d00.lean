/-! Decode rows: by program. -/
theorem dFacts_init_0 : decode prog_2_method_1_code 0 = .ok (.aload_n 0, 1) := by decide +kernel
theorem dFacts_init_1 : decode prog_2_method_1_code 1 = .ok (.invokespecial 3, 3) := by decide +kernel
theorem dFacts_init_4 : decode prog_2_method_1_code 4 = .ok (.aload_n 0, 1) := by decide +kernel
theorem dFacts_init_5 : decode prog_2_method_1_code 5 = .ok (.bipush 40, 2) := by decide +kernel
theorem dFacts_init_7 : decode prog_2_method_1_code 7 = .ok (.newarray .int, 2) := by decide +kernel
theorem dFacts_init_9 : decode prog_2_method_1_code 9 = .ok (.putfield 9, 3) := by decide +kernel
theorem dFacts_init_12 : decode prog_2_method_1_code 12 = .ok (.aload_n 0, 1) := by decide +kernel
theorem dFacts_init_13 : decode prog_2_method_1_code 13 = .ok (.bipush 40, 2) := by decide +kernel
theorem dFacts_init_15 : decode prog_2_method_1_code 15 = .ok (.newarray .int, 2) := by decide +kernel
theorem dFacts_init_17 : decode prog_2_method_1_code 17 = .ok (.putfield 15, 3) := by decide +kernel
theorem dFacts_init_20 : decode prog_2_method_1_code 20 = .ok (.aload_n 0, 1) := by decide +kernel
theorem dFacts_init_21 : decode prog_2_method_1_code 21 = .ok (.bipush 40, 2) := by decide +kernel
theorem dFacts_init_23 : decode prog_2_method_1_code 23 = .ok (.newarray .int, 2) := by decide +kernel
theorem dFacts_init_25 : decode prog_2_method_1_code 25 = .ok (.putfield 18, 3) := by decide +kernel
theorem dFacts_init_28 : decode prog_2_method_1_code 28 = .ok (.aload_n 0, 1) := by decide +kernel
theorem dFacts_init_29 : decode prog_2_method_1_code 29 = .ok (.bipush 40, 2) := by decide +kernel
theorem dFacts_init_31 : decode prog_2_method_1_code 31 = .ok (.newarray .int, 2) := by decide +kernel
theorem dFacts_init_33 : decode prog_2_method_1_code 33 = .ok (.putfield 21, 3) := by decide +kernel
theorem dFacts_init_36 : decode prog_2_method_1_code 36 = .ok (.aload_n 0, 1) := by decide +kernel
theorem dFacts_init_37 : decode prog_2_method_1_code 37 = .ok (.bipush 40, 2) := by decide +kernel
theorem dFacts_init_39 : decode prog_2_method_1_code 39 = .ok (.newarray .int, 2) := by decide +kernel
theorem dFacts_init_41 : decode prog_2_method_1_code 41 = .ok (.putfield 24, 3) := by decide +kernel
theorem dFacts_init_44 : decode prog_2_method_1_code 44 = .ok (.aload_n 0, 1) := by decide +kernel
theorem dFacts_init_45 : decode prog_2_method_1_code 45 = .ok (.bipush 40, 2) := by decide +kernel
theorem dFacts_init_47 : decode prog_2_method_1_code 47 = .ok (.newarray .int, 2) := by decide +kernel
theorem dFacts_init_49 : decode prog_2_method_1_code 49 = .ok (.putfield 27, 3) := by decide +kernel
theorem dFacts_init_52 : decode prog_2_method_1_code 52 = .ok (.aload_n 0, 1) := by decide +kernel
theorem dFacts_init_53 : decode prog_2_method_1_code 53 = .ok (.iconst 0, 1) := by decide +kernel
theorem dFacts_init_54 : decode prog_2_method_1_code 54 = .ok (.putfield 30, 3) := by decide +kernel
theorem dFacts_init_57 : decode prog_2_method_1_code 57 = .ok (.return_, 1) := by decide +kernel
theorem dFacts_add_0 : decode prog_2_method_2_code 0 = .ok (.aload_n 0, 1) := by decide +kernel
theorem dFacts_add_1 : decode prog_2_method_2_code 1 = .ok (.getfield 30, 3) := by decide +kernel
theorem dFacts_add_4 : decode prog_2_method_2_code 4 = .ok (.bipush 40, 2) := by decide +kernel
theorem dFacts_add_6 : decode prog_2_method_2_code 6 = .ok (.if_icmp .lt 5, 3) := by decide +kernel
theorem dFacts_add_9 : decode prog_2_method_2_code 9 = .ok (.iconst (-1), 1) := by decide +kernel
theorem dFacts_add_10 : decode prog_2_method_2_code 10 = .ok (.ireturn, 1) := by decide +kernel
theorem dFacts_add_11 : decode prog_2_method_2_code 11 = .ok (.aload_n 0, 1) := by decide +kernel
theorem dFacts_add_12 : decode prog_2_method_2_code 12 = .ok (.getfield 9, 3) := by decide +kernel
theorem dFacts_add_15 : decode prog_2_method_2_code 15 = .ok (.aload_n 0, 1) := by decide +kernel
theorem dFacts_add_16 : decode prog_2_method_2_code 16 = .ok (.getfield 30, 3) := by decide +kernel
theorem dFacts_add_19 : decode prog_2_method_2_code 19 = .ok (.iload_n 1, 1) := by decide +kernel
theorem dFacts_add_20 : decode prog_2_method_2_code 20 = .ok (.iastore, 1) := by decide +kernel
theorem dFacts_add_21 : decode prog_2_method_2_code 21 = .ok (.aload_n 0, 1) := by decide +kernel
theorem dFacts_add_22 : decode prog_2_method_2_code 22 = .ok (.getfield 15, 3) := by decide +kernel
theorem dFacts_add_25 : decode prog_2_method_2_code 25 = .ok (.aload_n 0, 1) := by decide +kernel
theorem dFacts_add_26 : decode prog_2_method_2_code 26 = .ok (.getfield 30, 3) := by decide +kernel
theorem dFacts_add_29 : decode prog_2_method_2_code 29 = .ok (.iload_n 2, 1) := by decide +kernel
theorem dFacts_add_30 : decode prog_2_method_2_code 30 = .ok (.iastore, 1) := by decide +kernel
theorem dFacts_add_31 : decode prog_2_method_2_code 31 = .ok (.aload_n 0, 1) := by decide +kernel
theorem dFacts_add_32 : decode prog_2_method_2_code 32 = .ok (.getfield 18, 3) := by decide +kernel
theorem dFacts_add_35 : decode prog_2_method_2_code 35 = .ok (.aload_n 0, 1) := by decide +kernel
theorem dFacts_add_36 : decode prog_2_method_2_code 36 = .ok (.getfield 30, 3) := by decide +kernel
theorem dFacts_add_39 : decode prog_2_method_2_code 39 = .ok (.iload_n 3, 1) := by decide +kernel
theorem dFacts_add_40 : decode prog_2_method_2_code 40 = .ok (.iastore, 1) := by decide +kernel
theorem dFacts_add_41 : decode prog_2_method_2_code 41 = .ok (.aload_n 0, 1) := by decide +kernel
theorem dFacts_add_42 : decode prog_2_method_2_code 42 = .ok (.getfield 21, 3) := by decide +kernel
theorem dFacts_add_45 : decode prog_2_method_2_code 45 = .ok (.aload_n 0, 1) := by decide +kernel
theorem dFacts_add_46 : decode prog_2_method_2_code 46 = .ok (.getfield 30, 3) := by decide +kernel
theorem dFacts_add_49 : decode prog_2_method_2_code 49 = .ok (.iload 4, 2) := by decide +kernel
theorem dFacts_add_51 : decode prog_2_method_2_code 51 = .ok (.iastore, 1) := by decide +kernel
theorem dFacts_add_52 : decode prog_2_method_2_code 52 = .ok (.aload_n 0, 1) := by decide +kernel
theorem dFacts_add_53 : decode prog_2_method_2_code 53 = .ok (.getfield 24, 3) := by decide +kernel
theorem dFacts_add_56 : decode prog_2_method_2_code 56 = .ok (.aload_n 0, 1) := by decide +kernel
theorem dFacts_add_57 : decode prog_2_method_2_code 57 = .ok (.getfield 30, 3) := by decide +kernel
theorem dFacts_add_60 : decode prog_2_method_2_code 60 = .ok (.iload 5, 2) := by decide +kernel
theorem dFacts_add_62 : decode prog_2_method_2_code 62 = .ok (.iastore, 1) := by decide +kernel
theorem dFacts_add_63 : decode prog_2_method_2_code 63 = .ok (.aload_n 0, 1) := by decide +kernel
theorem dFacts_add_64 : decode prog_2_method_2_code 64 = .ok (.getfield 27, 3) := by decide +kernel
theorem dFacts_add_67 : decode prog_2_method_2_code 67 = .ok (.aload_n 0, 1) := by decide +kernel
theorem dFacts_add_68 : decode prog_2_method_2_code 68 = .ok (.getfield 30, 3) := by decide +kernel
theorem dFacts_add_71 : decode prog_2_method_2_code 71 = .ok (.iconst (-1), 1) := by decide +kernel
theorem dFacts_add_72 : decode prog_2_method_2_code 72 = .ok (.iastore, 1) := by decide +kernel
theorem dFacts_add_73 : decode prog_2_method_2_code 73 = .ok (.aload_n 0, 1) := by decide +kernel
theorem dFacts_add_74 : decode prog_2_method_2_code 74 = .ok (.dup, 1) := by decide +kernel
theorem dFacts_add_75 : decode prog_2_method_2_code 75 = .ok (.getfield 30, 3) := by decide +kernel
theorem dFacts_add_78 : decode prog_2_method_2_code 78 = .ok (.iconst 1, 1) := by decide +kernel
theorem dFacts_add_79 : decode prog_2_method_2_code 79 = .ok (.iadd, 1) := by decide +kernel
theorem dFacts_add_80 : decode prog_2_method_2_code 80 = .ok (.putfield 30, 3) := by decide +kernel
theorem dFacts_add_83 : decode prog_2_method_2_code 83 = .ok (.aload_n 0, 1) := by decide +kernel
theorem dFacts_add_84 : decode prog_2_method_2_code 84 = .ok (.getfield 30, 3) := by decide +kernel
theorem dFacts_add_87 : decode prog_2_method_2_code 87 = .ok (.iconst 1, 1) := by decide +kernel
theorem dFacts_add_88 : decode prog_2_method_2_code 88 = .ok (.isub, 1) := by decide +kernel
theorem dFacts_add_89 : decode prog_2_method_2_code 89 = .ok (.ireturn, 1) := by decide +kernel
theorem dFacts_isKnown_0 : decode prog_2_method_3_code 0 = .ok (.aload_n 0, 1) := by decide +kernel
theorem dFacts_isKnown_1 : decode prog_2_method_3_code 1 = .ok (.getfield 9, 3) := by decide +kernel
theorem dFacts_isKnown_4 : decode prog_2_method_3_code 4 = .ok (.iload_n 1, 1) := by decide +kernel
theorem dFacts_isKnown_5 : decode prog_2_method_3_code 5 = .ok (.iaload, 1) := by decide +kernel
theorem dFacts_isKnown_6 : decode prog_2_method_3_code 6 = .ok (.iload_n 2, 1) := by decide +kernel
theorem dFacts_isKnown_7 : decode prog_2_method_3_code 7 = .ok (.if_icmp .ne 37, 3) := by decide +kernel
theorem dFacts_isKnown_10 : decode prog_2_method_3_code 10 = .ok (.aload_n 0, 1) := by decide +kernel
theorem dFacts_isKnown_11 : decode prog_2_method_3_code 11 = .ok (.getfield 24, 3) := by decide +kernel
theorem dFacts_isKnown_14 : decode prog_2_method_3_code 14 = .ok (.iload_n 1, 1) := by decide +kernel
theorem dFacts_isKnown_15 : decode prog_2_method_3_code 15 = .ok (.iaload, 1) := by decide +kernel
theorem dFacts_isKnown_16 : decode prog_2_method_3_code 16 = .ok (.iload_n 3, 1) := by decide +kernel
theorem dFacts_isKnown_17 : decode prog_2_method_3_code 17 = .ok (.if_icmp .gt 27, 3) := by decide +kernel
theorem dFacts_isKnown_20 : decode prog_2_method_3_code 20 = .ok (.aload_n 0, 1) := by decide +kernel
theorem dFacts_isKnown_21 : decode prog_2_method_3_code 21 = .ok (.getfield 27, 3) := by decide +kernel
theorem dFacts_isKnown_24 : decode prog_2_method_3_code 24 = .ok (.iload_n 1, 1) := by decide +kernel
theorem dFacts_isKnown_25 : decode prog_2_method_3_code 25 = .ok (.iaload, 1) := by decide +kernel
theorem dFacts_isKnown_26 : decode prog_2_method_3_code 26 = .ok (.iconst (-1), 1) := by decide +kernel
theorem dFacts_isKnown_27 : decode prog_2_method_3_code 27 = .ok (.if_icmp .eq 13, 3) := by decide +kernel
theorem dFacts_isKnown_30 : decode prog_2_method_3_code 30 = .ok (.aload_n 0, 1) := by decide +kernel
theorem dFacts_isKnown_31 : decode prog_2_method_3_code 31 = .ok (.getfield 27, 3) := by decide +kernel
theorem dFacts_isKnown_34 : decode prog_2_method_3_code 34 = .ok (.iload_n 1, 1) := by decide +kernel
theorem dFacts_isKnown_35 : decode prog_2_method_3_code 35 = .ok (.iaload, 1) := by decide +kernel
theorem dFacts_isKnown_36 : decode prog_2_method_3_code 36 = .ok (.iload_n 3, 1) := by decide +kernel
theorem dFacts_isKnown_37 : decode prog_2_method_3_code 37 = .ok (.if_icmp .le 7, 3) := by decide +kernel
theorem dFacts_isKnown_40 : decode prog_2_method_3_code 40 = .ok (.iconst 1, 1) := by decide +kernel
theorem dFacts_isKnown_41 : decode prog_2_method_3_code 41 = .ok (.goto 4, 3) := by decide +kernel
theorem dFacts_isKnown_44 : decode prog_2_method_3_code 44 = .ok (.iconst 0, 1) := by decide +kernel
theorem dFacts_isKnown_45 : decode prog_2_method_3_code 45 = .ok (.ireturn, 1) := by decide +kernel
theorem dFacts_saltByWeather_0 : decode prog_2_method_4_code 0 = .ok (.iload_n 1, 1) := by decide +kernel
theorem dFacts_saltByWeather_1 : decode prog_2_method_4_code 1 = .ok (.istore 5, 2) := by decide +kernel
theorem dFacts_saltByWeather_3 : decode prog_2_method_4_code 3 = .ok (.iconst 0, 1) := by decide +kernel
theorem dFacts_saltByWeather_4 : decode prog_2_method_4_code 4 = .ok (.istore 6, 2) := by decide +kernel
theorem dFacts_saltByWeather_6 : decode prog_2_method_4_code 6 = .ok (.iload 6, 2) := by decide +kernel
theorem dFacts_saltByWeather_8 : decode prog_2_method_4_code 8 = .ok (.aload_n 0, 1) := by decide +kernel
theorem dFacts_saltByWeather_9 : decode prog_2_method_4_code 9 = .ok (.getfield 30, 3) := by decide +kernel
theorem dFacts_saltByWeather_12 : decode prog_2_method_4_code 12 = .ok (.if_icmp .ge 72, 3) := by decide +kernel
theorem dFacts_saltByWeather_15 : decode prog_2_method_4_code 15 = .ok (.aload_n 0, 1) := by decide +kernel
theorem dFacts_saltByWeather_16 : decode prog_2_method_4_code 16 = .ok (.getfield 15, 3) := by decide +kernel
theorem dFacts_saltByWeather_19 : decode prog_2_method_4_code 19 = .ok (.iload 6, 2) := by decide +kernel
theorem dFacts_saltByWeather_21 : decode prog_2_method_4_code 21 = .ok (.iaload, 1) := by decide +kernel
theorem dFacts_saltByWeather_22 : decode prog_2_method_4_code 22 = .ok (.iload_n 2, 1) := by decide +kernel
theorem dFacts_saltByWeather_23 : decode prog_2_method_4_code 23 = .ok (.if_icmp .ne 55, 3) := by decide +kernel
theorem dFacts_saltByWeather_26 : decode prog_2_method_4_code 26 = .ok (.aload_n 0, 1) := by decide +kernel
theorem dFacts_saltByWeather_27 : decode prog_2_method_4_code 27 = .ok (.getfield 18, 3) := by decide +kernel
theorem dFacts_saltByWeather_30 : decode prog_2_method_4_code 30 = .ok (.iload 6, 2) := by decide +kernel
theorem dFacts_saltByWeather_32 : decode prog_2_method_4_code 32 = .ok (.iaload, 1) := by decide +kernel
theorem dFacts_saltByWeather_33 : decode prog_2_method_4_code 33 = .ok (.iload_n 3, 1) := by decide +kernel
theorem dFacts_saltByWeather_34 : decode prog_2_method_4_code 34 = .ok (.if_icmp .ne 44, 3) := by decide +kernel
theorem dFacts_saltByWeather_37 : decode prog_2_method_4_code 37 = .ok (.aload_n 0, 1) := by decide +kernel
theorem dFacts_saltByWeather_38 : decode prog_2_method_4_code 38 = .ok (.iload 6, 2) := by decide +kernel
theorem dFacts_saltByWeather_40 : decode prog_2_method_4_code 40 = .ok (.iconst 0, 1) := by decide +kernel
theorem dFacts_saltByWeather_41 : decode prog_2_method_4_code 41 = .ok (.iload 4, 2) := by decide +kernel
theorem dFacts_saltByWeather_43 : decode prog_2_method_4_code 43 = .ok (.invokevirtual 34, 3) := by decide +kernel
theorem dFacts_saltByWeather_46 : decode prog_2_method_4_code 46 = .ok (.ifCond .eq 32, 3) := by decide +kernel
theorem dFacts_saltByWeather_49 : decode prog_2_method_4_code 49 = .ok (.iload 5, 2) := by decide +kernel
theorem dFacts_saltByWeather_51 : decode prog_2_method_4_code 51 = .ok (.i2l, 1) := by decide +kernel
theorem dFacts_saltByWeather_52 : decode prog_2_method_4_code 52 = .ok (.aload_n 0, 1) := by decide +kernel
theorem dFacts_saltByWeather_53 : decode prog_2_method_4_code 53 = .ok (.getfield 21, 3) := by decide +kernel
theorem dFacts_saltByWeather_56 : decode prog_2_method_4_code 56 = .ok (.iload 6, 2) := by decide +kernel
theorem dFacts_saltByWeather_58 : decode prog_2_method_4_code 58 = .ok (.iaload, 1) := by decide +kernel
theorem dFacts_saltByWeather_59 : decode prog_2_method_4_code 59 = .ok (.i2l, 1) := by decide +kernel
theorem dFacts_saltByWeather_60 : decode prog_2_method_4_code 60 = .ok (.lmul, 1) := by decide +kernel
theorem dFacts_saltByWeather_61 : decode prog_2_method_4_code 61 = .ok (.ldc2_w 38, 3) := by decide +kernel
theorem dFacts_saltByWeather_64 : decode prog_2_method_4_code 64 = .ok (.ldiv, 1) := by decide +kernel
theorem dFacts_saltByWeather_65 : decode prog_2_method_4_code 65 = .ok (.lstore 7, 2) := by decide +kernel
theorem dFacts_saltByWeather_67 : decode prog_2_method_4_code 67 = .ok (.ldc2_w 40, 3) := by decide +kernel
theorem dFacts_saltByWeather_70 : decode prog_2_method_4_code 70 = .ok (.lload 7, 2) := by decide +kernel
theorem dFacts_saltByWeather_72 : decode prog_2_method_4_code 72 = .ok (.invokestatic 42, 3) := by decide +kernel
theorem dFacts_saltByWeather_75 : decode prog_2_method_4_code 75 = .ok (.l2i, 1) := by decide +kernel
theorem dFacts_saltByWeather_76 : decode prog_2_method_4_code 76 = .ok (.istore 5, 2) := by decide +kernel
theorem dFacts_saltByWeather_78 : decode prog_2_method_4_code 78 = .ok (.iinc 6 1, 3) := by decide +kernel
theorem dFacts_saltByWeather_81 : decode prog_2_method_4_code 81 = .ok (.goto (-75), 3) := by decide +kernel
theorem dFacts_saltByWeather_84 : decode prog_2_method_4_code 84 = .ok (.iload 5, 2) := by decide +kernel
theorem dFacts_saltByWeather_86 : decode prog_2_method_4_code 86 = .ok (.ireturn, 1) := by decide +kernel
theorem dLand_init_0 : decode prog_3_method_1_code 0 = .ok (.aload_n 0, 1) := by decide +kernel
theorem dLand_init_1 : decode prog_3_method_1_code 1 = .ok (.invokespecial 3, 3) := by decide +kernel
theorem dLand_init_4 : decode prog_3_method_1_code 4 = .ok (.aload_n 0, 1) := by decide +kernel
theorem dLand_init_5 : decode prog_3_method_1_code 5 = .ok (.iconst 0, 1) := by decide +kernel
theorem dLand_init_6 : decode prog_3_method_1_code 6 = .ok (.putfield 9, 3) := by decide +kernel
theorem dLand_init_9 : decode prog_3_method_1_code 9 = .ok (.aload_n 0, 1) := by decide +kernel
theorem dLand_init_10 : decode prog_3_method_1_code 10 = .ok (.iconst 0, 1) := by decide +kernel
theorem dLand_init_11 : decode prog_3_method_1_code 11 = .ok (.putfield 15, 3) := by decide +kernel
theorem dLand_init_14 : decode prog_3_method_1_code 14 = .ok (.aload_n 0, 1) := by decide +kernel
theorem dLand_init_15 : decode prog_3_method_1_code 15 = .ok (.iconst 0, 1) := by decide +kernel
theorem dLand_init_16 : decode prog_3_method_1_code 16 = .ok (.putfield 18, 3) := by decide +kernel
theorem dLand_init_19 : decode prog_3_method_1_code 19 = .ok (.aload_n 0, 1) := by decide +kernel
theorem dLand_init_20 : decode prog_3_method_1_code 20 = .ok (.iconst 0, 1) := by decide +kernel
theorem dLand_init_21 : decode prog_3_method_1_code 21 = .ok (.putfield 21, 3) := by decide +kernel
theorem dLand_init_24 : decode prog_3_method_1_code 24 = .ok (.aload_n 0, 1) := by decide +kernel
theorem dLand_init_25 : decode prog_3_method_1_code 25 = .ok (.iconst 0, 1) := by decide +kernel
theorem dLand_init_26 : decode prog_3_method_1_code 26 = .ok (.putfield 24, 3) := by decide +kernel
theorem dLand_init_29 : decode prog_3_method_1_code 29 = .ok (.aload_n 0, 1) := by decide +kernel
theorem dLand_init_30 : decode prog_3_method_1_code 30 = .ok (.bipush 11, 2) := by decide +kernel
theorem dLand_init_32 : decode prog_3_method_1_code 32 = .ok (.newarray .long, 2) := by decide +kernel
theorem dLand_init_34 : decode prog_3_method_1_code 34 = .ok (.putfield 27, 3) := by decide +kernel
theorem dLand_init_37 : decode prog_3_method_1_code 37 = .ok (.aload_n 0, 1) := by decide +kernel
theorem dLand_init_38 : decode prog_3_method_1_code 38 = .ok (.sipush 256, 3) := by decide +kernel
theorem dLand_init_41 : decode prog_3_method_1_code 41 = .ok (.newarray .int, 2) := by decide +kernel
theorem dLand_init_43 : decode prog_3_method_1_code 43 = .ok (.putfield 31, 3) := by decide +kernel
theorem dLand_init_46 : decode prog_3_method_1_code 46 = .ok (.aload_n 0, 1) := by decide +kernel
theorem dLand_init_47 : decode prog_3_method_1_code 47 = .ok (.iconst 3, 1) := by decide +kernel
theorem dLand_init_48 : decode prog_3_method_1_code 48 = .ok (.newarray .int, 2) := by decide +kernel
theorem dLand_init_50 : decode prog_3_method_1_code 50 = .ok (.putfield 35, 3) := by decide +kernel
theorem dLand_init_53 : decode prog_3_method_1_code 53 = .ok (.aload_n 0, 1) := by decide +kernel
theorem dLand_init_54 : decode prog_3_method_1_code 54 = .ok (.iconst 3, 1) := by decide +kernel
theorem dLand_init_55 : decode prog_3_method_1_code 55 = .ok (.newarray .int, 2) := by decide +kernel
theorem dLand_init_57 : decode prog_3_method_1_code 57 = .ok (.putfield 38, 3) := by decide +kernel
theorem dLand_init_60 : decode prog_3_method_1_code 60 = .ok (.aload_n 0, 1) := by decide +kernel
theorem dLand_init_61 : decode prog_3_method_1_code 61 = .ok (.iconst 3, 1) := by decide +kernel
theorem dLand_init_62 : decode prog_3_method_1_code 62 = .ok (.newarray .int, 2) := by decide +kernel
theorem dLand_init_64 : decode prog_3_method_1_code 64 = .ok (.putfield 41, 3) := by decide +kernel
theorem dLand_init_67 : decode prog_3_method_1_code 67 = .ok (.aload_n 0, 1) := by decide +kernel
theorem dLand_init_68 : decode prog_3_method_1_code 68 = .ok (.iconst 3, 1) := by decide +kernel
theorem dLand_init_69 : decode prog_3_method_1_code 69 = .ok (.newarray .int, 2) := by decide +kernel
theorem dLand_init_71 : decode prog_3_method_1_code 71 = .ok (.putfield 44, 3) := by decide +kernel
theorem dLand_init_74 : decode prog_3_method_1_code 74 = .ok (.aload_n 0, 1) := by decide +kernel
theorem dLand_init_75 : decode prog_3_method_1_code 75 = .ok (.bipush 36, 2) := by decide +kernel
theorem dLand_init_77 : decode prog_3_method_1_code 77 = .ok (.newarray .int, 2) := by decide +kernel
theorem dLand_init_79 : decode prog_3_method_1_code 79 = .ok (.putfield 47, 3) := by decide +kernel
theorem dLand_init_82 : decode prog_3_method_1_code 82 = .ok (.aload_n 0, 1) := by decide +kernel
theorem dLand_init_83 : decode prog_3_method_1_code 83 = .ok (.bipush 15, 2) := by decide +kernel
theorem dLand_init_85 : decode prog_3_method_1_code 85 = .ok (.newarray .int, 2) := by decide +kernel
theorem dLand_init_87 : decode prog_3_method_1_code 87 = .ok (.putfield 50, 3) := by decide +kernel
theorem dLand_init_90 : decode prog_3_method_1_code 90 = .ok (.aload_n 0, 1) := by decide +kernel
theorem dLand_init_91 : decode prog_3_method_1_code 91 = .ok (.iconst 3, 1) := by decide +kernel
theorem dLand_init_92 : decode prog_3_method_1_code 92 = .ok (.newarray .int, 2) := by decide +kernel
theorem dLand_init_94 : decode prog_3_method_1_code 94 = .ok (.putfield 53, 3) := by decide +kernel
theorem dLand_init_97 : decode prog_3_method_1_code 97 = .ok (.aload_n 0, 1) := by decide +kernel
theorem dLand_init_98 : decode prog_3_method_1_code 98 = .ok (.iconst 5, 1) := by decide +kernel
theorem dLand_init_99 : decode prog_3_method_1_code 99 = .ok (.newarray .int, 2) := by decide +kernel
theorem dLand_init_101 : decode prog_3_method_1_code 101 = .ok (.putfield 56, 3) := by decide +kernel
theorem dLand_init_104 : decode prog_3_method_1_code 104 = .ok (.aload_n 0, 1) := by decide +kernel
theorem dLand_init_105 : decode prog_3_method_1_code 105 = .ok (.iconst 5, 1) := by decide +kernel
theorem dLand_init_106 : decode prog_3_method_1_code 106 = .ok (.newarray .int, 2) := by decide +kernel
theorem dLand_init_108 : decode prog_3_method_1_code 108 = .ok (.putfield 59, 3) := by decide +kernel
theorem dLand_init_111 : decode prog_3_method_1_code 111 = .ok (.aload_n 0, 1) := by decide +kernel
theorem dLand_init_112 : decode prog_3_method_1_code 112 = .ok (.iconst 5, 1) := by decide +kernel
theorem dLand_init_113 : decode prog_3_method_1_code 113 = .ok (.newarray .int, 2) := by decide +kernel
theorem dLand_init_115 : decode prog_3_method_1_code 115 = .ok (.putfield 62, 3) := by decide +kernel
theorem dLand_init_118 : decode prog_3_method_1_code 118 = .ok (.aload_n 0, 1) := by decide +kernel
theorem dLand_init_119 : decode prog_3_method_1_code 119 = .ok (.iconst 5, 1) := by decide +kernel
theorem dLand_init_120 : decode prog_3_method_1_code 120 = .ok (.newarray .int, 2) := by decide +kernel
theorem dLand_init_122 : decode prog_3_method_1_code 122 = .ok (.putfield 65, 3) := by decide +kernel
theorem dLand_init_125 : decode prog_3_method_1_code 125 = .ok (.aload_n 0, 1) := by decide +kernel
theorem dLand_init_126 : decode prog_3_method_1_code 126 = .ok (.iconst 5, 1) := by decide +kernel
theorem dLand_init_127 : decode prog_3_method_1_code 127 = .ok (.newarray .int, 2) := by decide +kernel
theorem dLand_init_129 : decode prog_3_method_1_code 129 = .ok (.putfield 68, 3) := by decide +kernel
theorem dLand_init_132 : decode prog_3_method_1_code 132 = .ok (.aload_n 0, 1) := by decide +kernel
theorem dLand_init_133 : decode prog_3_method_1_code 133 = .ok (.iconst 5, 1) := by decide +kernel
theorem dLand_init_134 : decode prog_3_method_1_code 134 = .ok (.newarray .int, 2) := by decide +kernel
theorem dLand_init_136 : decode prog_3_method_1_code 136 = .ok (.putfield 71, 3) := by decide +kernel
theorem dLand_init_139 : decode prog_3_method_1_code 139 = .ok (.aload_n 0, 1) := by decide +kernel
theorem dLand_init_140 : decode prog_3_method_1_code 140 = .ok (.invokevirtual 74, 3) := by decide +kernel
theorem dLand_init_143 : decode prog_3_method_1_code 143 = .ok (.return_, 1) := by decide +kernel
theorem dLand_clear_0 : decode prog_3_method_2_code 0 = .ok (.aload_n 0, 1) := by decide +kernel
theorem dLand_clear_1 : decode prog_3_method_2_code 1 = .ok (.iconst 0, 1) := by decide +kernel
theorem dLand_clear_2 : decode prog_3_method_2_code 2 = .ok (.putfield 9, 3) := by decide +kernel
theorem dLand_clear_5 : decode prog_3_method_2_code 5 = .ok (.aload_n 0, 1) := by decide +kernel
theorem dLand_clear_6 : decode prog_3_method_2_code 6 = .ok (.iconst 0, 1) := by decide +kernel
theorem dLand_clear_7 : decode prog_3_method_2_code 7 = .ok (.putfield 15, 3) := by decide +kernel
theorem dLand_clear_10 : decode prog_3_method_2_code 10 = .ok (.aload_n 0, 1) := by decide +kernel
theorem dLand_clear_11 : decode prog_3_method_2_code 11 = .ok (.iconst 0, 1) := by decide +kernel
theorem dLand_clear_12 : decode prog_3_method_2_code 12 = .ok (.putfield 18, 3) := by decide +kernel
theorem dLand_clear_15 : decode prog_3_method_2_code 15 = .ok (.aload_n 0, 1) := by decide +kernel
theorem dLand_clear_16 : decode prog_3_method_2_code 16 = .ok (.iconst 0, 1) := by decide +kernel
theorem dLand_clear_17 : decode prog_3_method_2_code 17 = .ok (.putfield 21, 3) := by decide +kernel
theorem dLand_clear_20 : decode prog_3_method_2_code 20 = .ok (.aload_n 0, 1) := by decide +kernel
theorem dLand_clear_21 : decode prog_3_method_2_code 21 = .ok (.iconst 0, 1) := by decide +kernel
theorem dLand_clear_22 : decode prog_3_method_2_code 22 = .ok (.putfield 24, 3) := by decide +kernel
theorem dLand_clear_25 : decode prog_3_method_2_code 25 = .ok (.aload_n 0, 1) := by decide +kernel
theorem dLand_clear_26 : decode prog_3_method_2_code 26 = .ok (.getfield 50, 3) := by decide +kernel
theorem dLand_clear_29 : decode prog_3_method_2_code 29 = .ok (.iconst 0, 1) := by decide +kernel
theorem dLand_clear_30 : decode prog_3_method_2_code 30 = .ok (.invokestatic 77, 3) := by decide +kernel
theorem dLand_clear_33 : decode prog_3_method_2_code 33 = .ok (.aload_n 0, 1) := by decide +kernel
theorem dLand_clear_34 : decode prog_3_method_2_code 34 = .ok (.getfield 31, 3) := by decide +kernel
theorem dLand_clear_37 : decode prog_3_method_2_code 37 = .ok (.iconst (-1), 1) := by decide +kernel
theorem dLand_clear_38 : decode prog_3_method_2_code 38 = .ok (.invokestatic 77, 3) := by decide +kernel
theorem dLand_clear_41 : decode prog_3_method_2_code 41 = .ok (.iconst 0, 1) := by decide +kernel
theorem dLand_clear_42 : decode prog_3_method_2_code 42 = .ok (.istore_n 1, 1) := by decide +kernel
theorem dLand_clear_43 : decode prog_3_method_2_code 43 = .ok (.iload_n 1, 1) := by decide +kernel
theorem dLand_clear_44 : decode prog_3_method_2_code 44 = .ok (.bipush 16, 2) := by decide +kernel
theorem dLand_clear_46 : decode prog_3_method_2_code 46 = .ok (.if_icmp .ge 21, 3) := by decide +kernel
theorem dLand_clear_49 : decode prog_3_method_2_code 49 = .ok (.aload_n 0, 1) := by decide +kernel
theorem dLand_clear_50 : decode prog_3_method_2_code 50 = .ok (.getfield 31, 3) := by decide +kernel
theorem dLand_clear_53 : decode prog_3_method_2_code 53 = .ok (.iload_n 1, 1) := by decide +kernel
theorem dLand_clear_54 : decode prog_3_method_2_code 54 = .ok (.bipush 16, 2) := by decide +kernel
theorem dLand_clear_56 : decode prog_3_method_2_code 56 = .ok (.imul, 1) := by decide +kernel
theorem dLand_clear_57 : decode prog_3_method_2_code 57 = .ok (.iload_n 1, 1) := by decide +kernel
theorem dLand_clear_58 : decode prog_3_method_2_code 58 = .ok (.iadd, 1) := by decide +kernel
theorem dLand_clear_59 : decode prog_3_method_2_code 59 = .ok (.iconst 0, 1) := by decide +kernel
theorem dLand_clear_60 : decode prog_3_method_2_code 60 = .ok (.iastore, 1) := by decide +kernel
theorem dLand_clear_61 : decode prog_3_method_2_code 61 = .ok (.iinc 1 1, 3) := by decide +kernel
theorem dLand_clear_64 : decode prog_3_method_2_code 64 = .ok (.goto (-21), 3) := by decide +kernel
theorem dLand_clear_67 : decode prog_3_method_2_code 67 = .ok (.return_, 1) := by decide +kernel
theorem dLand_read_0 : decode prog_3_method_3_code 0 = .ok (.aload_n 0, 1) := by decide +kernel
theorem dLand_read_1 : decode prog_3_method_3_code 1 = .ok (.invokevirtual 74, 3) := by decide +kernel
theorem dLand_read_4 : decode prog_3_method_3_code 4 = .ok (.aload_n 1, 1) := by decide +kernel
theorem dLand_read_5 : decode prog_3_method_3_code 5 = .ok (.iconst 1, 1) := by decide +kernel
theorem dLand_read_6 : decode prog_3_method_3_code 6 = .ok (.invokevirtual 83, 3) := by decide +kernel
theorem dLand_read_9 : decode prog_3_method_3_code 9 = .ok (.iconst 0, 1) := by decide +kernel
theorem dLand_read_10 : decode prog_3_method_3_code 10 = .ok (.istore_n 2, 1) := by decide +kernel
theorem dLand_read_11 : decode prog_3_method_3_code 11 = .ok (.iload_n 2, 1) := by decide +kernel
theorem dLand_read_12 : decode prog_3_method_3_code 12 = .ok (.sipush 1600, 3) := by decide +kernel
theorem dLand_read_15 : decode prog_3_method_3_code 15 = .ok (.if_icmp .ge 26, 3) := by decide +kernel
theorem dLand_read_18 : decode prog_3_method_3_code 18 = .ok (.aload_n 1, 1) := by decide +kernel
theorem dLand_read_19 : decode prog_3_method_3_code 19 = .ok (.invokevirtual 89, 3) := by decide +kernel
theorem dLand_read_22 : decode prog_3_method_3_code 22 = .ok (.ifCond .ne 19, 3) := by decide +kernel
theorem dLand_read_25 : decode prog_3_method_3_code 25 = .ok (.aload_n 0, 1) := by decide +kernel
theorem dLand_read_26 : decode prog_3_method_3_code 26 = .ok (.aload_n 1, 1) := by decide +kernel
theorem dLand_read_27 : decode prog_3_method_3_code 27 = .ok (.invokevirtual 93, 3) := by decide +kernel
theorem dLand_read_30 : decode prog_3_method_3_code 30 = .ok (.ifCond .ne 5, 3) := by decide +kernel
theorem dLand_read_33 : decode prog_3_method_3_code 33 = .ok (.iconst 0, 1) := by decide +kernel
theorem dLand_read_34 : decode prog_3_method_3_code 34 = .ok (.ireturn, 1) := by decide +kernel
theorem dLand_read_35 : decode prog_3_method_3_code 35 = .ok (.iinc 2 1, 3) := by decide +kernel
theorem dLand_read_38 : decode prog_3_method_3_code 38 = .ok (.goto (-27), 3) := by decide +kernel
theorem dLand_read_41 : decode prog_3_method_3_code 41 = .ok (.aload_n 0, 1) := by decide +kernel
theorem dLand_read_42 : decode prog_3_method_3_code 42 = .ok (.invokevirtual 97, 3) := by decide +kernel
theorem dLand_read_45 : decode prog_3_method_3_code 45 = .ok (.iconst 1, 1) := by decide +kernel
theorem dLand_read_46 : decode prog_3_method_3_code 46 = .ok (.ireturn, 1) := by decide +kernel
theorem dLand_readLine_0 : decode prog_3_method_4_code 0 = .ok (.aload_n 1, 1) := by decide +kernel
theorem dLand_readLine_1 : decode prog_3_method_4_code 1 = .ok (.iconst 0, 1) := by decide +kernel
theorem dLand_readLine_2 : decode prog_3_method_4_code 2 = .ok (.invokevirtual 100, 3) := by decide +kernel
theorem dLand_readLine_5 : decode prog_3_method_4_code 5 = .ok (.ifCond .eq 18, 3) := by decide +kernel
theorem dLand_readLine_8 : decode prog_3_method_4_code 8 = .ok (.aload_n 0, 1) := by decide +kernel
theorem dLand_readLine_9 : decode prog_3_method_4_code 9 = .ok (.getfield 9, 3) := by decide +kernel
theorem dLand_readLine_12 : decode prog_3_method_4_code 12 = .ok (.bipush 24, 2) := by decide +kernel
theorem dLand_readLine_14 : decode prog_3_method_4_code 14 = .ok (.if_icmp .ge 9, 3) := by decide +kernel
theorem dLand_readLine_17 : decode prog_3_method_4_code 17 = .ok (.aload_n 0, 1) := by decide +kernel
theorem dLand_readLine_18 : decode prog_3_method_4_code 18 = .ok (.aload_n 1, 1) := by decide +kernel
theorem dLand_readLine_19 : decode prog_3_method_4_code 19 = .ok (.invokevirtual 104, 3) := by decide +kernel
theorem dLand_readLine_22 : decode prog_3_method_4_code 22 = .ok (.ireturn, 1) := by decide +kernel
theorem dLand_readLine_23 : decode prog_3_method_4_code 23 = .ok (.aload_n 1, 1) := by decide +kernel
theorem dLand_readLine_24 : decode prog_3_method_4_code 24 = .ok (.iconst 1, 1) := by decide +kernel
theorem dLand_readLine_25 : decode prog_3_method_4_code 25 = .ok (.invokevirtual 100, 3) := by decide +kernel
theorem dLand_readLine_28 : decode prog_3_method_4_code 28 = .ok (.ifCond .eq 17, 3) := by decide +kernel
theorem dLand_readLine_31 : decode prog_3_method_4_code 31 = .ok (.aload_n 0, 1) := by decide +kernel
theorem dLand_readLine_32 : decode prog_3_method_4_code 32 = .ok (.getfield 15, 3) := by decide +kernel
theorem dLand_readLine_35 : decode prog_3_method_4_code 35 = .ok (.iconst 3, 1) := by decide +kernel
theorem dLand_readLine_36 : decode prog_3_method_4_code 36 = .ok (.if_icmp .ge 9, 3) := by decide +kernel
theorem dLand_readLine_39 : decode prog_3_method_4_code 39 = .ok (.aload_n 0, 1) := by decide +kernel
theorem dLand_readLine_40 : decode prog_3_method_4_code 40 = .ok (.aload_n 1, 1) := by decide +kernel
theorem dLand_readLine_41 : decode prog_3_method_4_code 41 = .ok (.invokevirtual 107, 3) := by decide +kernel
theorem dLand_readLine_44 : decode prog_3_method_4_code 44 = .ok (.ireturn, 1) := by decide +kernel
theorem dLand_readLine_45 : decode prog_3_method_4_code 45 = .ok (.aload_n 1, 1) := by decide +kernel
theorem dLand_readLine_46 : decode prog_3_method_4_code 46 = .ok (.iconst 5, 1) := by decide +kernel
theorem dLand_readLine_47 : decode prog_3_method_4_code 47 = .ok (.invokevirtual 100, 3) := by decide +kernel
theorem dLand_readLine_50 : decode prog_3_method_4_code 50 = .ok (.ifCond .eq 17, 3) := by decide +kernel
theorem dLand_readLine_53 : decode prog_3_method_4_code 53 = .ok (.aload_n 0, 1) := by decide +kernel
theorem dLand_readLine_54 : decode prog_3_method_4_code 54 = .ok (.getfield 18, 3) := by decide +kernel
theorem dLand_readLine_57 : decode prog_3_method_4_code 57 = .ok (.iconst 3, 1) := by decide +kernel
theorem dLand_readLine_58 : decode prog_3_method_4_code 58 = .ok (.if_icmp .ge 9, 3) := by decide +kernel
theorem dLand_readLine_61 : decode prog_3_method_4_code 61 = .ok (.aload_n 0, 1) := by decide +kernel
theorem dLand_readLine_62 : decode prog_3_method_4_code 62 = .ok (.aload_n 1, 1) := by decide +kernel
theorem dLand_readLine_63 : decode prog_3_method_4_code 63 = .ok (.invokevirtual 110, 3) := by decide +kernel
theorem dLand_readLine_66 : decode prog_3_method_4_code 66 = .ok (.ireturn, 1) := by decide +kernel
theorem dLand_readLine_67 : decode prog_3_method_4_code 67 = .ok (.aload_n 1, 1) := by decide +kernel
theorem dLand_readLine_68 : decode prog_3_method_4_code 68 = .ok (.bipush 8, 2) := by decide +kernel
theorem dLand_readLine_70 : decode prog_3_method_4_code 70 = .ok (.invokevirtual 100, 3) := by decide +kernel
theorem dLand_readLine_73 : decode prog_3_method_4_code 73 = .ok (.ifCond .eq 17, 3) := by decide +kernel
theorem dLand_readLine_76 : decode prog_3_method_4_code 76 = .ok (.aload_n 0, 1) := by decide +kernel
theorem dLand_readLine_77 : decode prog_3_method_4_code 77 = .ok (.getfield 21, 3) := by decide +kernel
theorem dLand_readLine_80 : decode prog_3_method_4_code 80 = .ok (.iconst 5, 1) := by decide +kernel
theorem dLand_readLine_81 : decode prog_3_method_4_code 81 = .ok (.if_icmp .ge 9, 3) := by decide +kernel
theorem dLand_readLine_84 : decode prog_3_method_4_code 84 = .ok (.aload_n 0, 1) := by decide +kernel
theorem dLand_readLine_85 : decode prog_3_method_4_code 85 = .ok (.aload_n 1, 1) := by decide +kernel
theorem dLand_readLine_86 : decode prog_3_method_4_code 86 = .ok (.invokevirtual 113, 3) := by decide +kernel
theorem dLand_readLine_89 : decode prog_3_method_4_code 89 = .ok (.ireturn, 1) := by decide +kernel
theorem dLand_readLine_90 : decode prog_3_method_4_code 90 = .ok (.aload_n 1, 1) := by decide +kernel
theorem dLand_readLine_91 : decode prog_3_method_4_code 91 = .ok (.iconst 2, 1) := by decide +kernel
theorem dLand_readLine_92 : decode prog_3_method_4_code 92 = .ok (.invokevirtual 116, 3) := by decide +kernel
theorem dLand_readLine_95 : decode prog_3_method_4_code 95 = .ok (.iconst 0, 1) := by decide +kernel
theorem dLand_readLine_96 : decode prog_3_method_4_code 96 = .ok (.ireturn, 1) := by decide +kernel
theorem dLand_readRoad_0 : decode prog_3_method_5_code 0 = .ok (.aload_n 1, 1) := by decide +kernel
theorem dLand_readRoad_1 : decode prog_3_method_5_code 1 = .ok (.invokevirtual 120, 3) := by decide +kernel
theorem dLand_readRoad_4 : decode prog_3_method_5_code 4 = .ok (.aload_n 1, 1) := by decide +kernel
theorem dLand_readRoad_5 : decode prog_3_method_5_code 5 = .ok (.iconst (-1), 1) := by decide +kernel
theorem dLand_readRoad_6 : decode prog_3_method_5_code 6 = .ok (.invokevirtual 123, 3) := by decide +kernel
theorem dLand_readRoad_9 : decode prog_3_method_5_code 9 = .ok (.istore_n 2, 1) := by decide +kernel
theorem dLand_readRoad_10 : decode prog_3_method_5_code 10 = .ok (.aload_n 1, 1) := by decide +kernel
theorem dLand_readRoad_11 : decode prog_3_method_5_code 11 = .ok (.iload_n 2, 1) := by decide +kernel
theorem dLand_readRoad_12 : decode prog_3_method_5_code 12 = .ok (.invokevirtual 123, 3) := by decide +kernel
theorem dLand_readRoad_15 : decode prog_3_method_5_code 15 = .ok (.istore_n 3, 1) := by decide +kernel
theorem dLand_readRoad_16 : decode prog_3_method_5_code 16 = .ok (.aload_n 1, 1) := by decide +kernel
theorem dLand_readRoad_17 : decode prog_3_method_5_code 17 = .ok (.iconst 1, 1) := by decide +kernel
theorem dLand_readRoad_18 : decode prog_3_method_5_code 18 = .ok (.bipush 90, 2) := by decide +kernel
theorem dLand_readRoad_20 : decode prog_3_method_5_code 20 = .ok (.invokevirtual 127, 3) := by decide +kernel
theorem dLand_readRoad_23 : decode prog_3_method_5_code 23 = .ok (.istore 4, 2) := by decide +kernel
theorem dLand_readRoad_25 : decode prog_3_method_5_code 25 = .ok (.aload_n 1, 1) := by decide +kernel
theorem dLand_readRoad_26 : decode prog_3_method_5_code 26 = .ok (.invokevirtual 131, 3) := by decide +kernel
theorem dLand_readRoad_29 : decode prog_3_method_5_code 29 = .ok (.ifCond .ne 5, 3) := by decide +kernel
theorem dLand_readRoad_32 : decode prog_3_method_5_code 32 = .ok (.iconst 0, 1) := by decide +kernel
theorem dLand_readRoad_33 : decode prog_3_method_5_code 33 = .ok (.ireturn, 1) := by decide +kernel
theorem dLand_readRoad_34 : decode prog_3_method_5_code 34 = .ok (.aload_n 0, 1) := by decide +kernel
theorem dLand_readRoad_35 : decode prog_3_method_5_code 35 = .ok (.iload_n 2, 1) := by decide +kernel
theorem dLand_readRoad_36 : decode prog_3_method_5_code 36 = .ok (.iload_n 3, 1) := by decide +kernel
theorem dLand_readRoad_37 : decode prog_3_method_5_code 37 = .ok (.iload 4, 2) := by decide +kernel
theorem dLand_readRoad_39 : decode prog_3_method_5_code 39 = .ok (.invokevirtual 134, 3) := by decide +kernel
theorem dLand_readRoad_42 : decode prog_3_method_5_code 42 = .ok (.aload_n 0, 1) := by decide +kernel
theorem dLand_readRoad_43 : decode prog_3_method_5_code 43 = .ok (.iload_n 3, 1) := by decide +kernel
theorem dLand_readRoad_44 : decode prog_3_method_5_code 44 = .ok (.iload_n 2, 1) := by decide +kernel
theorem dLand_readRoad_45 : decode prog_3_method_5_code 45 = .ok (.iload 4, 2) := by decide +kernel
theorem dLand_readRoad_47 : decode prog_3_method_5_code 47 = .ok (.invokevirtual 134, 3) := by decide +kernel
theorem dLand_readRoad_50 : decode prog_3_method_5_code 50 = .ok (.aload_n 0, 1) := by decide +kernel
theorem dLand_readRoad_51 : decode prog_3_method_5_code 51 = .ok (.dup, 1) := by decide +kernel
theorem dLand_readRoad_52 : decode prog_3_method_5_code 52 = .ok (.getfield 9, 3) := by decide +kernel
theorem dLand_readRoad_55 : decode prog_3_method_5_code 55 = .ok (.iconst 1, 1) := by decide +kernel
theorem dLand_readRoad_56 : decode prog_3_method_5_code 56 = .ok (.iadd, 1) := by decide +kernel
theorem dLand_readRoad_57 : decode prog_3_method_5_code 57 = .ok (.putfield 9, 3) := by decide +kernel
theorem dLand_readRoad_60 : decode prog_3_method_5_code 60 = .ok (.iconst 1, 1) := by decide +kernel
theorem dLand_readRoad_61 : decode prog_3_method_5_code 61 = .ok (.ireturn, 1) := by decide +kernel
theorem dLand_readFort_0 : decode prog_3_method_6_code 0 = .ok (.aload_n 1, 1) := by decide +kernel
theorem dLand_readFort_1 : decode prog_3_method_6_code 1 = .ok (.invokevirtual 120, 3) := by decide +kernel
theorem dLand_readFort_4 : decode prog_3_method_6_code 4 = .ok (.aload_n 0, 1) := by decide +kernel
theorem dLand_readFort_5 : decode prog_3_method_6_code 5 = .ok (.aload_n 1, 1) := by decide +kernel
theorem dLand_readFort_6 : decode prog_3_method_6_code 6 = .ok (.invokevirtual 138, 3) := by decide +kernel
theorem dLand_readFort_9 : decode prog_3_method_6_code 9 = .ok (.aload_n 0, 1) := by decide +kernel
theorem dLand_readFort_10 : decode prog_3_method_6_code 10 = .ok (.getfield 35, 3) := by decide +kernel
theorem dLand_readFort_13 : decode prog_3_method_6_code 13 = .ok (.aload_n 0, 1) := by decide +kernel
theorem dLand_readFort_14 : decode prog_3_method_6_code 14 = .ok (.getfield 15, 3) := by decide +kernel
theorem dLand_readFort_17 : decode prog_3_method_6_code 17 = .ok (.aload_n 0, 1) := by decide +kernel
theorem dLand_readFort_18 : decode prog_3_method_6_code 18 = .ok (.aload_n 1, 1) := by decide +kernel
theorem dLand_readFort_19 : decode prog_3_method_6_code 19 = .ok (.invokevirtual 142, 3) := by decide +kernel
theorem dLand_readFort_22 : decode prog_3_method_6_code 22 = .ok (.iastore, 1) := by decide +kernel
theorem dLand_readFort_23 : decode prog_3_method_6_code 23 = .ok (.aload_n 0, 1) := by decide +kernel
theorem dLand_readFort_24 : decode prog_3_method_6_code 24 = .ok (.getfield 38, 3) := by decide +kernel
theorem dLand_readFort_27 : decode prog_3_method_6_code 27 = .ok (.aload_n 0, 1) := by decide +kernel
theorem dLand_readFort_28 : decode prog_3_method_6_code 28 = .ok (.getfield 15, 3) := by decide +kernel
theorem dLand_readFort_31 : decode prog_3_method_6_code 31 = .ok (.aload_n 1, 1) := by decide +kernel
theorem dLand_readFort_32 : decode prog_3_method_6_code 32 = .ok (.iconst 3, 1) := by decide +kernel
theorem dLand_readFort_33 : decode prog_3_method_6_code 33 = .ok (.iconst 0, 1) := by decide +kernel
theorem dLand_readFort_34 : decode prog_3_method_6_code 34 = .ok (.sipush 999, 3) := by decide +kernel
theorem dLand_readFort_37 : decode prog_3_method_6_code 37 = .ok (.invokevirtual 146, 3) := by decide +kernel
theorem dLand_readFort_40 : decode prog_3_method_6_code 40 = .ok (.iastore, 1) := by decide +kernel
theorem dLand_readFort_41 : decode prog_3_method_6_code 41 = .ok (.aload_n 0, 1) := by decide +kernel
theorem dLand_readFort_42 : decode prog_3_method_6_code 42 = .ok (.getfield 41, 3) := by decide +kernel
theorem dLand_readFort_45 : decode prog_3_method_6_code 45 = .ok (.aload_n 0, 1) := by decide +kernel
theorem dLand_readFort_46 : decode prog_3_method_6_code 46 = .ok (.getfield 15, 3) := by decide +kernel
theorem dLand_readFort_49 : decode prog_3_method_6_code 49 = .ok (.aload_n 1, 1) := by decide +kernel
theorem dLand_readFort_50 : decode prog_3_method_6_code 50 = .ok (.iconst 4, 1) := by decide +kernel
theorem dLand_readFort_51 : decode prog_3_method_6_code 51 = .ok (.iconst 0, 1) := by decide +kernel
theorem dLand_readFort_52 : decode prog_3_method_6_code 52 = .ok (.sipush 9999, 3) := by decide +kernel
theorem dLand_readFort_55 : decode prog_3_method_6_code 55 = .ok (.invokevirtual 146, 3) := by decide +kernel
theorem dLand_readFort_58 : decode prog_3_method_6_code 58 = .ok (.iastore, 1) := by decide +kernel
theorem dLand_readFort_59 : decode prog_3_method_6_code 59 = .ok (.aload_n 1, 1) := by decide +kernel
theorem dLand_readFort_60 : decode prog_3_method_6_code 60 = .ok (.invokevirtual 131, 3) := by decide +kernel
theorem dLand_readFort_63 : decode prog_3_method_6_code 63 = .ok (.ifCond .ne 5, 3) := by decide +kernel
theorem dLand_readFort_66 : decode prog_3_method_6_code 66 = .ok (.iconst 0, 1) := by decide +kernel
theorem dLand_readFort_67 : decode prog_3_method_6_code 67 = .ok (.ireturn, 1) := by decide +kernel
theorem dLand_readFort_68 : decode prog_3_method_6_code 68 = .ok (.aload_n 0, 1) := by decide +kernel
theorem dLand_readFort_69 : decode prog_3_method_6_code 69 = .ok (.dup, 1) := by decide +kernel
theorem dLand_readFort_70 : decode prog_3_method_6_code 70 = .ok (.getfield 15, 3) := by decide +kernel
theorem dLand_readFort_73 : decode prog_3_method_6_code 73 = .ok (.iconst 1, 1) := by decide +kernel
theorem dLand_readFort_74 : decode prog_3_method_6_code 74 = .ok (.iadd, 1) := by decide +kernel
theorem dLand_readFort_75 : decode prog_3_method_6_code 75 = .ok (.putfield 15, 3) := by decide +kernel
theorem dLand_readFort_78 : decode prog_3_method_6_code 78 = .ok (.iconst 1, 1) := by decide +kernel
theorem dLand_readFort_79 : decode prog_3_method_6_code 79 = .ok (.ireturn, 1) := by decide +kernel
theorem dLand_readPan_0 : decode prog_3_method_7_code 0 = .ok (.aload_n 1, 1) := by decide +kernel
theorem dLand_readPan_1 : decode prog_3_method_7_code 1 = .ok (.invokevirtual 120, 3) := by decide +kernel
theorem dLand_readPan_4 : decode prog_3_method_7_code 4 = .ok (.aload_n 0, 1) := by decide +kernel
theorem dLand_readPan_5 : decode prog_3_method_7_code 5 = .ok (.aload_n 1, 1) := by decide +kernel
theorem dLand_readPan_6 : decode prog_3_method_7_code 6 = .ok (.invokevirtual 138, 3) := by decide +kernel
theorem dLand_readPan_9 : decode prog_3_method_7_code 9 = .ok (.aload_n 0, 1) := by decide +kernel
theorem dLand_readPan_10 : decode prog_3_method_7_code 10 = .ok (.getfield 44, 3) := by decide +kernel
theorem dLand_readPan_13 : decode prog_3_method_7_code 13 = .ok (.aload_n 0, 1) := by decide +kernel
theorem dLand_readPan_14 : decode prog_3_method_7_code 14 = .ok (.getfield 18, 3) := by decide +kernel
theorem dLand_readPan_17 : decode prog_3_method_7_code 17 = .ok (.aload_n 0, 1) := by decide +kernel
theorem dLand_readPan_18 : decode prog_3_method_7_code 18 = .ok (.aload_n 1, 1) := by decide +kernel
theorem dLand_readPan_19 : decode prog_3_method_7_code 19 = .ok (.invokevirtual 142, 3) := by decide +kernel
theorem dLand_readPan_22 : decode prog_3_method_7_code 22 = .ok (.iastore, 1) := by decide +kernel
theorem dLand_readPan_23 : decode prog_3_method_7_code 23 = .ok (.aload_n 1, 1) := by decide +kernel
theorem dLand_readPan_24 : decode prog_3_method_7_code 24 = .ok (.aload_n 1, 1) := by decide +kernel
theorem dLand_readPan_25 : decode prog_3_method_7_code 25 = .ok (.bipush 6, 2) := by decide +kernel
theorem dLand_readPan_27 : decode prog_3_method_7_code 27 = .ok (.invokevirtual 100, 3) := by decide +kernel
theorem dLand_readPan_30 : decode prog_3_method_7_code 30 = .ok (.invokevirtual 150, 3) := by decide +kernel
theorem dLand_readPan_33 : decode prog_3_method_7_code 33 = .ok (.iconst 0, 1) := by decide +kernel
theorem dLand_readPan_34 : decode prog_3_method_7_code 34 = .ok (.istore_n 2, 1) := by decide +kernel
theorem dLand_readPan_35 : decode prog_3_method_7_code 35 = .ok (.iconst 0, 1) := by decide +kernel
theorem dLand_readPan_36 : decode prog_3_method_7_code 36 = .ok (.istore_n 3, 1) := by decide +kernel
theorem dLand_readPan_37 : decode prog_3_method_7_code 37 = .ok (.iload_n 3, 1) := by decide +kernel
theorem dLand_readPan_38 : decode prog_3_method_7_code 38 = .ok (.bipush 12, 2) := by decide +kernel
theorem dLand_readPan_40 : decode prog_3_method_7_code 40 = .ok (.if_icmp .ge 48, 3) := by decide +kernel
theorem dLand_readPan_43 : decode prog_3_method_7_code 43 = .ok (.aload_n 0, 1) := by decide +kernel
theorem dLand_readPan_44 : decode prog_3_method_7_code 44 = .ok (.getfield 47, 3) := by decide +kernel
theorem dLand_readPan_47 : decode prog_3_method_7_code 47 = .ok (.aload_n 0, 1) := by decide +kernel
theorem dLand_readPan_48 : decode prog_3_method_7_code 48 = .ok (.getfield 18, 3) := by decide +kernel
theorem dLand_readPan_51 : decode prog_3_method_7_code 51 = .ok (.bipush 12, 2) := by decide +kernel
theorem dLand_readPan_53 : decode prog_3_method_7_code 53 = .ok (.imul, 1) := by decide +kernel
theorem dLand_readPan_54 : decode prog_3_method_7_code 54 = .ok (.iload_n 3, 1) := by decide +kernel
theorem dLand_readPan_55 : decode prog_3_method_7_code 55 = .ok (.iadd, 1) := by decide +kernel
theorem dLand_readPan_56 : decode prog_3_method_7_code 56 = .ok (.aload_n 1, 1) := by decide +kernel
theorem dLand_readPan_57 : decode prog_3_method_7_code 57 = .ok (.iconst 0, 1) := by decide +kernel
theorem dLand_readPan_58 : decode prog_3_method_7_code 58 = .ok (.sipush 999, 3) := by decide +kernel
theorem dLand_readPan_61 : decode prog_3_method_7_code 61 = .ok (.invokevirtual 127, 3) := by decide +kernel
theorem dLand_readPan_64 : decode prog_3_method_7_code 64 = .ok (.iastore, 1) := by decide +kernel
theorem dLand_readPan_65 : decode prog_3_method_7_code 65 = .ok (.iload_n 2, 1) := by decide +kernel
theorem dLand_readPan_66 : decode prog_3_method_7_code 66 = .ok (.aload_n 0, 1) := by decide +kernel
theorem dLand_readPan_67 : decode prog_3_method_7_code 67 = .ok (.getfield 47, 3) := by decide +kernel
theorem dLand_readPan_70 : decode prog_3_method_7_code 70 = .ok (.aload_n 0, 1) := by decide +kernel
theorem dLand_readPan_71 : decode prog_3_method_7_code 71 = .ok (.getfield 18, 3) := by decide +kernel
theorem dLand_readPan_74 : decode prog_3_method_7_code 74 = .ok (.bipush 12, 2) := by decide +kernel
theorem dLand_readPan_76 : decode prog_3_method_7_code 76 = .ok (.imul, 1) := by decide +kernel
theorem dLand_readPan_77 : decode prog_3_method_7_code 77 = .ok (.iload_n 3, 1) := by decide +kernel
theorem dLand_readPan_78 : decode prog_3_method_7_code 78 = .ok (.iadd, 1) := by decide +kernel
theorem dLand_readPan_79 : decode prog_3_method_7_code 79 = .ok (.iaload, 1) := by decide +kernel
theorem dLand_readPan_80 : decode prog_3_method_7_code 80 = .ok (.iadd, 1) := by decide +kernel
theorem dLand_readPan_81 : decode prog_3_method_7_code 81 = .ok (.istore_n 2, 1) := by decide +kernel
theorem dLand_readPan_82 : decode prog_3_method_7_code 82 = .ok (.iinc 3 1, 3) := by decide +kernel
theorem dLand_readPan_85 : decode prog_3_method_7_code 85 = .ok (.goto (-48), 3) := by decide +kernel
theorem dLand_readPan_88 : decode prog_3_method_7_code 88 = .ok (.aload_n 0, 1) := by decide +kernel
theorem dLand_readPan_89 : decode prog_3_method_7_code 89 = .ok (.getfield 53, 3) := by decide +kernel
theorem dLand_readPan_92 : decode prog_3_method_7_code 92 = .ok (.aload_n 0, 1) := by decide +kernel
theorem dLand_readPan_93 : decode prog_3_method_7_code 93 = .ok (.getfield 18, 3) := by decide +kernel
theorem dLand_readPan_96 : decode prog_3_method_7_code 96 = .ok (.iconst 1, 1) := by decide +kernel
theorem dLand_readPan_97 : decode prog_3_method_7_code 97 = .ok (.iload_n 2, 1) := by decide +kernel
theorem dLand_readPan_98 : decode prog_3_method_7_code 98 = .ok (.bipush 12, 2) := by decide +kernel
theorem dLand_readPan_100 : decode prog_3_method_7_code 100 = .ok (.idiv, 1) := by decide +kernel
theorem dLand_readPan_101 : decode prog_3_method_7_code 101 = .ok (.invokestatic 153, 3) := by decide +kernel
theorem dLand_readPan_104 : decode prog_3_method_7_code 104 = .ok (.iastore, 1) := by decide +kernel
theorem dLand_readPan_105 : decode prog_3_method_7_code 105 = .ok (.aload_n 1, 1) := by decide +kernel
theorem dLand_readPan_106 : decode prog_3_method_7_code 106 = .ok (.aload_n 1, 1) := by decide +kernel
theorem dLand_readPan_107 : decode prog_3_method_7_code 107 = .ok (.bipush 7, 2) := by decide +kernel
theorem dLand_readPan_109 : decode prog_3_method_7_code 109 = .ok (.invokevirtual 100, 3) := by decide +kernel
theorem dLand_readPan_112 : decode prog_3_method_7_code 112 = .ok (.invokevirtual 150, 3) := by decide +kernel
theorem dLand_readPan_115 : decode prog_3_method_7_code 115 = .ok (.aload_n 0, 1) := by decide +kernel
theorem dLand_readPan_116 : decode prog_3_method_7_code 116 = .ok (.aload_n 1, 1) := by decide +kernel
theorem dLand_readPan_117 : decode prog_3_method_7_code 117 = .ok (.invokevirtual 158, 3) := by decide +kernel
theorem dLand_readPan_120 : decode prog_3_method_7_code 120 = .ok (.iconst 0, 1) := by decide +kernel
theorem dLand_readPan_121 : decode prog_3_method_7_code 121 = .ok (.istore_n 3, 1) := by decide +kernel
theorem dLand_readPan_122 : decode prog_3_method_7_code 122 = .ok (.iload_n 3, 1) := by decide +kernel
theorem dLand_readPan_123 : decode prog_3_method_7_code 123 = .ok (.iconst 5, 1) := by decide +kernel
theorem dLand_readPan_124 : decode prog_3_method_7_code 124 = .ok (.if_icmp .ge 21, 3) := by decide +kernel
theorem dLand_readPan_127 : decode prog_3_method_7_code 127 = .ok (.aload_n 1, 1) := by decide +kernel
theorem dLand_readPan_128 : decode prog_3_method_7_code 128 = .ok (.invokevirtual 161, 3) := by decide +kernel
theorem dLand_readPan_131 : decode prog_3_method_7_code 131 = .ok (.ifCond .eq 14, 3) := by decide +kernel
theorem dLand_readPan_134 : decode prog_3_method_7_code 134 = .ok (.aload_n 0, 1) := by decide +kernel
theorem dLand_readPan_135 : decode prog_3_method_7_code 135 = .ok (.aload_n 1, 1) := by decide +kernel
theorem dLand_readPan_136 : decode prog_3_method_7_code 136 = .ok (.invokevirtual 158, 3) := by decide +kernel
theorem dLand_readPan_139 : decode prog_3_method_7_code 139 = .ok (.iinc 3 1, 3) := by decide +kernel
theorem dLand_readPan_142 : decode prog_3_method_7_code 142 = .ok (.goto (-20), 3) := by decide +kernel
theorem dLand_readPan_145 : decode prog_3_method_7_code 145 = .ok (.aload_n 1, 1) := by decide +kernel
theorem dLand_readPan_146 : decode prog_3_method_7_code 146 = .ok (.invokevirtual 131, 3) := by decide +kernel
theorem dLand_readPan_149 : decode prog_3_method_7_code 149 = .ok (.ifCond .ne 5, 3) := by decide +kernel
theorem dLand_readPan_152 : decode prog_3_method_7_code 152 = .ok (.iconst 0, 1) := by decide +kernel
theorem dLand_readPan_153 : decode prog_3_method_7_code 153 = .ok (.ireturn, 1) := by decide +kernel
theorem dLand_readPan_154 : decode prog_3_method_7_code 154 = .ok (.aload_n 0, 1) := by decide +kernel
theorem dLand_readPan_155 : decode prog_3_method_7_code 155 = .ok (.dup, 1) := by decide +kernel
theorem dLand_readPan_156 : decode prog_3_method_7_code 156 = .ok (.getfield 18, 3) := by decide +kernel
theorem dLand_readPan_159 : decode prog_3_method_7_code 159 = .ok (.iconst 1, 1) := by decide +kernel
theorem dLand_readPan_160 : decode prog_3_method_7_code 160 = .ok (.iadd, 1) := by decide +kernel
theorem dLand_readPan_161 : decode prog_3_method_7_code 161 = .ok (.putfield 18, 3) := by decide +kernel
theorem dLand_readPan_164 : decode prog_3_method_7_code 164 = .ok (.iconst 1, 1) := by decide +kernel
theorem dLand_readPan_165 : decode prog_3_method_7_code 165 = .ok (.ireturn, 1) := by decide +kernel
theorem dLand_readDistrict_0 : decode prog_3_method_8_code 0 = .ok (.aload_n 1, 1) := by decide +kernel
theorem dLand_readDistrict_1 : decode prog_3_method_8_code 1 = .ok (.invokevirtual 161, 3) := by decide +kernel
theorem dLand_readDistrict_4 : decode prog_3_method_8_code 4 = .ok (.ifCond .eq 23, 3) := by decide +kernel
theorem dLand_readDistrict_7 : decode prog_3_method_8_code 7 = .ok (.aload_n 0, 1) := by decide +kernel
theorem dLand_readDistrict_8 : decode prog_3_method_8_code 8 = .ok (.aload_n 0, 1) := by decide +kernel
theorem dLand_readDistrict_9 : decode prog_3_method_8_code 9 = .ok (.getfield 18, 3) := by decide +kernel
theorem dLand_readDistrict_12 : decode prog_3_method_8_code 12 = .ok (.aload_n 1, 1) := by decide +kernel
theorem dLand_readDistrict_13 : decode prog_3_method_8_code 13 = .ok (.invokevirtual 164, 3) := by decide +kernel
theorem dLand_readDistrict_16 : decode prog_3_method_8_code 16 = .ok (.invokevirtual 168, 3) := by decide +kernel
theorem dLand_readDistrict_19 : decode prog_3_method_8_code 19 = .ok (.ifCond .eq 8, 3) := by decide +kernel
theorem dLand_readDistrict_22 : decode prog_3_method_8_code 22 = .ok (.aload_n 1, 1) := by decide +kernel
theorem dLand_readDistrict_23 : decode prog_3_method_8_code 23 = .ok (.iconst 4, 1) := by decide +kernel
theorem dLand_readDistrict_24 : decode prog_3_method_8_code 24 = .ok (.invokevirtual 116, 3) := by decide +kernel
theorem dLand_readDistrict_27 : decode prog_3_method_8_code 27 = .ok (.aload_n 1, 1) := by decide +kernel
theorem dLand_readDistrict_28 : decode prog_3_method_8_code 28 = .ok (.iconst 0, 1) := by decide +kernel
theorem dLand_readDistrict_29 : decode prog_3_method_8_code 29 = .ok (.iconst 4, 1) := by decide +kernel
theorem dLand_readDistrict_30 : decode prog_3_method_8_code 30 = .ok (.invokevirtual 127, 3) := by decide +kernel
theorem dLand_readDistrict_33 : decode prog_3_method_8_code 33 = .ok (.istore_n 2, 1) := by decide +kernel
theorem dLand_readDistrict_34 : decode prog_3_method_8_code 34 = .ok (.iload_n 2, 1) := by decide +kernel
theorem dLand_readDistrict_35 : decode prog_3_method_8_code 35 = .ok (.iconst (-1), 1) := by decide +kernel
theorem dLand_readDistrict_36 : decode prog_3_method_8_code 36 = .ok (.if_icmp .eq 17, 3) := by decide +kernel
theorem dLand_readDistrict_39 : decode prog_3_method_8_code 39 = .ok (.aload_n 0, 1) := by decide +kernel
theorem dLand_readDistrict_40 : decode prog_3_method_8_code 40 = .ok (.getfield 50, 3) := by decide +kernel
theorem dLand_readDistrict_43 : decode prog_3_method_8_code 43 = .ok (.aload_n 0, 1) := by decide +kernel
theorem dLand_readDistrict_44 : decode prog_3_method_8_code 44 = .ok (.getfield 18, 3) := by decide +kernel
theorem dLand_readDistrict_47 : decode prog_3_method_8_code 47 = .ok (.iconst 5, 1) := by decide +kernel
theorem dLand_readDistrict_48 : decode prog_3_method_8_code 48 = .ok (.imul, 1) := by decide +kernel
theorem dLand_readDistrict_49 : decode prog_3_method_8_code 49 = .ok (.iload_n 2, 1) := by decide +kernel
theorem dLand_readDistrict_50 : decode prog_3_method_8_code 50 = .ok (.iadd, 1) := by decide +kernel
theorem dLand_readDistrict_51 : decode prog_3_method_8_code 51 = .ok (.iconst 1, 1) := by decide +kernel
theorem dLand_readDistrict_52 : decode prog_3_method_8_code 52 = .ok (.iastore, 1) := by decide +kernel
theorem dLand_readDistrict_53 : decode prog_3_method_8_code 53 = .ok (.return_, 1) := by decide +kernel
theorem dLand_readTown_0 : decode prog_3_method_9_code 0 = .ok (.aload_n 1, 1) := by decide +kernel
theorem dLand_readTown_1 : decode prog_3_method_9_code 1 = .ok (.invokevirtual 120, 3) := by decide +kernel
theorem dLand_readTown_4 : decode prog_3_method_9_code 4 = .ok (.aload_n 0, 1) := by decide +kernel
theorem dLand_readTown_5 : decode prog_3_method_9_code 5 = .ok (.aload_n 1, 1) := by decide +kernel
theorem dLand_readTown_6 : decode prog_3_method_9_code 6 = .ok (.invokevirtual 138, 3) := by decide +kernel
theorem dLand_readTown_9 : decode prog_3_method_9_code 9 = .ok (.aload_n 0, 1) := by decide +kernel
theorem dLand_readTown_10 : decode prog_3_method_9_code 10 = .ok (.getfield 56, 3) := by decide +kernel
theorem dLand_readTown_13 : decode prog_3_method_9_code 13 = .ok (.aload_n 0, 1) := by decide +kernel
theorem dLand_readTown_14 : decode prog_3_method_9_code 14 = .ok (.getfield 21, 3) := by decide +kernel
theorem dLand_readTown_17 : decode prog_3_method_9_code 17 = .ok (.aload_n 0, 1) := by decide +kernel
theorem dLand_readTown_18 : decode prog_3_method_9_code 18 = .ok (.aload_n 1, 1) := by decide +kernel
theorem dLand_readTown_19 : decode prog_3_method_9_code 19 = .ok (.invokevirtual 142, 3) := by decide +kernel
theorem dLand_readTown_22 : decode prog_3_method_9_code 22 = .ok (.iastore, 1) := by decide +kernel
theorem dLand_readTown_23 : decode prog_3_method_9_code 23 = .ok (.aload_n 0, 1) := by decide +kernel
theorem dLand_readTown_24 : decode prog_3_method_9_code 24 = .ok (.getfield 59, 3) := by decide +kernel
theorem dLand_readTown_27 : decode prog_3_method_9_code 27 = .ok (.aload_n 0, 1) := by decide +kernel
theorem dLand_readTown_28 : decode prog_3_method_9_code 28 = .ok (.getfield 21, 3) := by decide +kernel
theorem dLand_readTown_31 : decode prog_3_method_9_code 31 = .ok (.aload_n 1, 1) := by decide +kernel
theorem dLand_readTown_32 : decode prog_3_method_9_code 32 = .ok (.bipush 9, 2) := by decide +kernel
theorem dLand_readTown_34 : decode prog_3_method_9_code 34 = .ok (.iconst 0, 1) := by decide +kernel
theorem dLand_readTown_35 : decode prog_3_method_9_code 35 = .ok (.iconst 4, 1) := by decide +kernel
theorem dLand_readTown_36 : decode prog_3_method_9_code 36 = .ok (.invokevirtual 146, 3) := by decide +kernel
theorem dLand_readTown_39 : decode prog_3_method_9_code 39 = .ok (.iastore, 1) := by decide +kernel
theorem dLand_readTown_40 : decode prog_3_method_9_code 40 = .ok (.aload_n 0, 1) := by decide +kernel
theorem dLand_readTown_41 : decode prog_3_method_9_code 41 = .ok (.getfield 62, 3) := by decide +kernel
theorem dLand_readTown_44 : decode prog_3_method_9_code 44 = .ok (.aload_n 0, 1) := by decide +kernel
theorem dLand_readTown_45 : decode prog_3_method_9_code 45 = .ok (.getfield 21, 3) := by decide +kernel
theorem dLand_readTown_48 : decode prog_3_method_9_code 48 = .ok (.aload_n 1, 1) := by decide +kernel
theorem dLand_readTown_49 : decode prog_3_method_9_code 49 = .ok (.bipush 10, 2) := by decide +kernel
theorem dLand_readTown_51 : decode prog_3_method_9_code 51 = .ok (.iconst 0, 1) := by decide +kernel
theorem dLand_readTown_52 : decode prog_3_method_9_code 52 = .ok (.sipush 999, 3) := by decide +kernel
theorem dLand_readTown_55 : decode prog_3_method_9_code 55 = .ok (.invokevirtual 146, 3) := by decide +kernel
theorem dLand_readTown_58 : decode prog_3_method_9_code 58 = .ok (.iastore, 1) := by decide +kernel
theorem dLand_readTown_59 : decode prog_3_method_9_code 59 = .ok (.aload_n 0, 1) := by decide +kernel
theorem dLand_readTown_60 : decode prog_3_method_9_code 60 = .ok (.getfield 65, 3) := by decide +kernel
theorem dLand_readTown_63 : decode prog_3_method_9_code 63 = .ok (.aload_n 0, 1) := by decide +kernel
theorem dLand_readTown_64 : decode prog_3_method_9_code 64 = .ok (.getfield 21, 3) := by decide +kernel
theorem dLand_readTown_67 : decode prog_3_method_9_code 67 = .ok (.aload_n 1, 1) := by decide +kernel
theorem dLand_readTown_68 : decode prog_3_method_9_code 68 = .ok (.bipush 11, 2) := by decide +kernel
theorem dLand_readTown_70 : decode prog_3_method_9_code 70 = .ok (.iconst 1, 1) := by decide +kernel
theorem dLand_readTown_71 : decode prog_3_method_9_code 71 = .ok (.sipush 999, 3) := by decide +kernel
theorem dLand_readTown_74 : decode prog_3_method_9_code 74 = .ok (.invokevirtual 146, 3) := by decide +kernel
theorem dLand_readTown_77 : decode prog_3_method_9_code 77 = .ok (.iastore, 1) := by decide +kernel
theorem dLand_readTown_78 : decode prog_3_method_9_code 78 = .ok (.aload_n 0, 1) := by decide +kernel
theorem dLand_readTown_79 : decode prog_3_method_9_code 79 = .ok (.getfield 68, 3) := by decide +kernel
theorem dLand_readTown_82 : decode prog_3_method_9_code 82 = .ok (.aload_n 0, 1) := by decide +kernel
theorem dLand_readTown_83 : decode prog_3_method_9_code 83 = .ok (.getfield 21, 3) := by decide +kernel
theorem dLand_readTown_86 : decode prog_3_method_9_code 86 = .ok (.aload_n 1, 1) := by decide +kernel
theorem dLand_readTown_87 : decode prog_3_method_9_code 87 = .ok (.bipush 12, 2) := by decide +kernel
theorem dLand_readTown_89 : decode prog_3_method_9_code 89 = .ok (.iconst 0, 1) := by decide +kernel
theorem dLand_readTown_90 : decode prog_3_method_9_code 90 = .ok (.sipush 999, 3) := by decide +kernel
theorem dLand_readTown_93 : decode prog_3_method_9_code 93 = .ok (.invokevirtual 146, 3) := by decide +kernel
theorem dLand_readTown_96 : decode prog_3_method_9_code 96 = .ok (.iastore, 1) := by decide +kernel
theorem dLand_readTown_97 : decode prog_3_method_9_code 97 = .ok (.aload_n 0, 1) := by decide +kernel
theorem dLand_readTown_98 : decode prog_3_method_9_code 98 = .ok (.getfield 71, 3) := by decide +kernel
theorem dLand_readTown_101 : decode prog_3_method_9_code 101 = .ok (.aload_n 0, 1) := by decide +kernel
theorem dLand_readTown_102 : decode prog_3_method_9_code 102 = .ok (.getfield 21, 3) := by decide +kernel
theorem dLand_readTown_105 : decode prog_3_method_9_code 105 = .ok (.aload_n 1, 1) := by decide +kernel
theorem dLand_readTown_106 : decode prog_3_method_9_code 106 = .ok (.bipush 13, 2) := by decide +kernel
theorem dLand_readTown_108 : decode prog_3_method_9_code 108 = .ok (.iconst 1, 1) := by decide +kernel
theorem dLand_readTown_109 : decode prog_3_method_9_code 109 = .ok (.bipush 99, 2) := by decide +kernel
theorem dLand_readTown_111 : decode prog_3_method_9_code 111 = .ok (.invokevirtual 146, 3) := by decide +kernel
theorem dLand_readTown_114 : decode prog_3_method_9_code 114 = .ok (.iastore, 1) := by decide +kernel
theorem dLand_readTown_115 : decode prog_3_method_9_code 115 = .ok (.aload_n 1, 1) := by decide +kernel
theorem dLand_readTown_116 : decode prog_3_method_9_code 116 = .ok (.invokevirtual 131, 3) := by decide +kernel
theorem dLand_readTown_119 : decode prog_3_method_9_code 119 = .ok (.ifCond .ne 5, 3) := by decide +kernel
theorem dLand_readTown_122 : decode prog_3_method_9_code 122 = .ok (.iconst 0, 1) := by decide +kernel
theorem dLand_readTown_123 : decode prog_3_method_9_code 123 = .ok (.ireturn, 1) := by decide +kernel
theorem dLand_readTown_124 : decode prog_3_method_9_code 124 = .ok (.aload_n 0, 1) := by decide +kernel
theorem dLand_readTown_125 : decode prog_3_method_9_code 125 = .ok (.dup, 1) := by decide +kernel
theorem dLand_readTown_126 : decode prog_3_method_9_code 126 = .ok (.getfield 21, 3) := by decide +kernel
theorem dLand_readTown_129 : decode prog_3_method_9_code 129 = .ok (.iconst 1, 1) := by decide +kernel
theorem dLand_readTown_130 : decode prog_3_method_9_code 130 = .ok (.iadd, 1) := by decide +kernel
theorem dLand_readTown_131 : decode prog_3_method_9_code 131 = .ok (.putfield 21, 3) := by decide +kernel
theorem dLand_readTown_134 : decode prog_3_method_9_code 134 = .ok (.iconst 1, 1) := by decide +kernel
theorem dLand_readTown_135 : decode prog_3_method_9_code 135 = .ok (.ireturn, 1) := by decide +kernel
theorem dLand_readName_0 : decode prog_3_method_10_code 0 = .ok (.aload_n 1, 1) := by decide +kernel
theorem dLand_readName_1 : decode prog_3_method_10_code 1 = .ok (.invokevirtual 172, 3) := by decide +kernel
theorem dLand_readName_4 : decode prog_3_method_10_code 4 = .ok (.iconst 1, 1) := by decide +kernel
theorem dLand_readName_5 : decode prog_3_method_10_code 5 = .ok (.if_icmp .ne 20, 3) := by decide +kernel
theorem dLand_readName_8 : decode prog_3_method_10_code 8 = .ok (.aload_n 1, 1) := by decide +kernel
theorem dLand_readName_9 : decode prog_3_method_10_code 9 = .ok (.invokevirtual 164, 3) := by decide +kernel
theorem dLand_readName_12 : decode prog_3_method_10_code 12 = .ok (.iconst (-1), 1) := by decide +kernel
theorem dLand_readName_13 : decode prog_3_method_10_code 13 = .ok (.if_icmp .ne 12, 3) := by decide +kernel
theorem dLand_readName_16 : decode prog_3_method_10_code 16 = .ok (.aload_n 0, 1) := by decide +kernel
theorem dLand_readName_17 : decode prog_3_method_10_code 17 = .ok (.getfield 24, 3) := by decide +kernel
theorem dLand_readName_20 : decode prog_3_method_10_code 20 = .ok (.bipush 11, 2) := by decide +kernel
theorem dLand_readName_22 : decode prog_3_method_10_code 22 = .ok (.if_icmp .lt 9, 3) := by decide +kernel
theorem dLand_readName_25 : decode prog_3_method_10_code 25 = .ok (.aload_n 1, 1) := by decide +kernel
theorem dLand_readName_26 : decode prog_3_method_10_code 26 = .ok (.iconst 2, 1) := by decide +kernel
theorem dLand_readName_27 : decode prog_3_method_10_code 27 = .ok (.invokevirtual 116, 3) := by decide +kernel
theorem dLand_readName_30 : decode prog_3_method_10_code 30 = .ok (.return_, 1) := by decide +kernel
theorem dLand_readName_31 : decode prog_3_method_10_code 31 = .ok (.iconst 0, 1) := by decide +kernel
theorem dLand_readName_32 : decode prog_3_method_10_code 32 = .ok (.istore_n 2, 1) := by decide +kernel
theorem dLand_readName_33 : decode prog_3_method_10_code 33 = .ok (.iload_n 2, 1) := by decide +kernel
theorem dLand_readName_34 : decode prog_3_method_10_code 34 = .ok (.aload_n 0, 1) := by decide +kernel
theorem dLand_readName_35 : decode prog_3_method_10_code 35 = .ok (.getfield 24, 3) := by decide +kernel
theorem dLand_readName_38 : decode prog_3_method_10_code 38 = .ok (.if_icmp .ge 29, 3) := by decide +kernel
theorem dLand_readName_41 : decode prog_3_method_10_code 41 = .ok (.aload_n 0, 1) := by decide +kernel
theorem dLand_readName_42 : decode prog_3_method_10_code 42 = .ok (.getfield 27, 3) := by decide +kernel
theorem dLand_readName_45 : decode prog_3_method_10_code 45 = .ok (.iload_n 2, 1) := by decide +kernel
theorem dLand_readName_46 : decode prog_3_method_10_code 46 = .ok (.laload, 1) := by decide +kernel
theorem dLand_readName_47 : decode prog_3_method_10_code 47 = .ok (.aload_n 1, 1) := by decide +kernel
theorem dLand_readName_48 : decode prog_3_method_10_code 48 = .ok (.invokevirtual 175, 3) := by decide +kernel
theorem dLand_readName_51 : decode prog_3_method_10_code 51 = .ok (.lcmp, 1) := by decide +kernel
theorem dLand_readName_52 : decode prog_3_method_10_code 52 = .ok (.ifCond .ne 9, 3) := by decide +kernel
theorem dLand_readName_55 : decode prog_3_method_10_code 55 = .ok (.aload_n 1, 1) := by decide +kernel
theorem dLand_readName_56 : decode prog_3_method_10_code 56 = .ok (.iconst 3, 1) := by decide +kernel
theorem dLand_readName_57 : decode prog_3_method_10_code 57 = .ok (.invokevirtual 116, 3) := by decide +kernel
theorem dLand_readName_60 : decode prog_3_method_10_code 60 = .ok (.return_, 1) := by decide +kernel
theorem dLand_readName_61 : decode prog_3_method_10_code 61 = .ok (.iinc 2 1, 3) := by decide +kernel
theorem dLand_readName_64 : decode prog_3_method_10_code 64 = .ok (.goto (-31), 3) := by decide +kernel
theorem dLand_readName_67 : decode prog_3_method_10_code 67 = .ok (.aload_n 0, 1) := by decide +kernel
theorem dLand_readName_68 : decode prog_3_method_10_code 68 = .ok (.getfield 27, 3) := by decide +kernel
theorem dLand_readName_71 : decode prog_3_method_10_code 71 = .ok (.aload_n 0, 1) := by decide +kernel
theorem dLand_readName_72 : decode prog_3_method_10_code 72 = .ok (.getfield 24, 3) := by decide +kernel
theorem dLand_readName_75 : decode prog_3_method_10_code 75 = .ok (.aload_n 1, 1) := by decide +kernel
theorem dLand_readName_76 : decode prog_3_method_10_code 76 = .ok (.invokevirtual 175, 3) := by decide +kernel
theorem dLand_readName_79 : decode prog_3_method_10_code 79 = .ok (.lastore, 1) := by decide +kernel
theorem dLand_readName_80 : decode prog_3_method_10_code 80 = .ok (.aload_n 0, 1) := by decide +kernel
theorem dLand_readName_81 : decode prog_3_method_10_code 81 = .ok (.dup, 1) := by decide +kernel
theorem dLand_readName_82 : decode prog_3_method_10_code 82 = .ok (.getfield 24, 3) := by decide +kernel
theorem dLand_readName_85 : decode prog_3_method_10_code 85 = .ok (.iconst 1, 1) := by decide +kernel
theorem dLand_readName_86 : decode prog_3_method_10_code 86 = .ok (.iadd, 1) := by decide +kernel
theorem dLand_readName_87 : decode prog_3_method_10_code 87 = .ok (.putfield 24, 3) := by decide +kernel
theorem dLand_readName_90 : decode prog_3_method_10_code 90 = .ok (.aload_n 1, 1) := by decide +kernel
theorem dLand_readName_91 : decode prog_3_method_10_code 91 = .ok (.invokevirtual 120, 3) := by decide +kernel
theorem dLand_readName_94 : decode prog_3_method_10_code 94 = .ok (.return_, 1) := by decide +kernel
theorem dLand_readSite_0 : decode prog_3_method_11_code 0 = .ok (.aload_n 1, 1) := by decide +kernel
theorem dLand_readSite_1 : decode prog_3_method_11_code 1 = .ok (.aload_n 1, 1) := by decide +kernel
theorem dLand_readSite_2 : decode prog_3_method_11_code 2 = .ok (.iconst 2, 1) := by decide +kernel
theorem dLand_readSite_3 : decode prog_3_method_11_code 3 = .ok (.invokevirtual 100, 3) := by decide +kernel
theorem dLand_readSite_6 : decode prog_3_method_11_code 6 = .ok (.invokevirtual 150, 3) := by decide +kernel
theorem dLand_readSite_9 : decode prog_3_method_11_code 9 = .ok (.aload_n 1, 1) := by decide +kernel
theorem dLand_readSite_10 : decode prog_3_method_11_code 10 = .ok (.iconst (-1), 1) := by decide +kernel
theorem dLand_readSite_11 : decode prog_3_method_11_code 11 = .ok (.invokevirtual 123, 3) := by decide +kernel
theorem dLand_readSite_14 : decode prog_3_method_11_code 14 = .ok (.ireturn, 1) := by decide +kernel
theorem dLand_shortenWays_0 : decode prog_3_method_12_code 0 = .ok (.iconst 0, 1) := by decide +kernel
theorem dLand_shortenWays_1 : decode prog_3_method_12_code 1 = .ok (.istore_n 1, 1) := by decide +kernel
theorem dLand_shortenWays_2 : decode prog_3_method_12_code 2 = .ok (.iload_n 1, 1) := by decide +kernel
theorem dLand_shortenWays_3 : decode prog_3_method_12_code 3 = .ok (.bipush 16, 2) := by decide +kernel
theorem dLand_shortenWays_5 : decode prog_3_method_12_code 5 = .ok (.if_icmp .ge 77, 3) := by decide +kernel
theorem dLand_shortenWays_8 : decode prog_3_method_12_code 8 = .ok (.iconst 0, 1) := by decide +kernel
theorem dLand_shortenWays_9 : decode prog_3_method_12_code 9 = .ok (.istore_n 2, 1) := by decide +kernel
theorem dLand_shortenWays_10 : decode prog_3_method_12_code 10 = .ok (.iload_n 2, 1) := by decide +kernel
theorem dLand_shortenWays_11 : decode prog_3_method_12_code 11 = .ok (.bipush 16, 2) := by decide +kernel
theorem dLand_shortenWays_13 : decode prog_3_method_12_code 13 = .ok (.if_icmp .ge 63, 3) := by decide +kernel
theorem dLand_shortenWays_16 : decode prog_3_method_12_code 16 = .ok (.aload_n 0, 1) := by decide +kernel
theorem dLand_shortenWays_17 : decode prog_3_method_12_code 17 = .ok (.iload_n 2, 1) := by decide +kernel
theorem dLand_shortenWays_18 : decode prog_3_method_12_code 18 = .ok (.iload_n 1, 1) := by decide +kernel
theorem dLand_shortenWays_19 : decode prog_3_method_12_code 19 = .ok (.invokevirtual 179, 3) := by decide +kernel
theorem dLand_shortenWays_22 : decode prog_3_method_12_code 22 = .ok (.istore_n 3, 1) := by decide +kernel
theorem dLand_shortenWays_23 : decode prog_3_method_12_code 23 = .ok (.iconst 0, 1) := by decide +kernel
theorem dLand_shortenWays_24 : decode prog_3_method_12_code 24 = .ok (.istore 4, 2) := by decide +kernel
theorem dLand_shortenWays_26 : decode prog_3_method_12_code 26 = .ok (.iload 4, 2) := by decide +kernel
theorem dLand_shortenWays_28 : decode prog_3_method_12_code 28 = .ok (.bipush 16, 2) := by decide +kernel
theorem dLand_shortenWays_30 : decode prog_3_method_12_code 30 = .ok (.if_icmp .ge 40, 3) := by decide +kernel
theorem dLand_shortenWays_33 : decode prog_3_method_12_code 33 = .ok (.iload_n 3, 1) := by decide +kernel
theorem dLand_shortenWays_34 : decode prog_3_method_12_code 34 = .ok (.iconst (-1), 1) := by decide +kernel
theorem dLand_shortenWays_35 : decode prog_3_method_12_code 35 = .ok (.if_icmp .eq 35, 3) := by decide +kernel
theorem dLand_shortenWays_38 : decode prog_3_method_12_code 38 = .ok (.aload_n 0, 1) := by decide +kernel
theorem dLand_shortenWays_39 : decode prog_3_method_12_code 39 = .ok (.iload_n 1, 1) := by decide +kernel
theorem dLand_shortenWays_40 : decode prog_3_method_12_code 40 = .ok (.iload 4, 2) := by decide +kernel
theorem dLand_shortenWays_42 : decode prog_3_method_12_code 42 = .ok (.invokevirtual 179, 3) := by decide +kernel
theorem dLand_shortenWays_45 : decode prog_3_method_12_code 45 = .ok (.istore 5, 2) := by decide +kernel
theorem dLand_shortenWays_47 : decode prog_3_method_12_code 47 = .ok (.iload 5, 2) := by decide +kernel
theorem dLand_shortenWays_49 : decode prog_3_method_12_code 49 = .ok (.iconst (-1), 1) := by decide +kernel
theorem dLand_shortenWays_50 : decode prog_3_method_12_code 50 = .ok (.if_icmp .eq 14, 3) := by decide +kernel
theorem dLand_shortenWays_53 : decode prog_3_method_12_code 53 = .ok (.aload_n 0, 1) := by decide +kernel
theorem dLand_shortenWays_54 : decode prog_3_method_12_code 54 = .ok (.iload_n 2, 1) := by decide +kernel
theorem dLand_shortenWays_55 : decode prog_3_method_12_code 55 = .ok (.iload 4, 2) := by decide +kernel
theorem dLand_shortenWays_57 : decode prog_3_method_12_code 57 = .ok (.iload_n 3, 1) := by decide +kernel
theorem dLand_shortenWays_58 : decode prog_3_method_12_code 58 = .ok (.iload 5, 2) := by decide +kernel
theorem dLand_shortenWays_60 : decode prog_3_method_12_code 60 = .ok (.iadd, 1) := by decide +kernel
theorem dLand_shortenWays_61 : decode prog_3_method_12_code 61 = .ok (.invokevirtual 134, 3) := by decide +kernel
theorem dLand_shortenWays_64 : decode prog_3_method_12_code 64 = .ok (.iinc 4 1, 3) := by decide +kernel
theorem dLand_shortenWays_67 : decode prog_3_method_12_code 67 = .ok (.goto (-41), 3) := by decide +kernel
theorem dLand_shortenWays_70 : decode prog_3_method_12_code 70 = .ok (.iinc 2 1, 3) := by decide +kernel
theorem dLand_shortenWays_73 : decode prog_3_method_12_code 73 = .ok (.goto (-63), 3) := by decide +kernel
theorem dLand_shortenWays_76 : decode prog_3_method_12_code 76 = .ok (.iinc 1 1, 3) := by decide +kernel
theorem dLand_shortenWays_79 : decode prog_3_method_12_code 79 = .ok (.goto (-77), 3) := by decide +kernel
theorem dLand_shortenWays_82 : decode prog_3_method_12_code 82 = .ok (.return_, 1) := by decide +kernel
theorem dLand_shorten_0 : decode prog_3_method_13_code 0 = .ok (.aload_n 0, 1) := by decide +kernel
theorem dLand_shorten_1 : decode prog_3_method_13_code 1 = .ok (.iload_n 1, 1) := by decide +kernel
theorem dLand_shorten_2 : decode prog_3_method_13_code 2 = .ok (.iload_n 2, 1) := by decide +kernel
theorem dLand_shorten_3 : decode prog_3_method_13_code 3 = .ok (.invokevirtual 179, 3) := by decide +kernel
theorem dLand_shorten_6 : decode prog_3_method_13_code 6 = .ok (.istore 4, 2) := by decide +kernel
theorem dLand_shorten_8 : decode prog_3_method_13_code 8 = .ok (.iload 4, 2) := by decide +kernel
theorem dLand_shorten_10 : decode prog_3_method_13_code 10 = .ok (.iconst (-1), 1) := by decide +kernel
theorem dLand_shorten_11 : decode prog_3_method_13_code 11 = .ok (.if_icmp .eq 9, 3) := by decide +kernel
theorem dLand_shorten_14 : decode prog_3_method_13_code 14 = .ok (.iload 4, 2) := by decide +kernel
theorem dLand_shorten_16 : decode prog_3_method_13_code 16 = .ok (.iload_n 3, 1) := by decide +kernel
theorem dLand_shorten_17 : decode prog_3_method_13_code 17 = .ok (.if_icmp .le 15, 3) := by decide +kernel
theorem dLand_shorten_20 : decode prog_3_method_13_code 20 = .ok (.aload_n 0, 1) := by decide +kernel
theorem dLand_shorten_21 : decode prog_3_method_13_code 21 = .ok (.getfield 31, 3) := by decide +kernel
theorem dLand_shorten_24 : decode prog_3_method_13_code 24 = .ok (.iload_n 1, 1) := by decide +kernel
theorem dLand_shorten_25 : decode prog_3_method_13_code 25 = .ok (.bipush 16, 2) := by decide +kernel
theorem dLand_shorten_27 : decode prog_3_method_13_code 27 = .ok (.imul, 1) := by decide +kernel
theorem dLand_shorten_28 : decode prog_3_method_13_code 28 = .ok (.iload_n 2, 1) := by decide +kernel
theorem dLand_shorten_29 : decode prog_3_method_13_code 29 = .ok (.iadd, 1) := by decide +kernel
theorem dLand_shorten_30 : decode prog_3_method_13_code 30 = .ok (.iload_n 3, 1) := by decide +kernel
theorem dLand_shorten_31 : decode prog_3_method_13_code 31 = .ok (.iastore, 1) := by decide +kernel
theorem dLand_shorten_32 : decode prog_3_method_13_code 32 = .ok (.return_, 1) := by decide +kernel
theorem dLand_daysBetween_0 : decode prog_3_method_14_code 0 = .ok (.iload_n 1, 1) := by decide +kernel
theorem dLand_daysBetween_1 : decode prog_3_method_14_code 1 = .ok (.ifCond .lt 19, 3) := by decide +kernel
theorem dLand_daysBetween_4 : decode prog_3_method_14_code 4 = .ok (.iload_n 1, 1) := by decide +kernel
theorem dLand_daysBetween_5 : decode prog_3_method_14_code 5 = .ok (.bipush 16, 2) := by decide +kernel
theorem dLand_daysBetween_7 : decode prog_3_method_14_code 7 = .ok (.if_icmp .ge 13, 3) := by decide +kernel
theorem dLand_daysBetween_10 : decode prog_3_method_14_code 10 = .ok (.iload_n 2, 1) := by decide +kernel
theorem dLand_daysBetween_11 : decode prog_3_method_14_code 11 = .ok (.ifCond .lt 9, 3) := by decide +kernel
theorem dLand_daysBetween_14 : decode prog_3_method_14_code 14 = .ok (.iload_n 2, 1) := by decide +kernel
theorem dLand_daysBetween_15 : decode prog_3_method_14_code 15 = .ok (.bipush 16, 2) := by decide +kernel
theorem dLand_daysBetween_17 : decode prog_3_method_14_code 17 = .ok (.if_icmp .lt 5, 3) := by decide +kernel
theorem dLand_daysBetween_20 : decode prog_3_method_14_code 20 = .ok (.iconst (-1), 1) := by decide +kernel
theorem dLand_daysBetween_21 : decode prog_3_method_14_code 21 = .ok (.ireturn, 1) := by decide +kernel
theorem dLand_daysBetween_22 : decode prog_3_method_14_code 22 = .ok (.aload_n 0, 1) := by decide +kernel
theorem dLand_daysBetween_23 : decode prog_3_method_14_code 23 = .ok (.getfield 31, 3) := by decide +kernel
theorem dLand_daysBetween_26 : decode prog_3_method_14_code 26 = .ok (.iload_n 1, 1) := by decide +kernel
theorem dLand_daysBetween_27 : decode prog_3_method_14_code 27 = .ok (.bipush 16, 2) := by decide +kernel
theorem dLand_daysBetween_29 : decode prog_3_method_14_code 29 = .ok (.imul, 1) := by decide +kernel
theorem dLand_daysBetween_30 : decode prog_3_method_14_code 30 = .ok (.iload_n 2, 1) := by decide +kernel
theorem dLand_daysBetween_31 : decode prog_3_method_14_code 31 = .ok (.iadd, 1) := by decide +kernel
theorem dLand_daysBetween_32 : decode prog_3_method_14_code 32 = .ok (.iaload, 1) := by decide +kernel
theorem dLand_daysBetween_33 : decode prog_3_method_14_code 33 = .ok (.ireturn, 1) := by decide +kernel
theorem dLand_serves_0 : decode prog_3_method_15_code 0 = .ok (.iload_n 2, 1) := by decide +kernel
theorem dLand_serves_1 : decode prog_3_method_15_code 1 = .ok (.ifCond .lt 25, 3) := by decide +kernel
theorem dLand_serves_4 : decode prog_3_method_15_code 4 = .ok (.iload_n 2, 1) := by decide +kernel
theorem dLand_serves_5 : decode prog_3_method_15_code 5 = .ok (.iconst 5, 1) := by decide +kernel
theorem dLand_serves_6 : decode prog_3_method_15_code 6 = .ok (.if_icmp .ge 20, 3) := by decide +kernel
theorem dLand_serves_9 : decode prog_3_method_15_code 9 = .ok (.aload_n 0, 1) := by decide +kernel
theorem dLand_serves_10 : decode prog_3_method_15_code 10 = .ok (.getfield 50, 3) := by decide +kernel
theorem dLand_serves_13 : decode prog_3_method_15_code 13 = .ok (.iload_n 1, 1) := by decide +kernel
theorem dLand_serves_14 : decode prog_3_method_15_code 14 = .ok (.iconst 5, 1) := by decide +kernel
theorem dLand_serves_15 : decode prog_3_method_15_code 15 = .ok (.imul, 1) := by decide +kernel
theorem dLand_serves_16 : decode prog_3_method_15_code 16 = .ok (.iload_n 2, 1) := by decide +kernel
theorem dLand_serves_17 : decode prog_3_method_15_code 17 = .ok (.iadd, 1) := by decide +kernel
theorem dLand_serves_18 : decode prog_3_method_15_code 18 = .ok (.iaload, 1) := by decide +kernel
theorem dLand_serves_19 : decode prog_3_method_15_code 19 = .ok (.ifCond .eq 7, 3) := by decide +kernel
theorem dLand_serves_22 : decode prog_3_method_15_code 22 = .ok (.iconst 1, 1) := by decide +kernel
theorem dLand_serves_23 : decode prog_3_method_15_code 23 = .ok (.goto 4, 3) := by decide +kernel
theorem dLand_serves_26 : decode prog_3_method_15_code 26 = .ok (.iconst 0, 1) := by decide +kernel
theorem dLand_serves_27 : decode prog_3_method_15_code 27 = .ok (.ireturn, 1) := by decide +kernel
theorem dLoads_init_0 : decode prog_4_method_1_code 0 = .ok (.aload_n 0, 1) := by decide +kernel
theorem dLoads_init_1 : decode prog_4_method_1_code 1 = .ok (.invokespecial 3, 3) := by decide +kernel
theorem dLoads_init_4 : decode prog_4_method_1_code 4 = .ok (.aload_n 0, 1) := by decide +kernel
theorem dLoads_init_5 : decode prog_4_method_1_code 5 = .ok (.sipush 2880, 3) := by decide +kernel
theorem dLoads_init_8 : decode prog_4_method_1_code 8 = .ok (.newarray .int, 2) := by decide +kernel
theorem dLoads_init_10 : decode prog_4_method_1_code 10 = .ok (.putfield 9, 3) := by decide +kernel
theorem dLoads_init_13 : decode prog_4_method_1_code 13 = .ok (.aload_n 0, 1) := by decide +kernel
theorem dLoads_init_14 : decode prog_4_method_1_code 14 = .ok (.sipush 2880, 3) := by decide +kernel
theorem dLoads_init_17 : decode prog_4_method_1_code 17 = .ok (.newarray .int, 2) := by decide +kernel
theorem dLoads_init_19 : decode prog_4_method_1_code 19 = .ok (.putfield 15, 3) := by decide +kernel
theorem dLoads_init_22 : decode prog_4_method_1_code 22 = .ok (.aload_n 0, 1) := by decide +kernel
theorem dLoads_init_23 : decode prog_4_method_1_code 23 = .ok (.sipush 2880, 3) := by decide +kernel
theorem dLoads_init_26 : decode prog_4_method_1_code 26 = .ok (.newarray .int, 2) := by decide +kernel
theorem dLoads_init_28 : decode prog_4_method_1_code 28 = .ok (.putfield 18, 3) := by decide +kernel
theorem dLoads_init_31 : decode prog_4_method_1_code 31 = .ok (.aload_n 0, 1) := by decide +kernel
theorem dLoads_init_32 : decode prog_4_method_1_code 32 = .ok (.sipush 2880, 3) := by decide +kernel
theorem dLoads_init_35 : decode prog_4_method_1_code 35 = .ok (.newarray .int, 2) := by decide +kernel
theorem dLoads_init_37 : decode prog_4_method_1_code 37 = .ok (.putfield 21, 3) := by decide +kernel
theorem dLoads_init_40 : decode prog_4_method_1_code 40 = .ok (.aload_n 0, 1) := by decide +kernel
theorem dLoads_init_41 : decode prog_4_method_1_code 41 = .ok (.sipush 2880, 3) := by decide +kernel
theorem dLoads_init_44 : decode prog_4_method_1_code 44 = .ok (.newarray .int, 2) := by decide +kernel
theorem dLoads_init_46 : decode prog_4_method_1_code 46 = .ok (.putfield 24, 3) := by decide +kernel
theorem dLoads_init_49 : decode prog_4_method_1_code 49 = .ok (.aload_n 0, 1) := by decide +kernel
theorem dLoads_init_50 : decode prog_4_method_1_code 50 = .ok (.sipush 2880, 3) := by decide +kernel
theorem dLoads_init_53 : decode prog_4_method_1_code 53 = .ok (.newarray .int, 2) := by decide +kernel
theorem dLoads_init_55 : decode prog_4_method_1_code 55 = .ok (.putfield 27, 3) := by decide +kernel
theorem dLoads_init_58 : decode prog_4_method_1_code 58 = .ok (.aload_n 0, 1) := by decide +kernel
theorem dLoads_init_59 : decode prog_4_method_1_code 59 = .ok (.sipush 2880, 3) := by decide +kernel
theorem dLoads_init_62 : decode prog_4_method_1_code 62 = .ok (.newarray .int, 2) := by decide +kernel
theorem dLoads_init_64 : decode prog_4_method_1_code 64 = .ok (.putfield 30, 3) := by decide +kernel
theorem dLoads_init_67 : decode prog_4_method_1_code 67 = .ok (.aload_n 0, 1) := by decide +kernel
theorem dLoads_init_68 : decode prog_4_method_1_code 68 = .ok (.sipush 2880, 3) := by decide +kernel
theorem dLoads_init_71 : decode prog_4_method_1_code 71 = .ok (.newarray .int, 2) := by decide +kernel
theorem dLoads_init_73 : decode prog_4_method_1_code 73 = .ok (.putfield 33, 3) := by decide +kernel
theorem dLoads_init_76 : decode prog_4_method_1_code 76 = .ok (.aload_n 0, 1) := by decide +kernel
theorem dLoads_init_77 : decode prog_4_method_1_code 77 = .ok (.iconst 0, 1) := by decide +kernel
theorem dLoads_init_78 : decode prog_4_method_1_code 78 = .ok (.putfield 36, 3) := by decide +kernel
theorem dLoads_init_81 : decode prog_4_method_1_code 81 = .ok (.aload_n 0, 1) := by decide +kernel
theorem dLoads_init_82 : decode prog_4_method_1_code 82 = .ok (.iconst 0, 1) := by decide +kernel
theorem dLoads_init_83 : decode prog_4_method_1_code 83 = .ok (.putfield 40, 3) := by decide +kernel
theorem dLoads_init_86 : decode prog_4_method_1_code 86 = .ok (.return_, 1) := by decide +kernel
theorem dLoads_start_0 : decode prog_4_method_2_code 0 = .ok (.aload_n 0, 1) := by decide +kernel
theorem dLoads_start_1 : decode prog_4_method_2_code 1 = .ok (.iconst 0, 1) := by decide +kernel
theorem dLoads_start_2 : decode prog_4_method_2_code 2 = .ok (.putfield 36, 3) := by decide +kernel
theorem dLoads_start_5 : decode prog_4_method_2_code 5 = .ok (.aload_n 0, 1) := by decide +kernel
theorem dLoads_start_6 : decode prog_4_method_2_code 6 = .ok (.iconst 0, 1) := by decide +kernel
theorem dLoads_start_7 : decode prog_4_method_2_code 7 = .ok (.putfield 40, 3) := by decide +kernel
theorem dLoads_start_10 : decode prog_4_method_2_code 10 = .ok (.return_, 1) := by decide +kernel
theorem dLoads_sendSalt_0 : decode prog_4_method_3_code 0 = .ok (.aload_n 0, 1) := by decide +kernel
theorem dLoads_sendSalt_1 : decode prog_4_method_3_code 1 = .ok (.getfield 40, 3) := by decide +kernel
theorem dLoads_sendSalt_4 : decode prog_4_method_3_code 4 = .ok (.sipush 2880, 3) := by decide +kernel
theorem dLoads_sendSalt_7 : decode prog_4_method_3_code 7 = .ok (.if_icmp .ge 35, 3) := by decide +kernel
theorem dLoads_sendSalt_10 : decode prog_4_method_3_code 10 = .ok (.aload_n 0, 1) := by decide +kernel
theorem dLoads_sendSalt_11 : decode prog_4_method_3_code 11 = .ok (.getfield 27, 3) := by decide +kernel
theorem dLoads_sendSalt_14 : decode prog_4_method_3_code 14 = .ok (.aload_n 0, 1) := by decide +kernel
theorem dLoads_sendSalt_15 : decode prog_4_method_3_code 15 = .ok (.getfield 40, 3) := by decide +kernel
theorem dLoads_sendSalt_18 : decode prog_4_method_3_code 18 = .ok (.iconst 0, 1) := by decide +kernel
theorem dLoads_sendSalt_19 : decode prog_4_method_3_code 19 = .ok (.iastore, 1) := by decide +kernel
theorem dLoads_sendSalt_20 : decode prog_4_method_3_code 20 = .ok (.aload_n 0, 1) := by decide +kernel
theorem dLoads_sendSalt_21 : decode prog_4_method_3_code 21 = .ok (.getfield 30, 3) := by decide +kernel
theorem dLoads_sendSalt_24 : decode prog_4_method_3_code 24 = .ok (.aload_n 0, 1) := by decide +kernel
theorem dLoads_sendSalt_25 : decode prog_4_method_3_code 25 = .ok (.getfield 40, 3) := by decide +kernel
theorem dLoads_sendSalt_28 : decode prog_4_method_3_code 28 = .ok (.iconst (-1), 1) := by decide +kernel
theorem dLoads_sendSalt_29 : decode prog_4_method_3_code 29 = .ok (.iastore, 1) := by decide +kernel
theorem dLoads_sendSalt_30 : decode prog_4_method_3_code 30 = .ok (.aload_n 0, 1) := by decide +kernel
theorem dLoads_sendSalt_31 : decode prog_4_method_3_code 31 = .ok (.iconst 1, 1) := by decide +kernel
theorem dLoads_sendSalt_32 : decode prog_4_method_3_code 32 = .ok (.iload_n 1, 1) := by decide +kernel
theorem dLoads_sendSalt_33 : decode prog_4_method_3_code 33 = .ok (.iload_n 2, 1) := by decide +kernel
theorem dLoads_sendSalt_34 : decode prog_4_method_3_code 34 = .ok (.iload_n 3, 1) := by decide +kernel
theorem dLoads_sendSalt_35 : decode prog_4_method_3_code 35 = .ok (.iload 4, 2) := by decide +kernel
theorem dLoads_sendSalt_37 : decode prog_4_method_3_code 37 = .ok (.iload 5, 2) := by decide +kernel
theorem dLoads_sendSalt_39 : decode prog_4_method_3_code 39 = .ok (.invokevirtual 43, 3) := by decide +kernel
theorem dLoads_sendSalt_42 : decode prog_4_method_3_code 42 = .ok (.return_, 1) := by decide +kernel
theorem dLoads_sendGrain_0 : decode prog_4_method_4_code 0 = .ok (.aload_n 0, 1) := by decide +kernel
theorem dLoads_sendGrain_1 : decode prog_4_method_4_code 1 = .ok (.getfield 40, 3) := by decide +kernel
theorem dLoads_sendGrain_4 : decode prog_4_method_4_code 4 = .ok (.sipush 2880, 3) := by decide +kernel
theorem dLoads_sendGrain_7 : decode prog_4_method_4_code 7 = .ok (.if_icmp .ge 49, 3) := by decide +kernel
theorem dLoads_sendGrain_10 : decode prog_4_method_4_code 10 = .ok (.aload_n 0, 1) := by decide +kernel
theorem dLoads_sendGrain_11 : decode prog_4_method_4_code 11 = .ok (.getfield 27, 3) := by decide +kernel
theorem dLoads_sendGrain_14 : decode prog_4_method_4_code 14 = .ok (.aload_n 0, 1) := by decide +kernel
theorem dLoads_sendGrain_15 : decode prog_4_method_4_code 15 = .ok (.getfield 40, 3) := by decide +kernel
theorem dLoads_sendGrain_18 : decode prog_4_method_4_code 18 = .ok (.aload_n 2, 1) := by decide +kernel
theorem dLoads_sendGrain_19 : decode prog_4_method_4_code 19 = .ok (.getfield 47, 3) := by decide +kernel
theorem dLoads_sendGrain_22 : decode prog_4_method_4_code 22 = .ok (.iastore, 1) := by decide +kernel
theorem dLoads_sendGrain_23 : decode prog_4_method_4_code 23 = .ok (.aload_n 0, 1) := by decide +kernel
theorem dLoads_sendGrain_24 : decode prog_4_method_4_code 24 = .ok (.getfield 30, 3) := by decide +kernel
theorem dLoads_sendGrain_27 : decode prog_4_method_4_code 27 = .ok (.aload_n 0, 1) := by decide +kernel
theorem dLoads_sendGrain_28 : decode prog_4_method_4_code 28 = .ok (.getfield 40, 3) := by decide +kernel
theorem dLoads_sendGrain_31 : decode prog_4_method_4_code 31 = .ok (.aload_n 2, 1) := by decide +kernel
theorem dLoads_sendGrain_32 : decode prog_4_method_4_code 32 = .ok (.getfield 52, 3) := by decide +kernel
theorem dLoads_sendGrain_35 : decode prog_4_method_4_code 35 = .ok (.iastore, 1) := by decide +kernel
theorem dLoads_sendGrain_36 : decode prog_4_method_4_code 36 = .ok (.aload_n 0, 1) := by decide +kernel
theorem dLoads_sendGrain_37 : decode prog_4_method_4_code 37 = .ok (.iconst 0, 1) := by decide +kernel
theorem dLoads_sendGrain_38 : decode prog_4_method_4_code 38 = .ok (.iload_n 1, 1) := by decide +kernel
theorem dLoads_sendGrain_39 : decode prog_4_method_4_code 39 = .ok (.aload_n 2, 1) := by decide +kernel
theorem dLoads_sendGrain_40 : decode prog_4_method_4_code 40 = .ok (.getfield 55, 3) := by decide +kernel
theorem dLoads_sendGrain_43 : decode prog_4_method_4_code 43 = .ok (.aload_n 2, 1) := by decide +kernel
theorem dLoads_sendGrain_44 : decode prog_4_method_4_code 44 = .ok (.getfield 58, 3) := by decide +kernel
theorem dLoads_sendGrain_47 : decode prog_4_method_4_code 47 = .ok (.bipush 10, 2) := by decide +kernel
theorem dLoads_sendGrain_49 : decode prog_4_method_4_code 49 = .ok (.imul, 1) := by decide +kernel
theorem dLoads_sendGrain_50 : decode prog_4_method_4_code 50 = .ok (.iload_n 3, 1) := by decide +kernel
theorem dLoads_sendGrain_51 : decode prog_4_method_4_code 51 = .ok (.iload 4, 2) := by decide +kernel
theorem dLoads_sendGrain_53 : decode prog_4_method_4_code 53 = .ok (.invokevirtual 43, 3) := by decide +kernel
theorem dLoads_sendGrain_56 : decode prog_4_method_4_code 56 = .ok (.return_, 1) := by decide +kernel
theorem dLoads_send_0 : decode prog_4_method_5_code 0 = .ok (.aload_n 0, 1) := by decide +kernel
theorem dLoads_send_1 : decode prog_4_method_5_code 1 = .ok (.getfield 9, 3) := by decide +kernel
theorem dLoads_send_4 : decode prog_4_method_5_code 4 = .ok (.aload_n 0, 1) := by decide +kernel
theorem dLoads_send_5 : decode prog_4_method_5_code 5 = .ok (.getfield 40, 3) := by decide +kernel
theorem dLoads_send_8 : decode prog_4_method_5_code 8 = .ok (.iload_n 1, 1) := by decide +kernel
theorem dLoads_send_9 : decode prog_4_method_5_code 9 = .ok (.iastore, 1) := by decide +kernel
theorem dLoads_send_10 : decode prog_4_method_5_code 10 = .ok (.aload_n 0, 1) := by decide +kernel
theorem dLoads_send_11 : decode prog_4_method_5_code 11 = .ok (.getfield 15, 3) := by decide +kernel
theorem dLoads_send_14 : decode prog_4_method_5_code 14 = .ok (.aload_n 0, 1) := by decide +kernel
theorem dLoads_send_15 : decode prog_4_method_5_code 15 = .ok (.getfield 40, 3) := by decide +kernel
theorem dLoads_send_18 : decode prog_4_method_5_code 18 = .ok (.iload_n 2, 1) := by decide +kernel
theorem dLoads_send_19 : decode prog_4_method_5_code 19 = .ok (.iastore, 1) := by decide +kernel
theorem dLoads_send_20 : decode prog_4_method_5_code 20 = .ok (.aload_n 0, 1) := by decide +kernel
theorem dLoads_send_21 : decode prog_4_method_5_code 21 = .ok (.getfield 18, 3) := by decide +kernel
theorem dLoads_send_24 : decode prog_4_method_5_code 24 = .ok (.aload_n 0, 1) := by decide +kernel
theorem dLoads_send_25 : decode prog_4_method_5_code 25 = .ok (.getfield 40, 3) := by decide +kernel
theorem dLoads_send_28 : decode prog_4_method_5_code 28 = .ok (.iload_n 3, 1) := by decide +kernel
theorem dLoads_send_29 : decode prog_4_method_5_code 29 = .ok (.iastore, 1) := by decide +kernel
theorem dLoads_send_30 : decode prog_4_method_5_code 30 = .ok (.aload_n 0, 1) := by decide +kernel
theorem dLoads_send_31 : decode prog_4_method_5_code 31 = .ok (.getfield 24, 3) := by decide +kernel
theorem dLoads_send_34 : decode prog_4_method_5_code 34 = .ok (.aload_n 0, 1) := by decide +kernel
theorem dLoads_send_35 : decode prog_4_method_5_code 35 = .ok (.getfield 40, 3) := by decide +kernel
theorem dLoads_send_38 : decode prog_4_method_5_code 38 = .ok (.iload 4, 2) := by decide +kernel
theorem dLoads_send_40 : decode prog_4_method_5_code 40 = .ok (.iastore, 1) := by decide +kernel
theorem dLoads_send_41 : decode prog_4_method_5_code 41 = .ok (.aload_n 0, 1) := by decide +kernel
theorem dLoads_send_42 : decode prog_4_method_5_code 42 = .ok (.getfield 21, 3) := by decide +kernel
theorem dLoads_send_45 : decode prog_4_method_5_code 45 = .ok (.aload_n 0, 1) := by decide +kernel
theorem dLoads_send_46 : decode prog_4_method_5_code 46 = .ok (.getfield 40, 3) := by decide +kernel
theorem dLoads_send_49 : decode prog_4_method_5_code 49 = .ok (.iload 5, 2) := by decide +kernel
theorem dLoads_send_51 : decode prog_4_method_5_code 51 = .ok (.iconst 1, 1) := by decide +kernel
theorem dLoads_send_52 : decode prog_4_method_5_code 52 = .ok (.iload 6, 2) := by decide +kernel
theorem dLoads_send_54 : decode prog_4_method_5_code 54 = .ok (.invokestatic 61, 3) := by decide +kernel
theorem dLoads_send_57 : decode prog_4_method_5_code 57 = .ok (.invokestatic 65, 3) := by decide +kernel
theorem dLoads_send_60 : decode prog_4_method_5_code 60 = .ok (.iadd, 1) := by decide +kernel
theorem dLoads_send_61 : decode prog_4_method_5_code 61 = .ok (.iastore, 1) := by decide +kernel
theorem dLoads_send_62 : decode prog_4_method_5_code 62 = .ok (.aload_n 0, 1) := by decide +kernel
theorem dLoads_send_63 : decode prog_4_method_5_code 63 = .ok (.getfield 33, 3) := by decide +kernel
theorem dLoads_send_66 : decode prog_4_method_5_code 66 = .ok (.aload_n 0, 1) := by decide +kernel
theorem dLoads_send_67 : decode prog_4_method_5_code 67 = .ok (.getfield 40, 3) := by decide +kernel
theorem dLoads_send_70 : decode prog_4_method_5_code 70 = .ok (.iload 6, 2) := by decide +kernel
theorem dLoads_send_72 : decode prog_4_method_5_code 72 = .ok (.iastore, 1) := by decide +kernel
theorem dLoads_send_73 : decode prog_4_method_5_code 73 = .ok (.aload_n 0, 1) := by decide +kernel
theorem dLoads_send_74 : decode prog_4_method_5_code 74 = .ok (.dup, 1) := by decide +kernel
theorem dLoads_send_75 : decode prog_4_method_5_code 75 = .ok (.getfield 40, 3) := by decide +kernel
theorem dLoads_send_78 : decode prog_4_method_5_code 78 = .ok (.iconst 1, 1) := by decide +kernel
theorem dLoads_send_79 : decode prog_4_method_5_code 79 = .ok (.iadd, 1) := by decide +kernel
theorem dLoads_send_80 : decode prog_4_method_5_code 80 = .ok (.putfield 40, 3) := by decide +kernel
theorem dLoads_send_83 : decode prog_4_method_5_code 83 = .ok (.return_, 1) := by decide +kernel
theorem dLoads_leaveTo_0 : decode prog_4_method_6_code 0 = .ok (.aload_n 0, 1) := by decide +kernel
theorem dLoads_leaveTo_1 : decode prog_4_method_6_code 1 = .ok (.getfield 36, 3) := by decide +kernel
theorem dLoads_leaveTo_4 : decode prog_4_method_6_code 4 = .ok (.istore_n 3, 1) := by decide +kernel
theorem dLoads_leaveTo_5 : decode prog_4_method_6_code 5 = .ok (.iload_n 3, 1) := by decide +kernel
theorem dLoads_leaveTo_6 : decode prog_4_method_6_code 6 = .ok (.aload_n 0, 1) := by decide +kernel
theorem dLoads_leaveTo_7 : decode prog_4_method_6_code 7 = .ok (.getfield 40, 3) := by decide +kernel
theorem dLoads_leaveTo_10 : decode prog_4_method_6_code 10 = .ok (.if_icmp .ge 26, 3) := by decide +kernel
theorem dLoads_leaveTo_13 : decode prog_4_method_6_code 13 = .ok (.aload_n 0, 1) := by decide +kernel
theorem dLoads_leaveTo_14 : decode prog_4_method_6_code 14 = .ok (.getfield 15, 3) := by decide +kernel
theorem dLoads_leaveTo_17 : decode prog_4_method_6_code 17 = .ok (.iload_n 3, 1) := by decide +kernel
theorem dLoads_leaveTo_18 : decode prog_4_method_6_code 18 = .ok (.iaload, 1) := by decide +kernel
theorem dLoads_leaveTo_19 : decode prog_4_method_6_code 19 = .ok (.iload_n 2, 1) := by decide +kernel
theorem dLoads_leaveTo_20 : decode prog_4_method_6_code 20 = .ok (.if_icmp .ne 10, 3) := by decide +kernel
theorem dLoads_leaveTo_23 : decode prog_4_method_6_code 23 = .ok (.aload_n 0, 1) := by decide +kernel
theorem dLoads_leaveTo_24 : decode prog_4_method_6_code 24 = .ok (.getfield 15, 3) := by decide +kernel
theorem dLoads_leaveTo_27 : decode prog_4_method_6_code 27 = .ok (.iload_n 3, 1) := by decide +kernel
theorem dLoads_leaveTo_28 : decode prog_4_method_6_code 28 = .ok (.iload_n 1, 1) := by decide +kernel
theorem dLoads_leaveTo_29 : decode prog_4_method_6_code 29 = .ok (.iastore, 1) := by decide +kernel
theorem dLoads_leaveTo_30 : decode prog_4_method_6_code 30 = .ok (.iinc 3 1, 3) := by decide +kernel
theorem dLoads_leaveTo_33 : decode prog_4_method_6_code 33 = .ok (.goto (-28), 3) := by decide +kernel
theorem dLoads_leaveTo_36 : decode prog_4_method_6_code 36 = .ok (.return_, 1) := by decide +kernel
theorem dLoads_forgetCome_0 : decode prog_4_method_7_code 0 = .ok (.aload_n 0, 1) := by decide +kernel
theorem dLoads_forgetCome_1 : decode prog_4_method_7_code 1 = .ok (.getfield 36, 3) := by decide +kernel
theorem dLoads_forgetCome_4 : decode prog_4_method_7_code 4 = .ok (.aload_n 0, 1) := by decide +kernel
theorem dLoads_forgetCome_5 : decode prog_4_method_7_code 5 = .ok (.getfield 40, 3) := by decide +kernel
theorem dLoads_forgetCome_8 : decode prog_4_method_7_code 8 = .ok (.if_icmp .ge 29, 3) := by decide +kernel
theorem dLoads_forgetCome_11 : decode prog_4_method_7_code 11 = .ok (.aload_n 0, 1) := by decide +kernel
theorem dLoads_forgetCome_12 : decode prog_4_method_7_code 12 = .ok (.getfield 21, 3) := by decide +kernel
theorem dLoads_forgetCome_15 : decode prog_4_method_7_code 15 = .ok (.aload_n 0, 1) := by decide +kernel
theorem dLoads_forgetCome_16 : decode prog_4_method_7_code 16 = .ok (.getfield 36, 3) := by decide +kernel
theorem dLoads_forgetCome_19 : decode prog_4_method_7_code 19 = .ok (.iaload, 1) := by decide +kernel
theorem dLoads_forgetCome_20 : decode prog_4_method_7_code 20 = .ok (.iload_n 1, 1) := by decide +kernel
theorem dLoads_forgetCome_21 : decode prog_4_method_7_code 21 = .ok (.if_icmp .gt 16, 3) := by decide +kernel
theorem dLoads_forgetCome_24 : decode prog_4_method_7_code 24 = .ok (.aload_n 0, 1) := by decide +kernel
theorem dLoads_forgetCome_25 : decode prog_4_method_7_code 25 = .ok (.dup, 1) := by decide +kernel
theorem dLoads_forgetCome_26 : decode prog_4_method_7_code 26 = .ok (.getfield 36, 3) := by decide +kernel
theorem dLoads_forgetCome_29 : decode prog_4_method_7_code 29 = .ok (.iconst 1, 1) := by decide +kernel
theorem dLoads_forgetCome_30 : decode prog_4_method_7_code 30 = .ok (.iadd, 1) := by decide +kernel
theorem dLoads_forgetCome_31 : decode prog_4_method_7_code 31 = .ok (.putfield 36, 3) := by decide +kernel
theorem dLoads_forgetCome_34 : decode prog_4_method_7_code 34 = .ok (.goto (-34), 3) := by decide +kernel
theorem dLoads_forgetCome_37 : decode prog_4_method_7_code 37 = .ok (.return_, 1) := by decide +kernel
theorem dPapers_init_0 : decode prog_5_method_1_code 0 = .ok (.aload_n 0, 1) := by decide +kernel
theorem dPapers_init_1 : decode prog_5_method_1_code 1 = .ok (.invokespecial 3, 3) := by decide +kernel
theorem dPapers_init_4 : decode prog_5_method_1_code 4 = .ok (.aload_n 0, 1) := by decide +kernel
theorem dPapers_init_5 : decode prog_5_method_1_code 5 = .ok (.sipush 1440, 3) := by decide +kernel
theorem dPapers_init_8 : decode prog_5_method_1_code 8 = .ok (.newarray .int, 2) := by decide +kernel
theorem dPapers_init_10 : decode prog_5_method_1_code 10 = .ok (.putfield 9, 3) := by decide +kernel
theorem dPapers_init_13 : decode prog_5_method_1_code 13 = .ok (.aload_n 0, 1) := by decide +kernel
theorem dPapers_init_14 : decode prog_5_method_1_code 14 = .ok (.sipush 1440, 3) := by decide +kernel
theorem dPapers_init_17 : decode prog_5_method_1_code 17 = .ok (.newarray .int, 2) := by decide +kernel
theorem dPapers_init_19 : decode prog_5_method_1_code 19 = .ok (.putfield 15, 3) := by decide +kernel
theorem dPapers_init_22 : decode prog_5_method_1_code 22 = .ok (.aload_n 0, 1) := by decide +kernel
theorem dPapers_init_23 : decode prog_5_method_1_code 23 = .ok (.sipush 1440, 3) := by decide +kernel
theorem dPapers_init_26 : decode prog_5_method_1_code 26 = .ok (.newarray .int, 2) := by decide +kernel
theorem dPapers_init_28 : decode prog_5_method_1_code 28 = .ok (.putfield 18, 3) := by decide +kernel
theorem dPapers_init_31 : decode prog_5_method_1_code 31 = .ok (.aload_n 0, 1) := by decide +kernel
theorem dPapers_init_32 : decode prog_5_method_1_code 32 = .ok (.sipush 1440, 3) := by decide +kernel
theorem dPapers_init_35 : decode prog_5_method_1_code 35 = .ok (.newarray .int, 2) := by decide +kernel
theorem dPapers_init_37 : decode prog_5_method_1_code 37 = .ok (.putfield 21, 3) := by decide +kernel
theorem dPapers_init_40 : decode prog_5_method_1_code 40 = .ok (.aload_n 0, 1) := by decide +kernel
theorem dPapers_init_41 : decode prog_5_method_1_code 41 = .ok (.sipush 1440, 3) := by decide +kernel
theorem dPapers_init_44 : decode prog_5_method_1_code 44 = .ok (.newarray .int, 2) := by decide +kernel
theorem dPapers_init_46 : decode prog_5_method_1_code 46 = .ok (.putfield 24, 3) := by decide +kernel
theorem dPapers_init_49 : decode prog_5_method_1_code 49 = .ok (.aload_n 0, 1) := by decide +kernel
theorem dPapers_init_50 : decode prog_5_method_1_code 50 = .ok (.sipush 1440, 3) := by decide +kernel
theorem dPapers_init_53 : decode prog_5_method_1_code 53 = .ok (.newarray .int, 2) := by decide +kernel
theorem dPapers_init_55 : decode prog_5_method_1_code 55 = .ok (.putfield 27, 3) := by decide +kernel
theorem dPapers_init_58 : decode prog_5_method_1_code 58 = .ok (.aload_n 0, 1) := by decide +kernel
theorem dPapers_init_59 : decode prog_5_method_1_code 59 = .ok (.sipush 1440, 3) := by decide +kernel
theorem dPapers_init_62 : decode prog_5_method_1_code 62 = .ok (.newarray .int, 2) := by decide +kernel
theorem dPapers_init_64 : decode prog_5_method_1_code 64 = .ok (.putfield 30, 3) := by decide +kernel
theorem dPapers_init_67 : decode prog_5_method_1_code 67 = .ok (.aload_n 0, 1) := by decide +kernel
theorem dPapers_init_68 : decode prog_5_method_1_code 68 = .ok (.sipush 1440, 3) := by decide +kernel
theorem dPapers_init_71 : decode prog_5_method_1_code 71 = .ok (.newarray .int, 2) := by decide +kernel
theorem dPapers_init_73 : decode prog_5_method_1_code 73 = .ok (.putfield 33, 3) := by decide +kernel
theorem dPapers_init_76 : decode prog_5_method_1_code 76 = .ok (.aload_n 0, 1) := by decide +kernel
theorem dPapers_init_77 : decode prog_5_method_1_code 77 = .ok (.sipush 1440, 3) := by decide +kernel
theorem dPapers_init_80 : decode prog_5_method_1_code 80 = .ok (.newarray .int, 2) := by decide +kernel
theorem dPapers_init_82 : decode prog_5_method_1_code 82 = .ok (.putfield 36, 3) := by decide +kernel
theorem dPapers_init_85 : decode prog_5_method_1_code 85 = .ok (.aload_n 0, 1) := by decide +kernel
theorem dPapers_init_86 : decode prog_5_method_1_code 86 = .ok (.sipush 1440, 3) := by decide +kernel
theorem dPapers_init_89 : decode prog_5_method_1_code 89 = .ok (.newarray .int, 2) := by decide +kernel
theorem dPapers_init_91 : decode prog_5_method_1_code 91 = .ok (.putfield 39, 3) := by decide +kernel
theorem dPapers_init_94 : decode prog_5_method_1_code 94 = .ok (.aload_n 0, 1) := by decide +kernel
theorem dPapers_init_95 : decode prog_5_method_1_code 95 = .ok (.sipush 1440, 3) := by decide +kernel
theorem dPapers_init_98 : decode prog_5_method_1_code 98 = .ok (.newarray .int, 2) := by decide +kernel
theorem dPapers_init_100 : decode prog_5_method_1_code 100 = .ok (.putfield 42, 3) := by decide +kernel
theorem dPapers_init_103 : decode prog_5_method_1_code 103 = .ok (.aload_n 0, 1) := by decide +kernel
theorem dPapers_init_104 : decode prog_5_method_1_code 104 = .ok (.iconst 3, 1) := by decide +kernel
theorem dPapers_init_105 : decode prog_5_method_1_code 105 = .ok (.newarray .int, 2) := by decide +kernel
theorem dPapers_init_107 : decode prog_5_method_1_code 107 = .ok (.putfield 45, 3) := by decide +kernel
theorem dPapers_init_110 : decode prog_5_method_1_code 110 = .ok (.aload_n 0, 1) := by decide +kernel
theorem dPapers_init_111 : decode prog_5_method_1_code 111 = .ok (.iconst 0, 1) := by decide +kernel
theorem dPapers_init_112 : decode prog_5_method_1_code 112 = .ok (.putfield 48, 3) := by decide +kernel
theorem dPapers_init_115 : decode prog_5_method_1_code 115 = .ok (.aload_n 0, 1) := by decide +kernel
theorem dPapers_init_116 : decode prog_5_method_1_code 116 = .ok (.iconst 0, 1) := by decide +kernel
theorem dPapers_init_117 : decode prog_5_method_1_code 117 = .ok (.putfield 52, 3) := by decide +kernel
theorem dPapers_init_120 : decode prog_5_method_1_code 120 = .ok (.aload_n 0, 1) := by decide +kernel
theorem dPapers_init_121 : decode prog_5_method_1_code 121 = .ok (.iconst 0, 1) := by decide +kernel
theorem dPapers_init_122 : decode prog_5_method_1_code 122 = .ok (.putfield 55, 3) := by decide +kernel
theorem dPapers_init_125 : decode prog_5_method_1_code 125 = .ok (.return_, 1) := by decide +kernel
theorem dPapers_start_0 : decode prog_5_method_2_code 0 = .ok (.aload_n 0, 1) := by decide +kernel
theorem dPapers_start_1 : decode prog_5_method_2_code 1 = .ok (.iconst 0, 1) := by decide +kernel
theorem dPapers_start_2 : decode prog_5_method_2_code 2 = .ok (.putfield 48, 3) := by decide +kernel
theorem dPapers_start_5 : decode prog_5_method_2_code 5 = .ok (.aload_n 0, 1) := by decide +kernel
theorem dPapers_start_6 : decode prog_5_method_2_code 6 = .ok (.iconst 0, 1) := by decide +kernel
theorem dPapers_start_7 : decode prog_5_method_2_code 7 = .ok (.putfield 52, 3) := by decide +kernel
theorem dPapers_start_10 : decode prog_5_method_2_code 10 = .ok (.aload_n 0, 1) := by decide +kernel
theorem dPapers_start_11 : decode prog_5_method_2_code 11 = .ok (.iconst 0, 1) := by decide +kernel
theorem dPapers_start_12 : decode prog_5_method_2_code 12 = .ok (.putfield 55, 3) := by decide +kernel
theorem dPapers_start_15 : decode prog_5_method_2_code 15 = .ok (.aload_n 0, 1) := by decide +kernel
theorem dPapers_start_16 : decode prog_5_method_2_code 16 = .ok (.getfield 45, 3) := by decide +kernel
theorem dPapers_start_19 : decode prog_5_method_2_code 19 = .ok (.iconst 0, 1) := by decide +kernel
theorem dPapers_start_20 : decode prog_5_method_2_code 20 = .ok (.invokestatic 58, 3) := by decide +kernel
theorem dPapers_start_23 : decode prog_5_method_2_code 23 = .ok (.aload_n 0, 1) := by decide +kernel
theorem dPapers_start_24 : decode prog_5_method_2_code 24 = .ok (.getfield 39, 3) := by decide +kernel
theorem dPapers_start_27 : decode prog_5_method_2_code 27 = .ok (.ldc 64, 2) := by decide +kernel
theorem dPapers_start_29 : decode prog_5_method_2_code 29 = .ok (.invokestatic 58, 3) := by decide +kernel
theorem dPapers_start_32 : decode prog_5_method_2_code 32 = .ok (.iconst 0, 1) := by decide +kernel
theorem dPapers_start_33 : decode prog_5_method_2_code 33 = .ok (.istore_n 3, 1) := by decide +kernel
theorem dPapers_start_34 : decode prog_5_method_2_code 34 = .ok (.iload_n 3, 1) := by decide +kernel
theorem dPapers_start_35 : decode prog_5_method_2_code 35 = .ok (.aload_n 1, 1) := by decide +kernel
theorem dPapers_start_36 : decode prog_5_method_2_code 36 = .ok (.getfield 65, 3) := by decide +kernel
theorem dPapers_start_39 : decode prog_5_method_2_code 39 = .ok (.if_icmp .ge 63, 3) := by decide +kernel
theorem dPapers_start_42 : decode prog_5_method_2_code 42 = .ok (.aload_n 1, 1) := by decide +kernel
theorem dPapers_start_43 : decode prog_5_method_2_code 43 = .ok (.getfield 68, 3) := by decide +kernel
theorem dPapers_start_46 : decode prog_5_method_2_code 46 = .ok (.iload_n 3, 1) := by decide +kernel
theorem dPapers_start_47 : decode prog_5_method_2_code 47 = .ok (.iaload, 1) := by decide +kernel
theorem dPapers_start_48 : decode prog_5_method_2_code 48 = .ok (.istore 4, 2) := by decide +kernel
theorem dPapers_start_50 : decode prog_5_method_2_code 50 = .ok (.aload_n 1, 1) := by decide +kernel
theorem dPapers_start_51 : decode prog_5_method_2_code 51 = .ok (.iload_n 3, 1) := by decide +kernel
theorem dPapers_start_52 : decode prog_5_method_2_code 52 = .ok (.iconst 1, 1) := by decide +kernel
theorem dPapers_start_53 : decode prog_5_method_2_code 53 = .ok (.iload_n 2, 1) := by decide +kernel
theorem dPapers_start_54 : decode prog_5_method_2_code 54 = .ok (.invokevirtual 71, 3) := by decide +kernel
theorem dPapers_start_57 : decode prog_5_method_2_code 57 = .ok (.ifCond .eq 39, 3) := by decide +kernel
theorem dPapers_start_60 : decode prog_5_method_2_code 60 = .ok (.iload 4, 2) := by decide +kernel
theorem dPapers_start_62 : decode prog_5_method_2_code 62 = .ok (.ifCond .lt 34, 3) := by decide +kernel
theorem dPapers_start_65 : decode prog_5_method_2_code 65 = .ok (.iload 4, 2) := by decide +kernel
theorem dPapers_start_67 : decode prog_5_method_2_code 67 = .ok (.sipush 1440, 3) := by decide +kernel
theorem dPapers_start_70 : decode prog_5_method_2_code 70 = .ok (.if_icmp .ge 26, 3) := by decide +kernel
theorem dPapers_start_73 : decode prog_5_method_2_code 73 = .ok (.aload_n 0, 1) := by decide +kernel
theorem dPapers_start_74 : decode prog_5_method_2_code 74 = .ok (.getfield 39, 3) := by decide +kernel
theorem dPapers_start_77 : decode prog_5_method_2_code 77 = .ok (.iload 4, 2) := by decide +kernel
theorem dPapers_start_79 : decode prog_5_method_2_code 79 = .ok (.aload_n 0, 1) := by decide +kernel
theorem dPapers_start_80 : decode prog_5_method_2_code 80 = .ok (.getfield 39, 3) := by decide +kernel
theorem dPapers_start_83 : decode prog_5_method_2_code 83 = .ok (.iload 4, 2) := by decide +kernel
theorem dPapers_start_85 : decode prog_5_method_2_code 85 = .ok (.iaload, 1) := by decide +kernel
theorem dPapers_start_86 : decode prog_5_method_2_code 86 = .ok (.aload_n 1, 1) := by decide +kernel
theorem dPapers_start_87 : decode prog_5_method_2_code 87 = .ok (.getfield 75, 3) := by decide +kernel
theorem dPapers_start_90 : decode prog_5_method_2_code 90 = .ok (.iload_n 3, 1) := by decide +kernel
theorem dPapers_start_91 : decode prog_5_method_2_code 91 = .ok (.iaload, 1) := by decide +kernel
theorem dPapers_start_92 : decode prog_5_method_2_code 92 = .ok (.invokestatic 78, 3) := by decide +kernel
theorem dPapers_start_95 : decode prog_5_method_2_code 95 = .ok (.iastore, 1) := by decide +kernel
theorem dPapers_start_96 : decode prog_5_method_2_code 96 = .ok (.iinc 3 1, 3) := by decide +kernel
theorem dPapers_start_99 : decode prog_5_method_2_code 99 = .ok (.goto (-65), 3) := by decide +kernel
theorem dPapers_start_102 : decode prog_5_method_2_code 102 = .ok (.return_, 1) := by decide +kernel
theorem dPapers_give_0 : decode prog_5_method_3_code 0 = .ok (.aload_n 0, 1) := by decide +kernel
theorem dPapers_give_1 : decode prog_5_method_3_code 1 = .ok (.getfield 48, 3) := by decide +kernel
theorem dPapers_give_4 : decode prog_5_method_3_code 4 = .ok (.sipush 1440, 3) := by decide +kernel
theorem dPapers_give_7 : decode prog_5_method_3_code 7 = .ok (.if_icmp .lt 4, 3) := by decide +kernel
theorem dPapers_give_10 : decode prog_5_method_3_code 10 = .ok (.return_, 1) := by decide +kernel
theorem dPapers_give_11 : decode prog_5_method_3_code 11 = .ok (.aload_n 0, 1) := by decide +kernel
theorem dPapers_give_12 : decode prog_5_method_3_code 12 = .ok (.getfield 48, 3) := by decide +kernel
theorem dPapers_give_15 : decode prog_5_method_3_code 15 = .ok (.istore 7, 2) := by decide +kernel
theorem dPapers_give_17 : decode prog_5_method_3_code 17 = .ok (.aload_n 0, 1) := by decide +kernel
theorem dPapers_give_18 : decode prog_5_method_3_code 18 = .ok (.dup, 1) := by decide +kernel
theorem dPapers_give_19 : decode prog_5_method_3_code 19 = .ok (.getfield 48, 3) := by decide +kernel
theorem dPapers_give_22 : decode prog_5_method_3_code 22 = .ok (.iconst 1, 1) := by decide +kernel
theorem dPapers_give_23 : decode prog_5_method_3_code 23 = .ok (.iadd, 1) := by decide +kernel
theorem dPapers_give_24 : decode prog_5_method_3_code 24 = .ok (.putfield 48, 3) := by decide +kernel
theorem dPapers_give_27 : decode prog_5_method_3_code 27 = .ok (.aload_n 0, 1) := by decide +kernel
theorem dPapers_give_28 : decode prog_5_method_3_code 28 = .ok (.getfield 9, 3) := by decide +kernel
theorem dPapers_give_31 : decode prog_5_method_3_code 31 = .ok (.iload 7, 2) := by decide +kernel
theorem dPapers_give_33 : decode prog_5_method_3_code 33 = .ok (.iload_n 1, 1) := by decide +kernel
theorem dPapers_give_34 : decode prog_5_method_3_code 34 = .ok (.iastore, 1) := by decide +kernel
theorem dPapers_give_35 : decode prog_5_method_3_code 35 = .ok (.aload_n 0, 1) := by decide +kernel
theorem dPapers_give_36 : decode prog_5_method_3_code 36 = .ok (.getfield 15, 3) := by decide +kernel
theorem dPapers_give_39 : decode prog_5_method_3_code 39 = .ok (.iload 7, 2) := by decide +kernel
theorem dPapers_give_41 : decode prog_5_method_3_code 41 = .ok (.iload_n 2, 1) := by decide +kernel
theorem dPapers_give_42 : decode prog_5_method_3_code 42 = .ok (.iastore, 1) := by decide +kernel
theorem dPapers_give_43 : decode prog_5_method_3_code 43 = .ok (.aload_n 0, 1) := by decide +kernel
theorem dPapers_give_44 : decode prog_5_method_3_code 44 = .ok (.getfield 18, 3) := by decide +kernel
theorem dPapers_give_47 : decode prog_5_method_3_code 47 = .ok (.iload 7, 2) := by decide +kernel
theorem dPapers_give_49 : decode prog_5_method_3_code 49 = .ok (.iload_n 3, 1) := by decide +kernel
theorem dPapers_give_50 : decode prog_5_method_3_code 50 = .ok (.iastore, 1) := by decide +kernel
theorem dPapers_give_51 : decode prog_5_method_3_code 51 = .ok (.aload_n 0, 1) := by decide +kernel
theorem dPapers_give_52 : decode prog_5_method_3_code 52 = .ok (.getfield 21, 3) := by decide +kernel
theorem dPapers_give_55 : decode prog_5_method_3_code 55 = .ok (.iload 7, 2) := by decide +kernel
theorem dPapers_give_57 : decode prog_5_method_3_code 57 = .ok (.iload 4, 2) := by decide +kernel
theorem dPapers_give_59 : decode prog_5_method_3_code 59 = .ok (.iastore, 1) := by decide +kernel
theorem dPapers_give_60 : decode prog_5_method_3_code 60 = .ok (.aload_n 0, 1) := by decide +kernel
theorem dPapers_give_61 : decode prog_5_method_3_code 61 = .ok (.getfield 24, 3) := by decide +kernel
theorem dPapers_give_64 : decode prog_5_method_3_code 64 = .ok (.iload 7, 2) := by decide +kernel
theorem dPapers_give_66 : decode prog_5_method_3_code 66 = .ok (.iload 5, 2) := by decide +kernel
theorem dPapers_give_68 : decode prog_5_method_3_code 68 = .ok (.iastore, 1) := by decide +kernel
theorem dPapers_give_69 : decode prog_5_method_3_code 69 = .ok (.aload_n 0, 1) := by decide +kernel
theorem dPapers_give_70 : decode prog_5_method_3_code 70 = .ok (.getfield 27, 3) := by decide +kernel
theorem dPapers_give_73 : decode prog_5_method_3_code 73 = .ok (.iload 7, 2) := by decide +kernel
theorem dPapers_give_75 : decode prog_5_method_3_code 75 = .ok (.iload 6, 2) := by decide +kernel
theorem dPapers_give_77 : decode prog_5_method_3_code 77 = .ok (.iastore, 1) := by decide +kernel
theorem dPapers_give_78 : decode prog_5_method_3_code 78 = .ok (.aload_n 0, 1) := by decide +kernel
theorem dPapers_give_79 : decode prog_5_method_3_code 79 = .ok (.getfield 30, 3) := by decide +kernel
theorem dPapers_give_82 : decode prog_5_method_3_code 82 = .ok (.iload 7, 2) := by decide +kernel
theorem dPapers_give_84 : decode prog_5_method_3_code 84 = .ok (.iconst (-1), 1) := by decide +kernel
theorem dPapers_give_85 : decode prog_5_method_3_code 85 = .ok (.iastore, 1) := by decide +kernel
theorem dPapers_give_86 : decode prog_5_method_3_code 86 = .ok (.aload_n 0, 1) := by decide +kernel
theorem dPapers_give_87 : decode prog_5_method_3_code 87 = .ok (.getfield 33, 3) := by decide +kernel
theorem dPapers_give_90 : decode prog_5_method_3_code 90 = .ok (.iload 7, 2) := by decide +kernel
theorem dPapers_give_92 : decode prog_5_method_3_code 92 = .ok (.aload_n 0, 1) := by decide +kernel
theorem dPapers_give_93 : decode prog_5_method_3_code 93 = .ok (.getfield 39, 3) := by decide +kernel
theorem dPapers_give_96 : decode prog_5_method_3_code 96 = .ok (.iload 7, 2) := by decide +kernel
theorem dPapers_give_98 : decode prog_5_method_3_code 98 = .ok (.iaload, 1) := by decide +kernel
theorem dPapers_give_99 : decode prog_5_method_3_code 99 = .ok (.iload 4, 2) := by decide +kernel
theorem dPapers_give_101 : decode prog_5_method_3_code 101 = .ok (.if_icmp .gt 7, 3) := by decide +kernel
theorem dPapers_give_104 : decode prog_5_method_3_code 104 = .ok (.iconst 1, 1) := by decide +kernel
theorem dPapers_give_105 : decode prog_5_method_3_code 105 = .ok (.goto 4, 3) := by decide +kernel
theorem dPapers_give_108 : decode prog_5_method_3_code 108 = .ok (.iconst 0, 1) := by decide +kernel
theorem dPapers_give_109 : decode prog_5_method_3_code 109 = .ok (.iastore, 1) := by decide +kernel
theorem dPapers_give_110 : decode prog_5_method_3_code 110 = .ok (.aload_n 0, 1) := by decide +kernel
theorem dPapers_give_111 : decode prog_5_method_3_code 111 = .ok (.getfield 33, 3) := by decide +kernel
theorem dPapers_give_114 : decode prog_5_method_3_code 114 = .ok (.iload 7, 2) := by decide +kernel
theorem dPapers_give_116 : decode prog_5_method_3_code 116 = .ok (.iaload, 1) := by decide +kernel
theorem dPapers_give_117 : decode prog_5_method_3_code 117 = .ok (.ifCond .ne 44, 3) := by decide +kernel
theorem dPapers_give_120 : decode prog_5_method_3_code 120 = .ok (.aload_n 0, 1) := by decide +kernel
theorem dPapers_give_121 : decode prog_5_method_3_code 121 = .ok (.getfield 42, 3) := by decide +kernel
theorem dPapers_give_124 : decode prog_5_method_3_code 124 = .ok (.aload_n 0, 1) := by decide +kernel
theorem dPapers_give_125 : decode prog_5_method_3_code 125 = .ok (.getfield 52, 3) := by decide +kernel
theorem dPapers_give_128 : decode prog_5_method_3_code 128 = .ok (.iload 7, 2) := by decide +kernel
theorem dPapers_give_130 : decode prog_5_method_3_code 130 = .ok (.iastore, 1) := by decide +kernel
theorem dPapers_give_131 : decode prog_5_method_3_code 131 = .ok (.aload_n 0, 1) := by decide +kernel
theorem dPapers_give_132 : decode prog_5_method_3_code 132 = .ok (.dup, 1) := by decide +kernel
theorem dPapers_give_133 : decode prog_5_method_3_code 133 = .ok (.getfield 52, 3) := by decide +kernel
theorem dPapers_give_136 : decode prog_5_method_3_code 136 = .ok (.iconst 1, 1) := by decide +kernel
theorem dPapers_give_137 : decode prog_5_method_3_code 137 = .ok (.iadd, 1) := by decide +kernel
theorem dPapers_give_138 : decode prog_5_method_3_code 138 = .ok (.putfield 52, 3) := by decide +kernel
theorem dPapers_give_141 : decode prog_5_method_3_code 141 = .ok (.aload_n 0, 1) := by decide +kernel
theorem dPapers_give_142 : decode prog_5_method_3_code 142 = .ok (.dup, 1) := by decide +kernel
theorem dPapers_give_143 : decode prog_5_method_3_code 143 = .ok (.getfield 55, 3) := by decide +kernel
theorem dPapers_give_146 : decode prog_5_method_3_code 146 = .ok (.iload_n 3, 1) := by decide +kernel
theorem dPapers_give_147 : decode prog_5_method_3_code 147 = .ok (.iadd, 1) := by decide +kernel
theorem dPapers_give_148 : decode prog_5_method_3_code 148 = .ok (.putfield 55, 3) := by decide +kernel
theorem dPapers_give_151 : decode prog_5_method_3_code 151 = .ok (.aload_n 0, 1) := by decide +kernel
theorem dPapers_give_152 : decode prog_5_method_3_code 152 = .ok (.getfield 45, 3) := by decide +kernel
theorem dPapers_give_155 : decode prog_5_method_3_code 155 = .ok (.iload_n 2, 1) := by decide +kernel
theorem dPapers_give_156 : decode prog_5_method_3_code 156 = .ok (.dup2, 1) := by decide +kernel
theorem dPapers_give_157 : decode prog_5_method_3_code 157 = .ok (.iaload, 1) := by decide +kernel
theorem dPapers_give_158 : decode prog_5_method_3_code 158 = .ok (.iload_n 3, 1) := by decide +kernel
theorem dPapers_give_159 : decode prog_5_method_3_code 159 = .ok (.iadd, 1) := by decide +kernel
theorem dPapers_give_160 : decode prog_5_method_3_code 160 = .ok (.iastore, 1) := by decide +kernel
theorem dPapers_give_161 : decode prog_5_method_3_code 161 = .ok (.return_, 1) := by decide +kernel
theorem dPapers_isWaiting_0 : decode prog_5_method_4_code 0 = .ok (.aload_n 0, 1) := by decide +kernel
theorem dPapers_isWaiting_1 : decode prog_5_method_4_code 1 = .ok (.getfield 33, 3) := by decide +kernel
theorem dPapers_isWaiting_4 : decode prog_5_method_4_code 4 = .ok (.iload_n 1, 1) := by decide +kernel
theorem dPapers_isWaiting_5 : decode prog_5_method_4_code 5 = .ok (.iaload, 1) := by decide +kernel
theorem dPapers_isWaiting_6 : decode prog_5_method_4_code 6 = .ok (.ifCond .ne 17, 3) := by decide +kernel
theorem dPapers_isWaiting_9 : decode prog_5_method_4_code 9 = .ok (.aload_n 0, 1) := by decide +kernel
theorem dPapers_isWaiting_10 : decode prog_5_method_4_code 10 = .ok (.getfield 30, 3) := by decide +kernel
theorem dPapers_isWaiting_13 : decode prog_5_method_4_code 13 = .ok (.iload_n 1, 1) := by decide +kernel
theorem dPapers_isWaiting_14 : decode prog_5_method_4_code 14 = .ok (.iaload, 1) := by decide +kernel
theorem dPapers_isWaiting_15 : decode prog_5_method_4_code 15 = .ok (.iconst (-1), 1) := by decide +kernel
theorem dPapers_isWaiting_16 : decode prog_5_method_4_code 16 = .ok (.if_icmp .ne 7, 3) := by decide +kernel
theorem dPapers_isWaiting_19 : decode prog_5_method_4_code 19 = .ok (.iconst 1, 1) := by decide +kernel
theorem dPapers_isWaiting_20 : decode prog_5_method_4_code 20 = .ok (.goto 4, 3) := by decide +kernel
theorem dPapers_isWaiting_23 : decode prog_5_method_4_code 23 = .ok (.iconst 0, 1) := by decide +kernel
theorem dPapers_isWaiting_24 : decode prog_5_method_4_code 24 = .ok (.ireturn, 1) := by decide +kernel
theorem dPapers_stopWaiting_0 : decode prog_5_method_5_code 0 = .ok (.aload_n 0, 1) := by decide +kernel
theorem dPapers_stopWaiting_1 : decode prog_5_method_5_code 1 = .ok (.dup, 1) := by decide +kernel
theorem dPapers_stopWaiting_2 : decode prog_5_method_5_code 2 = .ok (.getfield 55, 3) := by decide +kernel
theorem dPapers_stopWaiting_5 : decode prog_5_method_5_code 5 = .ok (.aload_n 0, 1) := by decide +kernel
theorem dPapers_stopWaiting_6 : decode prog_5_method_5_code 6 = .ok (.getfield 18, 3) := by decide +kernel
theorem dPapers_stopWaiting_9 : decode prog_5_method_5_code 9 = .ok (.iload_n 1, 1) := by decide +kernel
theorem dPapers_stopWaiting_10 : decode prog_5_method_5_code 10 = .ok (.iaload, 1) := by decide +kernel
theorem dPapers_stopWaiting_11 : decode prog_5_method_5_code 11 = .ok (.isub, 1) := by decide +kernel
theorem dPapers_stopWaiting_12 : decode prog_5_method_5_code 12 = .ok (.putfield 55, 3) := by decide +kernel
theorem dPapers_stopWaiting_15 : decode prog_5_method_5_code 15 = .ok (.aload_n 0, 1) := by decide +kernel
theorem dPapers_stopWaiting_16 : decode prog_5_method_5_code 16 = .ok (.getfield 45, 3) := by decide +kernel
theorem dPapers_stopWaiting_19 : decode prog_5_method_5_code 19 = .ok (.aload_n 0, 1) := by decide +kernel
theorem dPapers_stopWaiting_20 : decode prog_5_method_5_code 20 = .ok (.getfield 15, 3) := by decide +kernel
theorem dPapers_stopWaiting_23 : decode prog_5_method_5_code 23 = .ok (.iload_n 1, 1) := by decide +kernel
theorem dPapers_stopWaiting_24 : decode prog_5_method_5_code 24 = .ok (.iaload, 1) := by decide +kernel
theorem dPapers_stopWaiting_25 : decode prog_5_method_5_code 25 = .ok (.dup2, 1) := by decide +kernel
theorem dPapers_stopWaiting_26 : decode prog_5_method_5_code 26 = .ok (.iaload, 1) := by decide +kernel
theorem dPapers_stopWaiting_27 : decode prog_5_method_5_code 27 = .ok (.aload_n 0, 1) := by decide +kernel
theorem dPapers_stopWaiting_28 : decode prog_5_method_5_code 28 = .ok (.getfield 18, 3) := by decide +kernel
theorem dPapers_stopWaiting_31 : decode prog_5_method_5_code 31 = .ok (.iload_n 1, 1) := by decide +kernel
theorem dPapers_stopWaiting_32 : decode prog_5_method_5_code 32 = .ok (.iaload, 1) := by decide +kernel
theorem dPapers_stopWaiting_33 : decode prog_5_method_5_code 33 = .ok (.isub, 1) := by decide +kernel
theorem dPapers_stopWaiting_34 : decode prog_5_method_5_code 34 = .ok (.iastore, 1) := by decide +kernel
theorem dPapers_stopWaiting_35 : decode prog_5_method_5_code 35 = .ok (.return_, 1) := by decide +kernel
theorem dPapers_lose_0 : decode prog_5_method_6_code 0 = .ok (.aload_n 0, 1) := by decide +kernel
theorem dPapers_lose_1 : decode prog_5_method_6_code 1 = .ok (.iload_n 1, 1) := by decide +kernel
theorem dPapers_lose_2 : decode prog_5_method_6_code 2 = .ok (.invokevirtual 84, 3) := by decide +kernel
theorem dPapers_lose_5 : decode prog_5_method_6_code 5 = .ok (.ifCond .eq 15, 3) := by decide +kernel
theorem dPapers_lose_8 : decode prog_5_method_6_code 8 = .ok (.aload_n 0, 1) := by decide +kernel
theorem dPapers_lose_9 : decode prog_5_method_6_code 9 = .ok (.iload_n 1, 1) := by decide +kernel
theorem dPapers_lose_10 : decode prog_5_method_6_code 10 = .ok (.invokevirtual 88, 3) := by decide +kernel
theorem dPapers_lose_13 : decode prog_5_method_6_code 13 = .ok (.aload_n 0, 1) := by decide +kernel
theorem dPapers_lose_14 : decode prog_5_method_6_code 14 = .ok (.getfield 33, 3) := by decide +kernel
theorem dPapers_lose_17 : decode prog_5_method_6_code 17 = .ok (.iload_n 1, 1) := by decide +kernel
theorem dPapers_lose_18 : decode prog_5_method_6_code 18 = .ok (.iconst 1, 1) := by decide +kernel
theorem dPapers_lose_19 : decode prog_5_method_6_code 19 = .ok (.iastore, 1) := by decide +kernel
theorem dPapers_lose_20 : decode prog_5_method_6_code 20 = .ok (.return_, 1) := by decide +kernel
theorem dPapers_draw_0 : decode prog_5_method_7_code 0 = .ok (.aload_n 0, 1) := by decide +kernel
theorem dPapers_draw_1 : decode prog_5_method_7_code 1 = .ok (.iload_n 1, 1) := by decide +kernel
theorem dPapers_draw_2 : decode prog_5_method_7_code 2 = .ok (.invokevirtual 88, 3) := by decide +kernel
theorem dPapers_draw_5 : decode prog_5_method_7_code 5 = .ok (.aload_n 0, 1) := by decide +kernel
theorem dPapers_draw_6 : decode prog_5_method_7_code 6 = .ok (.getfield 30, 3) := by decide +kernel
theorem dPapers_draw_9 : decode prog_5_method_7_code 9 = .ok (.iload_n 1, 1) := by decide +kernel
theorem dPapers_draw_10 : decode prog_5_method_7_code 10 = .ok (.iload_n 2, 1) := by decide +kernel
theorem dPapers_draw_11 : decode prog_5_method_7_code 11 = .ok (.iastore, 1) := by decide +kernel
theorem dPapers_draw_12 : decode prog_5_method_7_code 12 = .ok (.return_, 1) := by decide +kernel
theorem dPapers_loseForged_0 : decode prog_5_method_8_code 0 = .ok (.iconst 0, 1) := by decide +kernel
theorem dPapers_loseForged_1 : decode prog_5_method_8_code 1 = .ok (.istore_n 2, 1) := by decide +kernel
theorem dPapers_loseForged_2 : decode prog_5_method_8_code 2 = .ok (.iload_n 2, 1) := by decide +kernel
theorem dPapers_loseForged_3 : decode prog_5_method_8_code 3 = .ok (.aload_n 0, 1) := by decide +kernel
theorem dPapers_loseForged_4 : decode prog_5_method_8_code 4 = .ok (.getfield 52, 3) := by decide +kernel
theorem dPapers_loseForged_7 : decode prog_5_method_8_code 7 = .ok (.if_icmp .ge 34, 3) := by decide +kernel
theorem dPapers_loseForged_10 : decode prog_5_method_8_code 10 = .ok (.aload_n 0, 1) := by decide +kernel
theorem dPapers_loseForged_11 : decode prog_5_method_8_code 11 = .ok (.getfield 39, 3) := by decide +kernel
theorem dPapers_loseForged_14 : decode prog_5_method_8_code 14 = .ok (.aload_n 0, 1) := by decide +kernel
theorem dPapers_loseForged_15 : decode prog_5_method_8_code 15 = .ok (.getfield 42, 3) := by decide +kernel
theorem dPapers_loseForged_18 : decode prog_5_method_8_code 18 = .ok (.iload_n 2, 1) := by decide +kernel
theorem dPapers_loseForged_19 : decode prog_5_method_8_code 19 = .ok (.iaload, 1) := by decide +kernel
theorem dPapers_loseForged_20 : decode prog_5_method_8_code 20 = .ok (.iaload, 1) := by decide +kernel
theorem dPapers_loseForged_21 : decode prog_5_method_8_code 21 = .ok (.iload_n 1, 1) := by decide +kernel
theorem dPapers_loseForged_22 : decode prog_5_method_8_code 22 = .ok (.if_icmp .gt 13, 3) := by decide +kernel
theorem dPapers_loseForged_25 : decode prog_5_method_8_code 25 = .ok (.aload_n 0, 1) := by decide +kernel
theorem dPapers_loseForged_26 : decode prog_5_method_8_code 26 = .ok (.aload_n 0, 1) := by decide +kernel
theorem dPapers_loseForged_27 : decode prog_5_method_8_code 27 = .ok (.getfield 42, 3) := by decide +kernel
theorem dPapers_loseForged_30 : decode prog_5_method_8_code 30 = .ok (.iload_n 2, 1) := by decide +kernel
theorem dPapers_loseForged_31 : decode prog_5_method_8_code 31 = .ok (.iaload, 1) := by decide +kernel
theorem dPapers_loseForged_32 : decode prog_5_method_8_code 32 = .ok (.invokevirtual 92, 3) := by decide +kernel
theorem dPapers_loseForged_35 : decode prog_5_method_8_code 35 = .ok (.iinc 2 1, 3) := by decide +kernel
theorem dPapers_loseForged_38 : decode prog_5_method_8_code 38 = .ok (.goto (-36), 3) := by decide +kernel
theorem dPapers_loseForged_41 : decode prog_5_method_8_code 41 = .ok (.return_, 1) := by decide +kernel
theorem dPapers_leaveTo_0 : decode prog_5_method_9_code 0 = .ok (.iconst 0, 1) := by decide +kernel
theorem dPapers_leaveTo_1 : decode prog_5_method_9_code 1 = .ok (.istore_n 3, 1) := by decide +kernel
theorem dPapers_leaveTo_2 : decode prog_5_method_9_code 2 = .ok (.iload_n 3, 1) := by decide +kernel
theorem dPapers_leaveTo_3 : decode prog_5_method_9_code 3 = .ok (.aload_n 0, 1) := by decide +kernel
theorem dPapers_leaveTo_4 : decode prog_5_method_9_code 4 = .ok (.getfield 52, 3) := by decide +kernel
theorem dPapers_leaveTo_7 : decode prog_5_method_9_code 7 = .ok (.if_icmp .ge 56, 3) := by decide +kernel
theorem dPapers_leaveTo_10 : decode prog_5_method_9_code 10 = .ok (.aload_n 0, 1) := by decide +kernel
theorem dPapers_leaveTo_11 : decode prog_5_method_9_code 11 = .ok (.getfield 42, 3) := by decide +kernel
theorem dPapers_leaveTo_14 : decode prog_5_method_9_code 14 = .ok (.iload_n 3, 1) := by decide +kernel
theorem dPapers_leaveTo_15 : decode prog_5_method_9_code 15 = .ok (.iaload, 1) := by decide +kernel
theorem dPapers_leaveTo_16 : decode prog_5_method_9_code 16 = .ok (.istore 4, 2) := by decide +kernel
theorem dPapers_leaveTo_18 : decode prog_5_method_9_code 18 = .ok (.aload_n 0, 1) := by decide +kernel
theorem dPapers_leaveTo_19 : decode prog_5_method_9_code 19 = .ok (.getfield 9, 3) := by decide +kernel
theorem dPapers_leaveTo_22 : decode prog_5_method_9_code 22 = .ok (.iload 4, 2) := by decide +kernel
theorem dPapers_leaveTo_24 : decode prog_5_method_9_code 24 = .ok (.iaload, 1) := by decide +kernel
theorem dPapers_leaveTo_25 : decode prog_5_method_9_code 25 = .ok (.iload_n 2, 1) := by decide +kernel
theorem dPapers_leaveTo_26 : decode prog_5_method_9_code 26 = .ok (.if_icmp .ne 31, 3) := by decide +kernel
theorem dPapers_leaveTo_29 : decode prog_5_method_9_code 29 = .ok (.aload_n 0, 1) := by decide +kernel
theorem dPapers_leaveTo_30 : decode prog_5_method_9_code 30 = .ok (.iload 4, 2) := by decide +kernel
theorem dPapers_leaveTo_32 : decode prog_5_method_9_code 32 = .ok (.invokevirtual 84, 3) := by decide +kernel
theorem dPapers_leaveTo_35 : decode prog_5_method_9_code 35 = .ok (.ifCond .eq 22, 3) := by decide +kernel
theorem dPapers_leaveTo_38 : decode prog_5_method_9_code 38 = .ok (.aload_n 0, 1) := by decide +kernel
theorem dPapers_leaveTo_39 : decode prog_5_method_9_code 39 = .ok (.getfield 9, 3) := by decide +kernel
theorem dPapers_leaveTo_42 : decode prog_5_method_9_code 42 = .ok (.iload 4, 2) := by decide +kernel
theorem dPapers_leaveTo_44 : decode prog_5_method_9_code 44 = .ok (.iload_n 1, 1) := by decide +kernel
theorem dPapers_leaveTo_45 : decode prog_5_method_9_code 45 = .ok (.iastore, 1) := by decide +kernel
theorem dPapers_leaveTo_46 : decode prog_5_method_9_code 46 = .ok (.iload_n 1, 1) := by decide +kernel
theorem dPapers_leaveTo_47 : decode prog_5_method_9_code 47 = .ok (.iconst (-1), 1) := by decide +kernel
theorem dPapers_leaveTo_48 : decode prog_5_method_9_code 48 = .ok (.if_icmp .ne 9, 3) := by decide +kernel
theorem dPapers_leaveTo_51 : decode prog_5_method_9_code 51 = .ok (.aload_n 0, 1) := by decide +kernel
theorem dPapers_leaveTo_52 : decode prog_5_method_9_code 52 = .ok (.iload 4, 2) := by decide +kernel
theorem dPapers_leaveTo_54 : decode prog_5_method_9_code 54 = .ok (.invokevirtual 92, 3) := by decide +kernel
theorem dPapers_leaveTo_57 : decode prog_5_method_9_code 57 = .ok (.iinc 3 1, 3) := by decide +kernel
theorem dPapers_leaveTo_60 : decode prog_5_method_9_code 60 = .ok (.goto (-58), 3) := by decide +kernel
theorem dPapers_leaveTo_63 : decode prog_5_method_9_code 63 = .ok (.return_, 1) := by decide +kernel
theorem dPapers_closeQueue_0 : decode prog_5_method_10_code 0 = .ok (.iconst 0, 1) := by decide +kernel
theorem dPapers_closeQueue_1 : decode prog_5_method_10_code 1 = .ok (.istore_n 1, 1) := by decide +kernel
theorem dPapers_closeQueue_2 : decode prog_5_method_10_code 2 = .ok (.iconst 0, 1) := by decide +kernel
theorem dPapers_closeQueue_3 : decode prog_5_method_10_code 3 = .ok (.istore_n 2, 1) := by decide +kernel
theorem dPapers_closeQueue_4 : decode prog_5_method_10_code 4 = .ok (.iload_n 2, 1) := by decide +kernel
theorem dPapers_closeQueue_5 : decode prog_5_method_10_code 5 = .ok (.aload_n 0, 1) := by decide +kernel
theorem dPapers_closeQueue_6 : decode prog_5_method_10_code 6 = .ok (.getfield 52, 3) := by decide +kernel
theorem dPapers_closeQueue_9 : decode prog_5_method_10_code 9 = .ok (.if_icmp .ge 37, 3) := by decide +kernel
theorem dPapers_closeQueue_12 : decode prog_5_method_10_code 12 = .ok (.aload_n 0, 1) := by decide +kernel
theorem dPapers_closeQueue_13 : decode prog_5_method_10_code 13 = .ok (.aload_n 0, 1) := by decide +kernel
theorem dPapers_closeQueue_14 : decode prog_5_method_10_code 14 = .ok (.getfield 42, 3) := by decide +kernel
theorem dPapers_closeQueue_17 : decode prog_5_method_10_code 17 = .ok (.iload_n 2, 1) := by decide +kernel
theorem dPapers_closeQueue_18 : decode prog_5_method_10_code 18 = .ok (.iaload, 1) := by decide +kernel
theorem dPapers_closeQueue_19 : decode prog_5_method_10_code 19 = .ok (.invokevirtual 84, 3) := by decide +kernel
theorem dPapers_closeQueue_22 : decode prog_5_method_10_code 22 = .ok (.ifCond .eq 18, 3) := by decide +kernel
theorem dPapers_closeQueue_25 : decode prog_5_method_10_code 25 = .ok (.aload_n 0, 1) := by decide +kernel
theorem dPapers_closeQueue_26 : decode prog_5_method_10_code 26 = .ok (.getfield 42, 3) := by decide +kernel
theorem dPapers_closeQueue_29 : decode prog_5_method_10_code 29 = .ok (.iload_n 1, 1) := by decide +kernel
theorem dPapers_closeQueue_30 : decode prog_5_method_10_code 30 = .ok (.aload_n 0, 1) := by decide +kernel
theorem dPapers_closeQueue_31 : decode prog_5_method_10_code 31 = .ok (.getfield 42, 3) := by decide +kernel
theorem dPapers_closeQueue_34 : decode prog_5_method_10_code 34 = .ok (.iload_n 2, 1) := by decide +kernel
theorem dPapers_closeQueue_35 : decode prog_5_method_10_code 35 = .ok (.iaload, 1) := by decide +kernel
theorem dPapers_closeQueue_36 : decode prog_5_method_10_code 36 = .ok (.iastore, 1) := by decide +kernel
theorem dPapers_closeQueue_37 : decode prog_5_method_10_code 37 = .ok (.iinc 1 1, 3) := by decide +kernel
theorem dPapers_closeQueue_40 : decode prog_5_method_10_code 40 = .ok (.iinc 2 1, 3) := by decide +kernel
theorem dPapers_closeQueue_43 : decode prog_5_method_10_code 43 = .ok (.goto (-39), 3) := by decide +kernel
theorem dPapers_closeQueue_46 : decode prog_5_method_10_code 46 = .ok (.aload_n 0, 1) := by decide +kernel
theorem dPapers_closeQueue_47 : decode prog_5_method_10_code 47 = .ok (.iload_n 1, 1) := by decide +kernel
theorem dPapers_closeQueue_48 : decode prog_5_method_10_code 48 = .ok (.putfield 52, 3) := by decide +kernel
theorem dPapers_closeQueue_51 : decode prog_5_method_10_code 51 = .ok (.return_, 1) := by decide +kernel
theorem dPapers_detail_0 : decode prog_5_method_11_code 0 = .ok (.iload_n 2, 1) := by decide +kernel
theorem dPapers_detail_1 : decode prog_5_method_11_code 1 = .ok (.tableswitch 103 0 7 #[47, 54, 61, 68, 75, 82, 89, 96], 47) := by decide +kernel
theorem dPapers_detail_48 : decode prog_5_method_11_code 48 = .ok (.aload_n 0, 1) := by decide +kernel
theorem dPapers_detail_49 : decode prog_5_method_11_code 49 = .ok (.getfield 9, 3) := by decide +kernel
theorem dPapers_detail_52 : decode prog_5_method_11_code 52 = .ok (.iload_n 1, 1) := by decide +kernel
theorem dPapers_detail_53 : decode prog_5_method_11_code 53 = .ok (.iaload, 1) := by decide +kernel
theorem dPapers_detail_54 : decode prog_5_method_11_code 54 = .ok (.ireturn, 1) := by decide +kernel
theorem dPapers_detail_55 : decode prog_5_method_11_code 55 = .ok (.aload_n 0, 1) := by decide +kernel
theorem dPapers_detail_56 : decode prog_5_method_11_code 56 = .ok (.getfield 15, 3) := by decide +kernel
theorem dPapers_detail_59 : decode prog_5_method_11_code 59 = .ok (.iload_n 1, 1) := by decide +kernel
theorem dPapers_detail_60 : decode prog_5_method_11_code 60 = .ok (.iaload, 1) := by decide +kernel
theorem dPapers_detail_61 : decode prog_5_method_11_code 61 = .ok (.ireturn, 1) := by decide +kernel
theorem dPapers_detail_62 : decode prog_5_method_11_code 62 = .ok (.aload_n 0, 1) := by decide +kernel
theorem dPapers_detail_63 : decode prog_5_method_11_code 63 = .ok (.getfield 18, 3) := by decide +kernel
theorem dPapers_detail_66 : decode prog_5_method_11_code 66 = .ok (.iload_n 1, 1) := by decide +kernel
theorem dPapers_detail_67 : decode prog_5_method_11_code 67 = .ok (.iaload, 1) := by decide +kernel
theorem dPapers_detail_68 : decode prog_5_method_11_code 68 = .ok (.ireturn, 1) := by decide +kernel
theorem dPapers_detail_69 : decode prog_5_method_11_code 69 = .ok (.aload_n 0, 1) := by decide +kernel
theorem dPapers_detail_70 : decode prog_5_method_11_code 70 = .ok (.getfield 21, 3) := by decide +kernel
theorem dPapers_detail_73 : decode prog_5_method_11_code 73 = .ok (.iload_n 1, 1) := by decide +kernel
theorem dPapers_detail_74 : decode prog_5_method_11_code 74 = .ok (.iaload, 1) := by decide +kernel
theorem dPapers_detail_75 : decode prog_5_method_11_code 75 = .ok (.ireturn, 1) := by decide +kernel
theorem dPapers_detail_76 : decode prog_5_method_11_code 76 = .ok (.aload_n 0, 1) := by decide +kernel
theorem dPapers_detail_77 : decode prog_5_method_11_code 77 = .ok (.getfield 24, 3) := by decide +kernel
theorem dPapers_detail_80 : decode prog_5_method_11_code 80 = .ok (.iload_n 1, 1) := by decide +kernel
theorem dPapers_detail_81 : decode prog_5_method_11_code 81 = .ok (.iaload, 1) := by decide +kernel
theorem dPapers_detail_82 : decode prog_5_method_11_code 82 = .ok (.ireturn, 1) := by decide +kernel
theorem dPapers_detail_83 : decode prog_5_method_11_code 83 = .ok (.aload_n 0, 1) := by decide +kernel
theorem dPapers_detail_84 : decode prog_5_method_11_code 84 = .ok (.getfield 27, 3) := by decide +kernel
theorem dPapers_detail_87 : decode prog_5_method_11_code 87 = .ok (.iload_n 1, 1) := by decide +kernel
theorem dPapers_detail_88 : decode prog_5_method_11_code 88 = .ok (.iaload, 1) := by decide +kernel
theorem dPapers_detail_89 : decode prog_5_method_11_code 89 = .ok (.ireturn, 1) := by decide +kernel
theorem dPapers_detail_90 : decode prog_5_method_11_code 90 = .ok (.aload_n 0, 1) := by decide +kernel
theorem dPapers_detail_91 : decode prog_5_method_11_code 91 = .ok (.getfield 30, 3) := by decide +kernel
theorem dPapers_detail_94 : decode prog_5_method_11_code 94 = .ok (.iload_n 1, 1) := by decide +kernel
theorem dPapers_detail_95 : decode prog_5_method_11_code 95 = .ok (.iaload, 1) := by decide +kernel
theorem dPapers_detail_96 : decode prog_5_method_11_code 96 = .ok (.ireturn, 1) := by decide +kernel
theorem dPapers_detail_97 : decode prog_5_method_11_code 97 = .ok (.aload_n 0, 1) := by decide +kernel
theorem dPapers_detail_98 : decode prog_5_method_11_code 98 = .ok (.getfield 33, 3) := by decide +kernel
theorem dPapers_detail_101 : decode prog_5_method_11_code 101 = .ok (.iload_n 1, 1) := by decide +kernel
theorem dPapers_detail_102 : decode prog_5_method_11_code 102 = .ok (.iaload, 1) := by decide +kernel
theorem dPapers_detail_103 : decode prog_5_method_11_code 103 = .ok (.ireturn, 1) := by decide +kernel
theorem dPapers_detail_104 : decode prog_5_method_11_code 104 = .ok (.iconst (-1), 1) := by decide +kernel
theorem dPapers_detail_105 : decode prog_5_method_11_code 105 = .ok (.ireturn, 1) := by decide +kernel
theorem dRealm_init_0 : decode prog_6_method_1_code 0 = .ok (.aload_n 0, 1) := by decide +kernel
theorem dRealm_init_1 : decode prog_6_method_1_code 1 = .ok (.invokespecial 3, 3) := by decide +kernel
theorem dRealm_init_4 : decode prog_6_method_1_code 4 = .ok (.aload_n 0, 1) := by decide +kernel
theorem dRealm_init_5 : decode prog_6_method_1_code 5 = .ok (.iconst 3, 1) := by decide +kernel
theorem dRealm_init_6 : decode prog_6_method_1_code 6 = .ok (.newarray .int, 2) := by decide +kernel
theorem dRealm_init_8 : decode prog_6_method_1_code 8 = .ok (.putfield 9, 3) := by decide +kernel
theorem dRealm_init_11 : decode prog_6_method_1_code 11 = .ok (.aload_n 0, 1) := by decide +kernel
theorem dRealm_init_12 : decode prog_6_method_1_code 12 = .ok (.iconst 3, 1) := by decide +kernel
theorem dRealm_init_13 : decode prog_6_method_1_code 13 = .ok (.newarray .int, 2) := by decide +kernel
theorem dRealm_init_15 : decode prog_6_method_1_code 15 = .ok (.putfield 15, 3) := by decide +kernel
theorem dRealm_init_18 : decode prog_6_method_1_code 18 = .ok (.aload_n 0, 1) := by decide +kernel
theorem dRealm_init_19 : decode prog_6_method_1_code 19 = .ok (.iconst 3, 1) := by decide +kernel
theorem dRealm_init_20 : decode prog_6_method_1_code 20 = .ok (.newarray .int, 2) := by decide +kernel
theorem dRealm_init_22 : decode prog_6_method_1_code 22 = .ok (.putfield 18, 3) := by decide +kernel
theorem dRealm_init_25 : decode prog_6_method_1_code 25 = .ok (.aload_n 0, 1) := by decide +kernel
theorem dRealm_init_26 : decode prog_6_method_1_code 26 = .ok (.iconst 5, 1) := by decide +kernel
theorem dRealm_init_27 : decode prog_6_method_1_code 27 = .ok (.newarray .int, 2) := by decide +kernel
theorem dRealm_init_29 : decode prog_6_method_1_code 29 = .ok (.putfield 21, 3) := by decide +kernel
theorem dRealm_init_32 : decode prog_6_method_1_code 32 = .ok (.aload_n 0, 1) := by decide +kernel
theorem dRealm_init_33 : decode prog_6_method_1_code 33 = .ok (.iconst 5, 1) := by decide +kernel
theorem dRealm_init_34 : decode prog_6_method_1_code 34 = .ok (.newarray .int, 2) := by decide +kernel
theorem dRealm_init_36 : decode prog_6_method_1_code 36 = .ok (.putfield 24, 3) := by decide +kernel
theorem dRealm_init_39 : decode prog_6_method_1_code 39 = .ok (.aload_n 0, 1) := by decide +kernel
theorem dRealm_init_40 : decode prog_6_method_1_code 40 = .ok (.iconst 5, 1) := by decide +kernel
theorem dRealm_init_41 : decode prog_6_method_1_code 41 = .ok (.newarray .int, 2) := by decide +kernel
theorem dRealm_init_43 : decode prog_6_method_1_code 43 = .ok (.putfield 27, 3) := by decide +kernel
theorem dRealm_init_46 : decode prog_6_method_1_code 46 = .ok (.return_, 1) := by decide +kernel
theorem dRealm_start_0 : decode prog_6_method_2_code 0 = .ok (.aload_n 1, 1) := by decide +kernel
theorem dRealm_start_1 : decode prog_6_method_2_code 1 = .ok (.getfield 30, 3) := by decide +kernel
theorem dRealm_start_4 : decode prog_6_method_2_code 4 = .ok (.iconst 0, 1) := by decide +kernel
theorem dRealm_start_5 : decode prog_6_method_2_code 5 = .ok (.aload_n 0, 1) := by decide +kernel
theorem dRealm_start_6 : decode prog_6_method_2_code 6 = .ok (.getfield 9, 3) := by decide +kernel
theorem dRealm_start_9 : decode prog_6_method_2_code 9 = .ok (.iconst 0, 1) := by decide +kernel
theorem dRealm_start_10 : decode prog_6_method_2_code 10 = .ok (.iconst 3, 1) := by decide +kernel
theorem dRealm_start_11 : decode prog_6_method_2_code 11 = .ok (.invokestatic 35, 3) := by decide +kernel
theorem dRealm_start_14 : decode prog_6_method_2_code 14 = .ok (.aload_n 0, 1) := by decide +kernel
theorem dRealm_start_15 : decode prog_6_method_2_code 15 = .ok (.getfield 18, 3) := by decide +kernel
theorem dRealm_start_18 : decode prog_6_method_2_code 18 = .ok (.iconst 0, 1) := by decide +kernel
theorem dRealm_start_19 : decode prog_6_method_2_code 19 = .ok (.invokestatic 41, 3) := by decide +kernel
theorem dRealm_start_22 : decode prog_6_method_2_code 22 = .ok (.aload_n 0, 1) := by decide +kernel
theorem dRealm_start_23 : decode prog_6_method_2_code 23 = .ok (.getfield 21, 3) := by decide +kernel
theorem dRealm_start_26 : decode prog_6_method_2_code 26 = .ok (.iconst 0, 1) := by decide +kernel
theorem dRealm_start_27 : decode prog_6_method_2_code 27 = .ok (.invokestatic 41, 3) := by decide +kernel
theorem dRealm_start_30 : decode prog_6_method_2_code 30 = .ok (.return_, 1) := by decide +kernel
theorem dRealm_refillGrain_0 : decode prog_6_method_3_code 0 = .ok (.aload_n 1, 1) := by decide +kernel
theorem dRealm_refillGrain_1 : decode prog_6_method_3_code 1 = .ok (.getfield 47, 3) := by decide +kernel
theorem dRealm_refillGrain_4 : decode prog_6_method_3_code 4 = .ok (.iconst 0, 1) := by decide +kernel
theorem dRealm_refillGrain_5 : decode prog_6_method_3_code 5 = .ok (.aload_n 0, 1) := by decide +kernel
theorem dRealm_refillGrain_6 : decode prog_6_method_3_code 6 = .ok (.getfield 27, 3) := by decide +kernel
theorem dRealm_refillGrain_9 : decode prog_6_method_3_code 9 = .ok (.iconst 0, 1) := by decide +kernel
theorem dRealm_refillGrain_10 : decode prog_6_method_3_code 10 = .ok (.iconst 5, 1) := by decide +kernel
theorem dRealm_refillGrain_11 : decode prog_6_method_3_code 11 = .ok (.invokestatic 35, 3) := by decide +kernel
theorem dRealm_refillGrain_14 : decode prog_6_method_3_code 14 = .ok (.return_, 1) := by decide +kernel
theorem dRealm_allSalt_0 : decode prog_6_method_4_code 0 = .ok (.iconst 0, 1) := by decide +kernel
theorem dRealm_allSalt_1 : decode prog_6_method_4_code 1 = .ok (.istore_n 2, 1) := by decide +kernel
theorem dRealm_allSalt_2 : decode prog_6_method_4_code 2 = .ok (.iconst 0, 1) := by decide +kernel
theorem dRealm_allSalt_3 : decode prog_6_method_4_code 3 = .ok (.istore_n 3, 1) := by decide +kernel
theorem dRealm_allSalt_4 : decode prog_6_method_4_code 4 = .ok (.iload_n 3, 1) := by decide +kernel
theorem dRealm_allSalt_5 : decode prog_6_method_4_code 5 = .ok (.iload_n 1, 1) := by decide +kernel
theorem dRealm_allSalt_6 : decode prog_6_method_4_code 6 = .ok (.if_icmp .ge 23, 3) := by decide +kernel
theorem dRealm_allSalt_9 : decode prog_6_method_4_code 9 = .ok (.iload_n 3, 1) := by decide +kernel
theorem dRealm_allSalt_10 : decode prog_6_method_4_code 10 = .ok (.iconst 3, 1) := by decide +kernel
theorem dRealm_allSalt_11 : decode prog_6_method_4_code 11 = .ok (.if_icmp .ge 18, 3) := by decide +kernel
theorem dRealm_allSalt_14 : decode prog_6_method_4_code 14 = .ok (.iload_n 2, 1) := by decide +kernel
theorem dRealm_allSalt_15 : decode prog_6_method_4_code 15 = .ok (.aload_n 0, 1) := by decide +kernel
theorem dRealm_allSalt_16 : decode prog_6_method_4_code 16 = .ok (.getfield 18, 3) := by decide +kernel
theorem dRealm_allSalt_19 : decode prog_6_method_4_code 19 = .ok (.iload_n 3, 1) := by decide +kernel
theorem dRealm_allSalt_20 : decode prog_6_method_4_code 20 = .ok (.iaload, 1) := by decide +kernel
theorem dRealm_allSalt_21 : decode prog_6_method_4_code 21 = .ok (.iadd, 1) := by decide +kernel
theorem dRealm_allSalt_22 : decode prog_6_method_4_code 22 = .ok (.istore_n 2, 1) := by decide +kernel
theorem dRealm_allSalt_23 : decode prog_6_method_4_code 23 = .ok (.iinc 3 1, 3) := by decide +kernel
theorem dRealm_allSalt_26 : decode prog_6_method_4_code 26 = .ok (.goto (-22), 3) := by decide +kernel
theorem dRealm_allSalt_29 : decode prog_6_method_4_code 29 = .ok (.iload_n 2, 1) := by decide +kernel
theorem dRealm_allSalt_30 : decode prog_6_method_4_code 30 = .ok (.ireturn, 1) := by decide +kernel
theorem dRealm_priceIn_0 : decode prog_6_method_5_code 0 = .ok (.aload_n 1, 1) := by decide +kernel
theorem dRealm_priceIn_1 : decode prog_6_method_5_code 1 = .ok (.getfield 50, 3) := by decide +kernel
theorem dRealm_priceIn_4 : decode prog_6_method_5_code 4 = .ok (.iload_n 2, 1) := by decide +kernel
theorem dRealm_priceIn_5 : decode prog_6_method_5_code 5 = .ok (.iaload, 1) := by decide +kernel
theorem dRealm_priceIn_6 : decode prog_6_method_5_code 6 = .ok (.istore_n 3, 1) := by decide +kernel
theorem dRealm_priceIn_7 : decode prog_6_method_5_code 7 = .ok (.aload_n 1, 1) := by decide +kernel
theorem dRealm_priceIn_8 : decode prog_6_method_5_code 8 = .ok (.getfield 53, 3) := by decide +kernel
theorem dRealm_priceIn_11 : decode prog_6_method_5_code 11 = .ok (.iload_n 2, 1) := by decide +kernel
theorem dRealm_priceIn_12 : decode prog_6_method_5_code 12 = .ok (.iaload, 1) := by decide +kernel
theorem dRealm_priceIn_13 : decode prog_6_method_5_code 13 = .ok (.istore 4, 2) := by decide +kernel
theorem dRealm_priceIn_15 : decode prog_6_method_5_code 15 = .ok (.iload 4, 2) := by decide +kernel
theorem dRealm_priceIn_17 : decode prog_6_method_5_code 17 = .ok (.ifCond .ne 5, 3) := by decide +kernel
theorem dRealm_priceIn_20 : decode prog_6_method_5_code 20 = .ok (.iload_n 3, 1) := by decide +kernel
theorem dRealm_priceIn_21 : decode prog_6_method_5_code 21 = .ok (.ireturn, 1) := by decide +kernel
theorem dRealm_priceIn_22 : decode prog_6_method_5_code 22 = .ok (.iload_n 3, 1) := by decide +kernel
theorem dRealm_priceIn_23 : decode prog_6_method_5_code 23 = .ok (.i2l, 1) := by decide +kernel
theorem dRealm_priceIn_24 : decode prog_6_method_5_code 24 = .ok (.ldc2_w 56, 3) := by decide +kernel
theorem dRealm_priceIn_27 : decode prog_6_method_5_code 27 = .ok (.iload 4, 2) := by decide +kernel
theorem dRealm_priceIn_29 : decode prog_6_method_5_code 29 = .ok (.i2l, 1) := by decide +kernel
theorem dRealm_priceIn_30 : decode prog_6_method_5_code 30 = .ok (.lmul, 1) := by decide +kernel
theorem dRealm_priceIn_31 : decode prog_6_method_5_code 31 = .ok (.aload_n 0, 1) := by decide +kernel
theorem dRealm_priceIn_32 : decode prog_6_method_5_code 32 = .ok (.getfield 21, 3) := by decide +kernel
theorem dRealm_priceIn_35 : decode prog_6_method_5_code 35 = .ok (.iload_n 2, 1) := by decide +kernel
theorem dRealm_priceIn_36 : decode prog_6_method_5_code 36 = .ok (.iaload, 1) := by decide +kernel
theorem dRealm_priceIn_37 : decode prog_6_method_5_code 37 = .ok (.i2l, 1) := by decide +kernel
theorem dRealm_priceIn_38 : decode prog_6_method_5_code 38 = .ok (.lsub, 1) := by decide +kernel
theorem dRealm_priceIn_39 : decode prog_6_method_5_code 39 = .ok (.lmul, 1) := by decide +kernel
theorem dRealm_priceIn_40 : decode prog_6_method_5_code 40 = .ok (.iload 4, 2) := by decide +kernel
theorem dRealm_priceIn_42 : decode prog_6_method_5_code 42 = .ok (.i2l, 1) := by decide +kernel
theorem dRealm_priceIn_43 : decode prog_6_method_5_code 43 = .ok (.ldiv, 1) := by decide +kernel
theorem dRealm_priceIn_44 : decode prog_6_method_5_code 44 = .ok (.lstore 5, 2) := by decide +kernel
theorem dRealm_priceIn_46 : decode prog_6_method_5_code 46 = .ok (.iload_n 3, 1) := by decide +kernel
theorem dRealm_priceIn_47 : decode prog_6_method_5_code 47 = .ok (.iconst 4, 1) := by decide +kernel
theorem dRealm_priceIn_48 : decode prog_6_method_5_code 48 = .ok (.idiv, 1) := by decide +kernel
theorem dRealm_priceIn_49 : decode prog_6_method_5_code 49 = .ok (.i2l, 1) := by decide +kernel
theorem dRealm_priceIn_50 : decode prog_6_method_5_code 50 = .ok (.lload 5, 2) := by decide +kernel
theorem dRealm_priceIn_52 : decode prog_6_method_5_code 52 = .ok (.invokestatic 58, 3) := by decide +kernel
theorem dRealm_priceIn_55 : decode prog_6_method_5_code 55 = .ok (.l2i, 1) := by decide +kernel
theorem dRealm_priceIn_56 : decode prog_6_method_5_code 56 = .ok (.ireturn, 1) := by decide +kernel
theorem dRealm_eat_0 : decode prog_6_method_6_code 0 = .ok (.iconst 0, 1) := by decide +kernel
theorem dRealm_eat_1 : decode prog_6_method_6_code 1 = .ok (.istore_n 2, 1) := by decide +kernel
theorem dRealm_eat_2 : decode prog_6_method_6_code 2 = .ok (.iconst 0, 1) := by decide +kernel
theorem dRealm_eat_3 : decode prog_6_method_6_code 3 = .ok (.istore_n 3, 1) := by decide +kernel
theorem dRealm_eat_4 : decode prog_6_method_6_code 4 = .ok (.iload_n 3, 1) := by decide +kernel
theorem dRealm_eat_5 : decode prog_6_method_6_code 5 = .ok (.aload_n 1, 1) := by decide +kernel
theorem dRealm_eat_6 : decode prog_6_method_6_code 6 = .ok (.getfield 64, 3) := by decide +kernel
theorem dRealm_eat_9 : decode prog_6_method_6_code 9 = .ok (.if_icmp .ge 61, 3) := by decide +kernel
theorem dRealm_eat_12 : decode prog_6_method_6_code 12 = .ok (.aload_n 0, 1) := by decide +kernel
theorem dRealm_eat_13 : decode prog_6_method_6_code 13 = .ok (.getfield 9, 3) := by decide +kernel
theorem dRealm_eat_16 : decode prog_6_method_6_code 16 = .ok (.iload_n 3, 1) := by decide +kernel
theorem dRealm_eat_17 : decode prog_6_method_6_code 17 = .ok (.iaload, 1) := by decide +kernel
theorem dRealm_eat_18 : decode prog_6_method_6_code 18 = .ok (.aload_n 1, 1) := by decide +kernel
theorem dRealm_eat_19 : decode prog_6_method_6_code 19 = .ok (.getfield 68, 3) := by decide +kernel
theorem dRealm_eat_22 : decode prog_6_method_6_code 22 = .ok (.iload_n 3, 1) := by decide +kernel
theorem dRealm_eat_23 : decode prog_6_method_6_code 23 = .ok (.iaload, 1) := by decide +kernel
theorem dRealm_eat_24 : decode prog_6_method_6_code 24 = .ok (.invokestatic 71, 3) := by decide +kernel
theorem dRealm_eat_27 : decode prog_6_method_6_code 27 = .ok (.istore 4, 2) := by decide +kernel
theorem dRealm_eat_29 : decode prog_6_method_6_code 29 = .ok (.aload_n 0, 1) := by decide +kernel
theorem dRealm_eat_30 : decode prog_6_method_6_code 30 = .ok (.getfield 9, 3) := by decide +kernel
theorem dRealm_eat_33 : decode prog_6_method_6_code 33 = .ok (.iload_n 3, 1) := by decide +kernel
theorem dRealm_eat_34 : decode prog_6_method_6_code 34 = .ok (.dup2, 1) := by decide +kernel
theorem dRealm_eat_35 : decode prog_6_method_6_code 35 = .ok (.iaload, 1) := by decide +kernel
theorem dRealm_eat_36 : decode prog_6_method_6_code 36 = .ok (.iload 4, 2) := by decide +kernel
theorem dRealm_eat_38 : decode prog_6_method_6_code 38 = .ok (.isub, 1) := by decide +kernel
theorem dRealm_eat_39 : decode prog_6_method_6_code 39 = .ok (.iastore, 1) := by decide +kernel
theorem dRealm_eat_40 : decode prog_6_method_6_code 40 = .ok (.aload_n 0, 1) := by decide +kernel
theorem dRealm_eat_41 : decode prog_6_method_6_code 41 = .ok (.getfield 15, 3) := by decide +kernel
theorem dRealm_eat_44 : decode prog_6_method_6_code 44 = .ok (.iload_n 3, 1) := by decide +kernel
theorem dRealm_eat_45 : decode prog_6_method_6_code 45 = .ok (.aload_n 1, 1) := by decide +kernel
theorem dRealm_eat_46 : decode prog_6_method_6_code 46 = .ok (.getfield 68, 3) := by decide +kernel
theorem dRealm_eat_49 : decode prog_6_method_6_code 49 = .ok (.iload_n 3, 1) := by decide +kernel
theorem dRealm_eat_50 : decode prog_6_method_6_code 50 = .ok (.iaload, 1) := by decide +kernel
theorem dRealm_eat_51 : decode prog_6_method_6_code 51 = .ok (.iload 4, 2) := by decide +kernel
theorem dRealm_eat_53 : decode prog_6_method_6_code 53 = .ok (.isub, 1) := by decide +kernel
theorem dRealm_eat_54 : decode prog_6_method_6_code 54 = .ok (.iastore, 1) := by decide +kernel
theorem dRealm_eat_55 : decode prog_6_method_6_code 55 = .ok (.iload_n 2, 1) := by decide +kernel
theorem dRealm_eat_56 : decode prog_6_method_6_code 56 = .ok (.aload_n 0, 1) := by decide +kernel
theorem dRealm_eat_57 : decode prog_6_method_6_code 57 = .ok (.getfield 15, 3) := by decide +kernel
theorem dRealm_eat_60 : decode prog_6_method_6_code 60 = .ok (.iload_n 3, 1) := by decide +kernel
theorem dRealm_eat_61 : decode prog_6_method_6_code 61 = .ok (.iaload, 1) := by decide +kernel
theorem dRealm_eat_62 : decode prog_6_method_6_code 62 = .ok (.iadd, 1) := by decide +kernel
theorem dRealm_eat_63 : decode prog_6_method_6_code 63 = .ok (.istore_n 2, 1) := by decide +kernel
theorem dRealm_eat_64 : decode prog_6_method_6_code 64 = .ok (.iinc 3 1, 3) := by decide +kernel
theorem dRealm_eat_67 : decode prog_6_method_6_code 67 = .ok (.goto (-63), 3) := by decide +kernel
theorem dRealm_eat_70 : decode prog_6_method_6_code 70 = .ok (.iload_n 2, 1) := by decide +kernel
theorem dRealm_eat_71 : decode prog_6_method_6_code 71 = .ok (.ireturn, 1) := by decide +kernel
theorem dRealm_use_0 : decode prog_6_method_7_code 0 = .ok (.iconst 0, 1) := by decide +kernel
theorem dRealm_use_1 : decode prog_6_method_7_code 1 = .ok (.istore_n 2, 1) := by decide +kernel
theorem dRealm_use_2 : decode prog_6_method_7_code 2 = .ok (.iload_n 2, 1) := by decide +kernel
theorem dRealm_use_3 : decode prog_6_method_7_code 3 = .ok (.aload_n 1, 1) := by decide +kernel
theorem dRealm_use_4 : decode prog_6_method_7_code 4 = .ok (.getfield 75, 3) := by decide +kernel
theorem dRealm_use_7 : decode prog_6_method_7_code 7 = .ok (.if_icmp .ge 33, 3) := by decide +kernel
theorem dRealm_use_10 : decode prog_6_method_7_code 10 = .ok (.aload_n 0, 1) := by decide +kernel
theorem dRealm_use_11 : decode prog_6_method_7_code 11 = .ok (.getfield 21, 3) := by decide +kernel
theorem dRealm_use_14 : decode prog_6_method_7_code 14 = .ok (.iload_n 2, 1) := by decide +kernel
theorem dRealm_use_15 : decode prog_6_method_7_code 15 = .ok (.dup2, 1) := by decide +kernel
theorem dRealm_use_16 : decode prog_6_method_7_code 16 = .ok (.iaload, 1) := by decide +kernel
theorem dRealm_use_17 : decode prog_6_method_7_code 17 = .ok (.aload_n 0, 1) := by decide +kernel
theorem dRealm_use_18 : decode prog_6_method_7_code 18 = .ok (.getfield 21, 3) := by decide +kernel
theorem dRealm_use_21 : decode prog_6_method_7_code 21 = .ok (.iload_n 2, 1) := by decide +kernel
theorem dRealm_use_22 : decode prog_6_method_7_code 22 = .ok (.iaload, 1) := by decide +kernel
theorem dRealm_use_23 : decode prog_6_method_7_code 23 = .ok (.aload_n 1, 1) := by decide +kernel
theorem dRealm_use_24 : decode prog_6_method_7_code 24 = .ok (.getfield 53, 3) := by decide +kernel
theorem dRealm_use_27 : decode prog_6_method_7_code 27 = .ok (.iload_n 2, 1) := by decide +kernel
theorem dRealm_use_28 : decode prog_6_method_7_code 28 = .ok (.iaload, 1) := by decide +kernel
theorem dRealm_use_29 : decode prog_6_method_7_code 29 = .ok (.invokestatic 71, 3) := by decide +kernel
theorem dRealm_use_32 : decode prog_6_method_7_code 32 = .ok (.isub, 1) := by decide +kernel
theorem dRealm_use_33 : decode prog_6_method_7_code 33 = .ok (.iastore, 1) := by decide +kernel
theorem dRealm_use_34 : decode prog_6_method_7_code 34 = .ok (.iinc 2 1, 3) := by decide +kernel
theorem dRealm_use_37 : decode prog_6_method_7_code 37 = .ok (.goto (-35), 3) := by decide +kernel
theorem dRealm_use_40 : decode prog_6_method_7_code 40 = .ok (.return_, 1) := by decide +kernel
theorem dRecords_init_0 : decode prog_7_method_1_code 0 = .ok (.aload_n 0, 1) := by decide +kernel
theorem dRecords_init_1 : decode prog_7_method_1_code 1 = .ok (.invokespecial 3, 3) := by decide +kernel
theorem dRecords_init_4 : decode prog_7_method_1_code 4 = .ok (.aload_n 0, 1) := by decide +kernel
theorem dRecords_init_5 : decode prog_7_method_1_code 5 = .ok (.sipush 1440, 3) := by decide +kernel
theorem dRecords_init_8 : decode prog_7_method_1_code 8 = .ok (.newarray .int, 2) := by decide +kernel
theorem dRecords_init_10 : decode prog_7_method_1_code 10 = .ok (.putfield 9, 3) := by decide +kernel
theorem dRecords_init_13 : decode prog_7_method_1_code 13 = .ok (.aload_n 0, 1) := by decide +kernel
theorem dRecords_init_14 : decode prog_7_method_1_code 14 = .ok (.sipush 1440, 3) := by decide +kernel
theorem dRecords_init_17 : decode prog_7_method_1_code 17 = .ok (.newarray .int, 2) := by decide +kernel
theorem dRecords_init_19 : decode prog_7_method_1_code 19 = .ok (.putfield 15, 3) := by decide +kernel
theorem dRecords_init_22 : decode prog_7_method_1_code 22 = .ok (.aload_n 0, 1) := by decide +kernel
theorem dRecords_init_23 : decode prog_7_method_1_code 23 = .ok (.sipush 3600, 3) := by decide +kernel
theorem dRecords_init_26 : decode prog_7_method_1_code 26 = .ok (.newarray .int, 2) := by decide +kernel
theorem dRecords_init_28 : decode prog_7_method_1_code 28 = .ok (.putfield 18, 3) := by decide +kernel
theorem dRecords_init_31 : decode prog_7_method_1_code 31 = .ok (.aload_n 0, 1) := by decide +kernel
theorem dRecords_init_32 : decode prog_7_method_1_code 32 = .ok (.sipush 4320, 3) := by decide +kernel
theorem dRecords_init_35 : decode prog_7_method_1_code 35 = .ok (.newarray .long, 2) := by decide +kernel
theorem dRecords_init_37 : decode prog_7_method_1_code 37 = .ok (.putfield 21, 3) := by decide +kernel
theorem dRecords_init_40 : decode prog_7_method_1_code 40 = .ok (.return_, 1) := by decide +kernel
theorem dRecords_keepRealm_0 : decode prog_7_method_2_code 0 = .ok (.iconst 0, 1) := by decide +kernel
theorem dRecords_keepRealm_1 : decode prog_7_method_2_code 1 = .ok (.istore 5, 2) := by decide +kernel
theorem dRecords_keepRealm_3 : decode prog_7_method_2_code 3 = .ok (.iload 5, 2) := by decide +kernel
theorem dRecords_keepRealm_5 : decode prog_7_method_2_code 5 = .ok (.aload_n 2, 1) := by decide +kernel
theorem dRecords_keepRealm_6 : decode prog_7_method_2_code 6 = .ok (.getfield 25, 3) := by decide +kernel
theorem dRecords_keepRealm_9 : decode prog_7_method_2_code 9 = .ok (.if_icmp .ge 53, 3) := by decide +kernel
theorem dRecords_keepRealm_12 : decode prog_7_method_2_code 12 = .ok (.aload_n 0, 1) := by decide +kernel
theorem dRecords_keepRealm_13 : decode prog_7_method_2_code 13 = .ok (.getfield 9, 3) := by decide +kernel
theorem dRecords_keepRealm_16 : decode prog_7_method_2_code 16 = .ok (.iload 4, 2) := by decide +kernel
theorem dRecords_keepRealm_18 : decode prog_7_method_2_code 18 = .ok (.iconst 3, 1) := by decide +kernel
theorem dRecords_keepRealm_19 : decode prog_7_method_2_code 19 = .ok (.imul, 1) := by decide +kernel
theorem dRecords_keepRealm_20 : decode prog_7_method_2_code 20 = .ok (.iload 5, 2) := by decide +kernel
theorem dRecords_keepRealm_22 : decode prog_7_method_2_code 22 = .ok (.iadd, 1) := by decide +kernel
theorem dRecords_keepRealm_23 : decode prog_7_method_2_code 23 = .ok (.iconst 2, 1) := by decide +kernel
theorem dRecords_keepRealm_24 : decode prog_7_method_2_code 24 = .ok (.imul, 1) := by decide +kernel
theorem dRecords_keepRealm_25 : decode prog_7_method_2_code 25 = .ok (.aload_n 1, 1) := by decide +kernel
theorem dRecords_keepRealm_26 : decode prog_7_method_2_code 26 = .ok (.getfield 30, 3) := by decide +kernel
theorem dRecords_keepRealm_29 : decode prog_7_method_2_code 29 = .ok (.iload 5, 2) := by decide +kernel
theorem dRecords_keepRealm_31 : decode prog_7_method_2_code 31 = .ok (.iaload, 1) := by decide +kernel
theorem dRecords_keepRealm_32 : decode prog_7_method_2_code 32 = .ok (.iastore, 1) := by decide +kernel
theorem dRecords_keepRealm_33 : decode prog_7_method_2_code 33 = .ok (.aload_n 0, 1) := by decide +kernel
theorem dRecords_keepRealm_34 : decode prog_7_method_2_code 34 = .ok (.getfield 9, 3) := by decide +kernel
theorem dRecords_keepRealm_37 : decode prog_7_method_2_code 37 = .ok (.iload 4, 2) := by decide +kernel
theorem dRecords_keepRealm_39 : decode prog_7_method_2_code 39 = .ok (.iconst 3, 1) := by decide +kernel
theorem dRecords_keepRealm_40 : decode prog_7_method_2_code 40 = .ok (.imul, 1) := by decide +kernel
theorem dRecords_keepRealm_41 : decode prog_7_method_2_code 41 = .ok (.iload 5, 2) := by decide +kernel
theorem dRecords_keepRealm_43 : decode prog_7_method_2_code 43 = .ok (.iadd, 1) := by decide +kernel
theorem dRecords_keepRealm_44 : decode prog_7_method_2_code 44 = .ok (.iconst 2, 1) := by decide +kernel
theorem dRecords_keepRealm_45 : decode prog_7_method_2_code 45 = .ok (.imul, 1) := by decide +kernel
theorem dRecords_keepRealm_46 : decode prog_7_method_2_code 46 = .ok (.iconst 1, 1) := by decide +kernel
theorem dRecords_keepRealm_47 : decode prog_7_method_2_code 47 = .ok (.iadd, 1) := by decide +kernel
theorem dRecords_keepRealm_48 : decode prog_7_method_2_code 48 = .ok (.aload_n 1, 1) := by decide +kernel
theorem dRecords_keepRealm_49 : decode prog_7_method_2_code 49 = .ok (.getfield 35, 3) := by decide +kernel
theorem dRecords_keepRealm_52 : decode prog_7_method_2_code 52 = .ok (.iload 5, 2) := by decide +kernel
theorem dRecords_keepRealm_54 : decode prog_7_method_2_code 54 = .ok (.iaload, 1) := by decide +kernel
theorem dRecords_keepRealm_55 : decode prog_7_method_2_code 55 = .ok (.iastore, 1) := by decide +kernel
theorem dRecords_keepRealm_56 : decode prog_7_method_2_code 56 = .ok (.iinc 5 1, 3) := by decide +kernel
theorem dRecords_keepRealm_59 : decode prog_7_method_2_code 59 = .ok (.goto (-56), 3) := by decide +kernel
theorem dRecords_keepRealm_62 : decode prog_7_method_2_code 62 = .ok (.iconst 0, 1) := by decide +kernel
theorem dRecords_keepRealm_63 : decode prog_7_method_2_code 63 = .ok (.istore 5, 2) := by decide +kernel
theorem dRecords_keepRealm_65 : decode prog_7_method_2_code 65 = .ok (.iload 5, 2) := by decide +kernel
theorem dRecords_keepRealm_67 : decode prog_7_method_2_code 67 = .ok (.aload_n 2, 1) := by decide +kernel
theorem dRecords_keepRealm_68 : decode prog_7_method_2_code 68 = .ok (.getfield 38, 3) := by decide +kernel
theorem dRecords_keepRealm_71 : decode prog_7_method_2_code 71 = .ok (.if_icmp .ge 53, 3) := by decide +kernel
theorem dRecords_keepRealm_74 : decode prog_7_method_2_code 74 = .ok (.aload_n 0, 1) := by decide +kernel
theorem dRecords_keepRealm_75 : decode prog_7_method_2_code 75 = .ok (.getfield 15, 3) := by decide +kernel
theorem dRecords_keepRealm_78 : decode prog_7_method_2_code 78 = .ok (.iload 4, 2) := by decide +kernel
theorem dRecords_keepRealm_80 : decode prog_7_method_2_code 80 = .ok (.iconst 3, 1) := by decide +kernel
theorem dRecords_keepRealm_81 : decode prog_7_method_2_code 81 = .ok (.imul, 1) := by decide +kernel
theorem dRecords_keepRealm_82 : decode prog_7_method_2_code 82 = .ok (.iload 5, 2) := by decide +kernel
theorem dRecords_keepRealm_84 : decode prog_7_method_2_code 84 = .ok (.iadd, 1) := by decide +kernel
theorem dRecords_keepRealm_85 : decode prog_7_method_2_code 85 = .ok (.iconst 2, 1) := by decide +kernel
theorem dRecords_keepRealm_86 : decode prog_7_method_2_code 86 = .ok (.imul, 1) := by decide +kernel
theorem dRecords_keepRealm_87 : decode prog_7_method_2_code 87 = .ok (.aload_n 1, 1) := by decide +kernel
theorem dRecords_keepRealm_88 : decode prog_7_method_2_code 88 = .ok (.getfield 40, 3) := by decide +kernel
theorem dRecords_keepRealm_91 : decode prog_7_method_2_code 91 = .ok (.iload 5, 2) := by decide +kernel
theorem dRecords_keepRealm_93 : decode prog_7_method_2_code 93 = .ok (.iaload, 1) := by decide +kernel
theorem dRecords_keepRealm_94 : decode prog_7_method_2_code 94 = .ok (.iastore, 1) := by decide +kernel
theorem dRecords_keepRealm_95 : decode prog_7_method_2_code 95 = .ok (.aload_n 0, 1) := by decide +kernel
theorem dRecords_keepRealm_96 : decode prog_7_method_2_code 96 = .ok (.getfield 15, 3) := by decide +kernel
theorem dRecords_keepRealm_99 : decode prog_7_method_2_code 99 = .ok (.iload 4, 2) := by decide +kernel
theorem dRecords_keepRealm_101 : decode prog_7_method_2_code 101 = .ok (.iconst 3, 1) := by decide +kernel
theorem dRecords_keepRealm_102 : decode prog_7_method_2_code 102 = .ok (.imul, 1) := by decide +kernel
theorem dRecords_keepRealm_103 : decode prog_7_method_2_code 103 = .ok (.iload 5, 2) := by decide +kernel
theorem dRecords_keepRealm_105 : decode prog_7_method_2_code 105 = .ok (.iadd, 1) := by decide +kernel
theorem dRecords_keepRealm_106 : decode prog_7_method_2_code 106 = .ok (.iconst 2, 1) := by decide +kernel
theorem dRecords_keepRealm_107 : decode prog_7_method_2_code 107 = .ok (.imul, 1) := by decide +kernel
theorem dRecords_keepRealm_108 : decode prog_7_method_2_code 108 = .ok (.iconst 1, 1) := by decide +kernel
theorem dRecords_keepRealm_109 : decode prog_7_method_2_code 109 = .ok (.iadd, 1) := by decide +kernel
theorem dRecords_keepRealm_110 : decode prog_7_method_2_code 110 = .ok (.aload_n 3, 1) := by decide +kernel
theorem dRecords_keepRealm_111 : decode prog_7_method_2_code 111 = .ok (.getfield 43, 3) := by decide +kernel
theorem dRecords_keepRealm_114 : decode prog_7_method_2_code 114 = .ok (.iload 5, 2) := by decide +kernel
theorem dRecords_keepRealm_116 : decode prog_7_method_2_code 116 = .ok (.iaload, 1) := by decide +kernel
theorem dRecords_keepRealm_117 : decode prog_7_method_2_code 117 = .ok (.iastore, 1) := by decide +kernel
theorem dRecords_keepRealm_118 : decode prog_7_method_2_code 118 = .ok (.iinc 5 1, 3) := by decide +kernel
theorem dRecords_keepRealm_121 : decode prog_7_method_2_code 121 = .ok (.goto (-56), 3) := by decide +kernel
theorem dRecords_keepRealm_124 : decode prog_7_method_2_code 124 = .ok (.iconst 0, 1) := by decide +kernel
theorem dRecords_keepRealm_125 : decode prog_7_method_2_code 125 = .ok (.istore 5, 2) := by decide +kernel
theorem dRecords_keepRealm_127 : decode prog_7_method_2_code 127 = .ok (.iload 5, 2) := by decide +kernel
theorem dRecords_keepRealm_129 : decode prog_7_method_2_code 129 = .ok (.aload_n 2, 1) := by decide +kernel
theorem dRecords_keepRealm_130 : decode prog_7_method_2_code 130 = .ok (.getfield 48, 3) := by decide +kernel
theorem dRecords_keepRealm_133 : decode prog_7_method_2_code 133 = .ok (.if_icmp .ge 76, 3) := by decide +kernel
theorem dRecords_keepRealm_136 : decode prog_7_method_2_code 136 = .ok (.aload_n 0, 1) := by decide +kernel
theorem dRecords_keepRealm_137 : decode prog_7_method_2_code 137 = .ok (.getfield 18, 3) := by decide +kernel
theorem dRecords_keepRealm_140 : decode prog_7_method_2_code 140 = .ok (.iload 4, 2) := by decide +kernel
theorem dRecords_keepRealm_142 : decode prog_7_method_2_code 142 = .ok (.iconst 5, 1) := by decide +kernel
theorem dRecords_keepRealm_143 : decode prog_7_method_2_code 143 = .ok (.imul, 1) := by decide +kernel
theorem dRecords_keepRealm_144 : decode prog_7_method_2_code 144 = .ok (.iload 5, 2) := by decide +kernel
theorem dRecords_keepRealm_146 : decode prog_7_method_2_code 146 = .ok (.iadd, 1) := by decide +kernel
theorem dRecords_keepRealm_147 : decode prog_7_method_2_code 147 = .ok (.iconst 3, 1) := by decide +kernel
theorem dRecords_keepRealm_148 : decode prog_7_method_2_code 148 = .ok (.imul, 1) := by decide +kernel
theorem dRecords_keepRealm_149 : decode prog_7_method_2_code 149 = .ok (.aload_n 1, 1) := by decide +kernel
theorem dRecords_keepRealm_150 : decode prog_7_method_2_code 150 = .ok (.getfield 50, 3) := by decide +kernel
theorem dRecords_keepRealm_153 : decode prog_7_method_2_code 153 = .ok (.iload 5, 2) := by decide +kernel
theorem dRecords_keepRealm_155 : decode prog_7_method_2_code 155 = .ok (.iaload, 1) := by decide +kernel
theorem dRecords_keepRealm_156 : decode prog_7_method_2_code 156 = .ok (.iastore, 1) := by decide +kernel
theorem dRecords_keepRealm_157 : decode prog_7_method_2_code 157 = .ok (.aload_n 0, 1) := by decide +kernel
theorem dRecords_keepRealm_158 : decode prog_7_method_2_code 158 = .ok (.getfield 18, 3) := by decide +kernel
theorem dRecords_keepRealm_161 : decode prog_7_method_2_code 161 = .ok (.iload 4, 2) := by decide +kernel
theorem dRecords_keepRealm_163 : decode prog_7_method_2_code 163 = .ok (.iconst 5, 1) := by decide +kernel
theorem dRecords_keepRealm_164 : decode prog_7_method_2_code 164 = .ok (.imul, 1) := by decide +kernel
theorem dRecords_keepRealm_165 : decode prog_7_method_2_code 165 = .ok (.iload 5, 2) := by decide +kernel
theorem dRecords_keepRealm_167 : decode prog_7_method_2_code 167 = .ok (.iadd, 1) := by decide +kernel
theorem dRecords_keepRealm_168 : decode prog_7_method_2_code 168 = .ok (.iconst 3, 1) := by decide +kernel
theorem dRecords_keepRealm_169 : decode prog_7_method_2_code 169 = .ok (.imul, 1) := by decide +kernel
theorem dRecords_keepRealm_170 : decode prog_7_method_2_code 170 = .ok (.iconst 1, 1) := by decide +kernel
theorem dRecords_keepRealm_171 : decode prog_7_method_2_code 171 = .ok (.iadd, 1) := by decide +kernel
theorem dRecords_keepRealm_172 : decode prog_7_method_2_code 172 = .ok (.aload_n 1, 1) := by decide +kernel
theorem dRecords_keepRealm_173 : decode prog_7_method_2_code 173 = .ok (.aload_n 2, 1) := by decide +kernel
theorem dRecords_keepRealm_174 : decode prog_7_method_2_code 174 = .ok (.iload 5, 2) := by decide +kernel
theorem dRecords_keepRealm_176 : decode prog_7_method_2_code 176 = .ok (.invokevirtual 53, 3) := by decide +kernel
theorem dRecords_keepRealm_179 : decode prog_7_method_2_code 179 = .ok (.iastore, 1) := by decide +kernel
theorem dRecords_keepRealm_180 : decode prog_7_method_2_code 180 = .ok (.aload_n 0, 1) := by decide +kernel
theorem dRecords_keepRealm_181 : decode prog_7_method_2_code 181 = .ok (.getfield 18, 3) := by decide +kernel
theorem dRecords_keepRealm_184 : decode prog_7_method_2_code 184 = .ok (.iload 4, 2) := by decide +kernel
theorem dRecords_keepRealm_186 : decode prog_7_method_2_code 186 = .ok (.iconst 5, 1) := by decide +kernel
theorem dRecords_keepRealm_187 : decode prog_7_method_2_code 187 = .ok (.imul, 1) := by decide +kernel
theorem dRecords_keepRealm_188 : decode prog_7_method_2_code 188 = .ok (.iload 5, 2) := by decide +kernel
theorem dRecords_keepRealm_190 : decode prog_7_method_2_code 190 = .ok (.iadd, 1) := by decide +kernel
theorem dRecords_keepRealm_191 : decode prog_7_method_2_code 191 = .ok (.iconst 3, 1) := by decide +kernel
theorem dRecords_keepRealm_192 : decode prog_7_method_2_code 192 = .ok (.imul, 1) := by decide +kernel
theorem dRecords_keepRealm_193 : decode prog_7_method_2_code 193 = .ok (.iconst 2, 1) := by decide +kernel
theorem dRecords_keepRealm_194 : decode prog_7_method_2_code 194 = .ok (.iadd, 1) := by decide +kernel
theorem dRecords_keepRealm_195 : decode prog_7_method_2_code 195 = .ok (.aload_n 1, 1) := by decide +kernel
theorem dRecords_keepRealm_196 : decode prog_7_method_2_code 196 = .ok (.getfield 57, 3) := by decide +kernel
theorem dRecords_keepRealm_199 : decode prog_7_method_2_code 199 = .ok (.iload 5, 2) := by decide +kernel
theorem dRecords_keepRealm_201 : decode prog_7_method_2_code 201 = .ok (.iaload, 1) := by decide +kernel
theorem dRecords_keepRealm_202 : decode prog_7_method_2_code 202 = .ok (.iastore, 1) := by decide +kernel
theorem dRecords_keepRealm_203 : decode prog_7_method_2_code 203 = .ok (.iinc 5 1, 3) := by decide +kernel
theorem dRecords_keepRealm_206 : decode prog_7_method_2_code 206 = .ok (.goto (-79), 3) := by decide +kernel
theorem dRecords_keepRealm_209 : decode prog_7_method_2_code 209 = .ok (.return_, 1) := by decide +kernel
theorem dRecords_keepBook_0 : decode prog_7_method_3_code 0 = .ok (.iload_n 2, 1) := by decide +kernel
theorem dRecords_keepBook_1 : decode prog_7_method_3_code 1 = .ok (.bipush 6, 2) := by decide +kernel
theorem dRecords_keepBook_3 : decode prog_7_method_3_code 3 = .ok (.imul, 1) := by decide +kernel
theorem dRecords_keepBook_4 : decode prog_7_method_3_code 4 = .ok (.iload_n 1, 1) := by decide +kernel
theorem dRecords_keepBook_5 : decode prog_7_method_3_code 5 = .ok (.iadd, 1) := by decide +kernel
theorem dRecords_keepBook_6 : decode prog_7_method_3_code 6 = .ok (.iconst 3, 1) := by decide +kernel
theorem dRecords_keepBook_7 : decode prog_7_method_3_code 7 = .ok (.imul, 1) := by decide +kernel
theorem dRecords_keepBook_8 : decode prog_7_method_3_code 8 = .ok (.istore 8, 2) := by decide +kernel
theorem dRecords_keepBook_10 : decode prog_7_method_3_code 10 = .ok (.aload_n 0, 1) := by decide +kernel
theorem dRecords_keepBook_11 : decode prog_7_method_3_code 11 = .ok (.getfield 21, 3) := by decide +kernel
theorem dRecords_keepBook_14 : decode prog_7_method_3_code 14 = .ok (.iload 8, 2) := by decide +kernel
theorem dRecords_keepBook_16 : decode prog_7_method_3_code 16 = .ok (.lload_n 3, 1) := by decide +kernel
theorem dRecords_keepBook_17 : decode prog_7_method_3_code 17 = .ok (.lastore, 1) := by decide +kernel
theorem dRecords_keepBook_18 : decode prog_7_method_3_code 18 = .ok (.aload_n 0, 1) := by decide +kernel
theorem dRecords_keepBook_19 : decode prog_7_method_3_code 19 = .ok (.getfield 21, 3) := by decide +kernel
theorem dRecords_keepBook_22 : decode prog_7_method_3_code 22 = .ok (.iload 8, 2) := by decide +kernel
theorem dRecords_keepBook_24 : decode prog_7_method_3_code 24 = .ok (.iconst 1, 1) := by decide +kernel
theorem dRecords_keepBook_25 : decode prog_7_method_3_code 25 = .ok (.iadd, 1) := by decide +kernel
theorem dRecords_keepBook_26 : decode prog_7_method_3_code 26 = .ok (.iload 5, 2) := by decide +kernel
theorem dRecords_keepBook_28 : decode prog_7_method_3_code 28 = .ok (.i2l, 1) := by decide +kernel
theorem dRecords_keepBook_29 : decode prog_7_method_3_code 29 = .ok (.lastore, 1) := by decide +kernel
theorem dRecords_keepBook_30 : decode prog_7_method_3_code 30 = .ok (.aload_n 0, 1) := by decide +kernel
theorem dRecords_keepBook_31 : decode prog_7_method_3_code 31 = .ok (.getfield 21, 3) := by decide +kernel
theorem dRecords_keepBook_34 : decode prog_7_method_3_code 34 = .ok (.iload 8, 2) := by decide +kernel
theorem dRecords_keepBook_36 : decode prog_7_method_3_code 36 = .ok (.iconst 2, 1) := by decide +kernel
theorem dRecords_keepBook_37 : decode prog_7_method_3_code 37 = .ok (.iadd, 1) := by decide +kernel
theorem dRecords_keepBook_38 : decode prog_7_method_3_code 38 = .ok (.lload 6, 2) := by decide +kernel
theorem dRecords_keepBook_40 : decode prog_7_method_3_code 40 = .ok (.lastore, 1) := by decide +kernel
theorem dRecords_keepBook_41 : decode prog_7_method_3_code 41 = .ok (.return_, 1) := by decide +kernel
theorem dReform_init_0 : decode prog_8_method_1_code 0 = .ok (.aload_n 0, 1) := by decide +kernel
theorem dReform_init_1 : decode prog_8_method_1_code 1 = .ok (.invokespecial 3, 3) := by decide +kernel
theorem dReform_init_4 : decode prog_8_method_1_code 4 = .ok (.aload_n 0, 1) := by decide +kernel
theorem dReform_init_5 : decode prog_8_method_1_code 5 = .ok (.sipush 700, 3) := by decide +kernel
theorem dReform_init_8 : decode prog_8_method_1_code 8 = .ok (.newarray .int, 2) := by decide +kernel
theorem dReform_init_10 : decode prog_8_method_1_code 10 = .ok (.putfield 9, 3) := by decide +kernel
theorem dReform_init_13 : decode prog_8_method_1_code 13 = .ok (.aload_n 0, 1) := by decide +kernel
theorem dReform_init_14 : decode prog_8_method_1_code 14 = .ok (.bipush 11, 2) := by decide +kernel
theorem dReform_init_16 : decode prog_8_method_1_code 16 = .ok (.newarray .int, 2) := by decide +kernel
theorem dReform_init_18 : decode prog_8_method_1_code 18 = .ok (.putfield 15, 3) := by decide +kernel
theorem dReform_init_21 : decode prog_8_method_1_code 21 = .ok (.aload_n 0, 1) := by decide +kernel
theorem dReform_init_22 : decode prog_8_method_1_code 22 = .ok (.bipush 11, 2) := by decide +kernel
theorem dReform_init_24 : decode prog_8_method_1_code 24 = .ok (.newarray .int, 2) := by decide +kernel
theorem dReform_init_26 : decode prog_8_method_1_code 26 = .ok (.putfield 18, 3) := by decide +kernel
theorem dReform_init_29 : decode prog_8_method_1_code 29 = .ok (.aload_n 0, 1) := by decide +kernel
theorem dReform_init_30 : decode prog_8_method_1_code 30 = .ok (.bipush 100, 2) := by decide +kernel
theorem dReform_init_32 : decode prog_8_method_1_code 32 = .ok (.newarray .int, 2) := by decide +kernel
theorem dReform_init_34 : decode prog_8_method_1_code 34 = .ok (.putfield 21, 3) := by decide +kernel
theorem dReform_init_37 : decode prog_8_method_1_code 37 = .ok (.aload_n 0, 1) := by decide +kernel
theorem dReform_init_38 : decode prog_8_method_1_code 38 = .ok (.iconst 0, 1) := by decide +kernel
theorem dReform_init_39 : decode prog_8_method_1_code 39 = .ok (.putfield 24, 3) := by decide +kernel
theorem dReform_init_42 : decode prog_8_method_1_code 42 = .ok (.aload_n 0, 1) := by decide +kernel
theorem dReform_init_43 : decode prog_8_method_1_code 43 = .ok (.iconst 0, 1) := by decide +kernel
theorem dReform_init_44 : decode prog_8_method_1_code 44 = .ok (.putfield 28, 3) := by decide +kernel
theorem dReform_init_47 : decode prog_8_method_1_code 47 = .ok (.aload_n 0, 1) := by decide +kernel
theorem dReform_init_48 : decode prog_8_method_1_code 48 = .ok (.iconst 0, 1) := by decide +kernel
theorem dReform_init_49 : decode prog_8_method_1_code 49 = .ok (.putfield 31, 3) := by decide +kernel
theorem dReform_init_52 : decode prog_8_method_1_code 52 = .ok (.aload_n 0, 1) := by decide +kernel
theorem dReform_init_53 : decode prog_8_method_1_code 53 = .ok (.iconst 0, 1) := by decide +kernel
theorem dReform_init_54 : decode prog_8_method_1_code 54 = .ok (.putfield 34, 3) := by decide +kernel
theorem dReform_init_57 : decode prog_8_method_1_code 57 = .ok (.aload_n 0, 1) := by decide +kernel
theorem dReform_init_58 : decode prog_8_method_1_code 58 = .ok (.iconst (-1), 1) := by decide +kernel
theorem dReform_init_59 : decode prog_8_method_1_code 59 = .ok (.putfield 37, 3) := by decide +kernel
theorem dReform_init_62 : decode prog_8_method_1_code 62 = .ok (.return_, 1) := by decide +kernel
theorem dReform_clear_0 : decode prog_8_method_2_code 0 = .ok (.aload_n 0, 1) := by decide +kernel
theorem dReform_clear_1 : decode prog_8_method_2_code 1 = .ok (.getfield 15, 3) := by decide +kernel
theorem dReform_clear_4 : decode prog_8_method_2_code 4 = .ok (.iconst 0, 1) := by decide +kernel
theorem dReform_clear_5 : decode prog_8_method_2_code 5 = .ok (.invokestatic 40, 3) := by decide +kernel
theorem dReform_clear_8 : decode prog_8_method_2_code 8 = .ok (.aload_n 0, 1) := by decide +kernel
theorem dReform_clear_9 : decode prog_8_method_2_code 9 = .ok (.getfield 18, 3) := by decide +kernel
theorem dReform_clear_12 : decode prog_8_method_2_code 12 = .ok (.iconst 0, 1) := by decide +kernel
theorem dReform_clear_13 : decode prog_8_method_2_code 13 = .ok (.invokestatic 40, 3) := by decide +kernel
theorem dReform_clear_16 : decode prog_8_method_2_code 16 = .ok (.aload_n 0, 1) := by decide +kernel
theorem dReform_clear_17 : decode prog_8_method_2_code 17 = .ok (.iconst 0, 1) := by decide +kernel
theorem dReform_clear_18 : decode prog_8_method_2_code 18 = .ok (.putfield 24, 3) := by decide +kernel
theorem dReform_clear_21 : decode prog_8_method_2_code 21 = .ok (.aload_n 0, 1) := by decide +kernel
theorem dReform_clear_22 : decode prog_8_method_2_code 22 = .ok (.iconst 0, 1) := by decide +kernel
theorem dReform_clear_23 : decode prog_8_method_2_code 23 = .ok (.putfield 28, 3) := by decide +kernel
theorem dReform_clear_26 : decode prog_8_method_2_code 26 = .ok (.aload_n 0, 1) := by decide +kernel
theorem dReform_clear_27 : decode prog_8_method_2_code 27 = .ok (.iconst 0, 1) := by decide +kernel
theorem dReform_clear_28 : decode prog_8_method_2_code 28 = .ok (.putfield 31, 3) := by decide +kernel
theorem dReform_clear_31 : decode prog_8_method_2_code 31 = .ok (.aload_n 0, 1) := by decide +kernel
theorem dReform_clear_32 : decode prog_8_method_2_code 32 = .ok (.iconst 0, 1) := by decide +kernel
theorem dReform_clear_33 : decode prog_8_method_2_code 33 = .ok (.putfield 34, 3) := by decide +kernel
theorem dReform_clear_36 : decode prog_8_method_2_code 36 = .ok (.return_, 1) := by decide +kernel
theorem dReform_copyFrom_0 : decode prog_8_method_3_code 0 = .ok (.aload_n 1, 1) := by decide +kernel
theorem dReform_copyFrom_1 : decode prog_8_method_3_code 1 = .ok (.getfield 9, 3) := by decide +kernel
theorem dReform_copyFrom_4 : decode prog_8_method_3_code 4 = .ok (.iconst 0, 1) := by decide +kernel
theorem dReform_copyFrom_5 : decode prog_8_method_3_code 5 = .ok (.aload_n 0, 1) := by decide +kernel
theorem dReform_copyFrom_6 : decode prog_8_method_3_code 6 = .ok (.getfield 9, 3) := by decide +kernel
theorem dReform_copyFrom_9 : decode prog_8_method_3_code 9 = .ok (.iconst 0, 1) := by decide +kernel
theorem dReform_copyFrom_10 : decode prog_8_method_3_code 10 = .ok (.aload_n 1, 1) := by decide +kernel
theorem dReform_copyFrom_11 : decode prog_8_method_3_code 11 = .ok (.getfield 24, 3) := by decide +kernel
theorem dReform_copyFrom_14 : decode prog_8_method_3_code 14 = .ok (.invokestatic 46, 3) := by decide +kernel
theorem dReform_copyFrom_17 : decode prog_8_method_3_code 17 = .ok (.aload_n 1, 1) := by decide +kernel
theorem dReform_copyFrom_18 : decode prog_8_method_3_code 18 = .ok (.getfield 15, 3) := by decide +kernel
theorem dReform_copyFrom_21 : decode prog_8_method_3_code 21 = .ok (.iconst 0, 1) := by decide +kernel
theorem dReform_copyFrom_22 : decode prog_8_method_3_code 22 = .ok (.aload_n 0, 1) := by decide +kernel
theorem dReform_copyFrom_23 : decode prog_8_method_3_code 23 = .ok (.getfield 15, 3) := by decide +kernel
theorem dReform_copyFrom_26 : decode prog_8_method_3_code 26 = .ok (.iconst 0, 1) := by decide +kernel
theorem dReform_copyFrom_27 : decode prog_8_method_3_code 27 = .ok (.bipush 11, 2) := by decide +kernel
theorem dReform_copyFrom_29 : decode prog_8_method_3_code 29 = .ok (.invokestatic 46, 3) := by decide +kernel
theorem dReform_copyFrom_32 : decode prog_8_method_3_code 32 = .ok (.aload_n 1, 1) := by decide +kernel
theorem dReform_copyFrom_33 : decode prog_8_method_3_code 33 = .ok (.getfield 18, 3) := by decide +kernel
theorem dReform_copyFrom_36 : decode prog_8_method_3_code 36 = .ok (.iconst 0, 1) := by decide +kernel
theorem dReform_copyFrom_37 : decode prog_8_method_3_code 37 = .ok (.aload_n 0, 1) := by decide +kernel
theorem dReform_copyFrom_38 : decode prog_8_method_3_code 38 = .ok (.getfield 18, 3) := by decide +kernel
theorem dReform_copyFrom_41 : decode prog_8_method_3_code 41 = .ok (.iconst 0, 1) := by decide +kernel
theorem dReform_copyFrom_42 : decode prog_8_method_3_code 42 = .ok (.bipush 11, 2) := by decide +kernel
theorem dReform_copyFrom_44 : decode prog_8_method_3_code 44 = .ok (.invokestatic 46, 3) := by decide +kernel
theorem dReform_copyFrom_47 : decode prog_8_method_3_code 47 = .ok (.aload_n 0, 1) := by decide +kernel
theorem dReform_copyFrom_48 : decode prog_8_method_3_code 48 = .ok (.aload_n 1, 1) := by decide +kernel
theorem dReform_copyFrom_49 : decode prog_8_method_3_code 49 = .ok (.getfield 24, 3) := by decide +kernel
theorem dReform_copyFrom_52 : decode prog_8_method_3_code 52 = .ok (.putfield 24, 3) := by decide +kernel
theorem dReform_copyFrom_55 : decode prog_8_method_3_code 55 = .ok (.aload_n 0, 1) := by decide +kernel
theorem dReform_copyFrom_56 : decode prog_8_method_3_code 56 = .ok (.aload_n 1, 1) := by decide +kernel
theorem dReform_copyFrom_57 : decode prog_8_method_3_code 57 = .ok (.getfield 28, 3) := by decide +kernel
theorem dReform_copyFrom_60 : decode prog_8_method_3_code 60 = .ok (.putfield 28, 3) := by decide +kernel
theorem dReform_copyFrom_63 : decode prog_8_method_3_code 63 = .ok (.aload_n 0, 1) := by decide +kernel
theorem dReform_copyFrom_64 : decode prog_8_method_3_code 64 = .ok (.aload_n 1, 1) := by decide +kernel
theorem dReform_copyFrom_65 : decode prog_8_method_3_code 65 = .ok (.getfield 31, 3) := by decide +kernel
theorem dReform_copyFrom_68 : decode prog_8_method_3_code 68 = .ok (.putfield 31, 3) := by decide +kernel
theorem dReform_copyFrom_71 : decode prog_8_method_3_code 71 = .ok (.return_, 1) := by decide +kernel
theorem dReform_read_0 : decode prog_8_method_4_code 0 = .ok (.aload_n 0, 1) := by decide +kernel
theorem dReform_read_1 : decode prog_8_method_4_code 1 = .ok (.invokevirtual 52, 3) := by decide +kernel
theorem dReform_read_4 : decode prog_8_method_4_code 4 = .ok (.aload_n 1, 1) := by decide +kernel
theorem dReform_read_5 : decode prog_8_method_4_code 5 = .ok (.iconst 0, 1) := by decide +kernel
theorem dReform_read_6 : decode prog_8_method_4_code 6 = .ok (.invokevirtual 55, 3) := by decide +kernel
theorem dReform_read_9 : decode prog_8_method_4_code 9 = .ok (.iconst 0, 1) := by decide +kernel
theorem dReform_read_10 : decode prog_8_method_4_code 10 = .ok (.istore_n 2, 1) := by decide +kernel
theorem dReform_read_11 : decode prog_8_method_4_code 11 = .ok (.iload_n 2, 1) := by decide +kernel
theorem dReform_read_12 : decode prog_8_method_4_code 12 = .ok (.sipush 700, 3) := by decide +kernel
theorem dReform_read_15 : decode prog_8_method_4_code 15 = .ok (.if_icmp .ge 36, 3) := by decide +kernel
theorem dReform_read_18 : decode prog_8_method_4_code 18 = .ok (.aload_n 1, 1) := by decide +kernel
theorem dReform_read_19 : decode prog_8_method_4_code 19 = .ok (.invokevirtual 61, 3) := by decide +kernel
theorem dReform_read_22 : decode prog_8_method_4_code 22 = .ok (.ifCond .ne 29, 3) := by decide +kernel
theorem dReform_read_25 : decode prog_8_method_4_code 25 = .ok (.aload_n 0, 1) := by decide +kernel
theorem dReform_read_26 : decode prog_8_method_4_code 26 = .ok (.aload_n 1, 1) := by decide +kernel
theorem dReform_read_27 : decode prog_8_method_4_code 27 = .ok (.invokevirtual 65, 3) := by decide +kernel
theorem dReform_read_30 : decode prog_8_method_4_code 30 = .ok (.ifCond .ne 5, 3) := by decide +kernel
theorem dReform_read_33 : decode prog_8_method_4_code 33 = .ok (.iconst 0, 1) := by decide +kernel
theorem dReform_read_34 : decode prog_8_method_4_code 34 = .ok (.ireturn, 1) := by decide +kernel
theorem dReform_read_35 : decode prog_8_method_4_code 35 = .ok (.aload_n 0, 1) := by decide +kernel
theorem dReform_read_36 : decode prog_8_method_4_code 36 = .ok (.dup, 1) := by decide +kernel
theorem dReform_read_37 : decode prog_8_method_4_code 37 = .ok (.getfield 28, 3) := by decide +kernel
theorem dReform_read_40 : decode prog_8_method_4_code 40 = .ok (.iconst 1, 1) := by decide +kernel
theorem dReform_read_41 : decode prog_8_method_4_code 41 = .ok (.iadd, 1) := by decide +kernel
theorem dReform_read_42 : decode prog_8_method_4_code 42 = .ok (.putfield 28, 3) := by decide +kernel
theorem dReform_read_45 : decode prog_8_method_4_code 45 = .ok (.iinc 2 1, 3) := by decide +kernel
theorem dReform_read_48 : decode prog_8_method_4_code 48 = .ok (.goto (-37), 3) := by decide +kernel
theorem dReform_read_51 : decode prog_8_method_4_code 51 = .ok (.iconst 1, 1) := by decide +kernel
theorem dReform_read_52 : decode prog_8_method_4_code 52 = .ok (.ireturn, 1) := by decide +kernel
theorem dReform_readLine_0 : decode prog_8_method_5_code 0 = .ok (.aload_n 0, 1) := by decide +kernel
theorem dReform_readLine_1 : decode prog_8_method_5_code 1 = .ok (.aload_n 0, 1) := by decide +kernel
theorem dReform_readLine_2 : decode prog_8_method_5_code 2 = .ok (.aload_n 1, 1) := by decide +kernel
theorem dReform_readLine_3 : decode prog_8_method_5_code 3 = .ok (.invokevirtual 69, 3) := by decide +kernel
theorem dReform_readLine_6 : decode prog_8_method_5_code 6 = .ok (.putfield 37, 3) := by decide +kernel
theorem dReform_readLine_9 : decode prog_8_method_5_code 9 = .ok (.aload_n 0, 1) := by decide +kernel
theorem dReform_readLine_10 : decode prog_8_method_5_code 10 = .ok (.getfield 37, 3) := by decide +kernel
theorem dReform_readLine_13 : decode prog_8_method_5_code 13 = .ok (.iconst (-1), 1) := by decide +kernel
theorem dReform_readLine_14 : decode prog_8_method_5_code 14 = .ok (.if_icmp .ne 10, 3) := by decide +kernel
theorem dReform_readLine_17 : decode prog_8_method_5_code 17 = .ok (.aload_n 1, 1) := by decide +kernel
theorem dReform_readLine_18 : decode prog_8_method_5_code 18 = .ok (.iconst 2, 1) := by decide +kernel
theorem dReform_readLine_19 : decode prog_8_method_5_code 19 = .ok (.invokevirtual 73, 3) := by decide +kernel
theorem dReform_readLine_22 : decode prog_8_method_5_code 22 = .ok (.iconst 0, 1) := by decide +kernel
theorem dReform_readLine_23 : decode prog_8_method_5_code 23 = .ok (.ireturn, 1) := by decide +kernel
theorem dReform_readLine_24 : decode prog_8_method_5_code 24 = .ok (.aload_n 1, 1) := by decide +kernel
theorem dReform_readLine_25 : decode prog_8_method_5_code 25 = .ok (.invokevirtual 77, 3) := by decide +kernel
theorem dReform_readLine_28 : decode prog_8_method_5_code 28 = .ok (.aload_n 0, 1) := by decide +kernel
theorem dReform_readLine_29 : decode prog_8_method_5_code 29 = .ok (.getfield 15, 3) := by decide +kernel
theorem dReform_readLine_32 : decode prog_8_method_5_code 32 = .ok (.aload_n 0, 1) := by decide +kernel
theorem dReform_readLine_33 : decode prog_8_method_5_code 33 = .ok (.getfield 37, 3) := by decide +kernel
theorem dReform_readLine_36 : decode prog_8_method_5_code 36 = .ok (.aload_n 0, 1) := by decide +kernel
theorem dReform_readLine_37 : decode prog_8_method_5_code 37 = .ok (.getfield 24, 3) := by decide +kernel
theorem dReform_readLine_40 : decode prog_8_method_5_code 40 = .ok (.iastore, 1) := by decide +kernel
theorem dReform_readLine_41 : decode prog_8_method_5_code 41 = .ok (.aload_n 0, 1) := by decide +kernel
theorem dReform_readLine_42 : decode prog_8_method_5_code 42 = .ok (.aload_n 1, 1) := by decide +kernel
theorem dReform_readLine_43 : decode prog_8_method_5_code 43 = .ok (.iconst 0, 1) := by decide +kernel
theorem dReform_readLine_44 : decode prog_8_method_5_code 44 = .ok (.invokevirtual 80, 3) := by decide +kernel
theorem dReform_readLine_47 : decode prog_8_method_5_code 47 = .ok (.aload_n 0, 1) := by decide +kernel
theorem dReform_readLine_48 : decode prog_8_method_5_code 48 = .ok (.getfield 18, 3) := by decide +kernel
theorem dReform_readLine_51 : decode prog_8_method_5_code 51 = .ok (.aload_n 0, 1) := by decide +kernel
theorem dReform_readLine_52 : decode prog_8_method_5_code 52 = .ok (.getfield 37, 3) := by decide +kernel
theorem dReform_readLine_55 : decode prog_8_method_5_code 55 = .ok (.aload_n 0, 1) := by decide +kernel
theorem dReform_readLine_56 : decode prog_8_method_5_code 56 = .ok (.getfield 24, 3) := by decide +kernel
theorem dReform_readLine_59 : decode prog_8_method_5_code 59 = .ok (.iastore, 1) := by decide +kernel
theorem dReform_readLine_60 : decode prog_8_method_5_code 60 = .ok (.aload_n 0, 1) := by decide +kernel
theorem dReform_readLine_61 : decode prog_8_method_5_code 61 = .ok (.getfield 37, 3) := by decide +kernel
theorem dReform_readLine_64 : decode prog_8_method_5_code 64 = .ok (.bipush 6, 2) := by decide +kernel
theorem dReform_readLine_66 : decode prog_8_method_5_code 66 = .ok (.if_icmp .lt 13, 3) := by decide +kernel
theorem dReform_readLine_69 : decode prog_8_method_5_code 69 = .ok (.aload_n 0, 1) := by decide +kernel
theorem dReform_readLine_70 : decode prog_8_method_5_code 70 = .ok (.dup, 1) := by decide +kernel
theorem dReform_readLine_71 : decode prog_8_method_5_code 71 = .ok (.getfield 31, 3) := by decide +kernel
theorem dReform_readLine_74 : decode prog_8_method_5_code 74 = .ok (.iconst 1, 1) := by decide +kernel
theorem dReform_readLine_75 : decode prog_8_method_5_code 75 = .ok (.iadd, 1) := by decide +kernel
theorem dReform_readLine_76 : decode prog_8_method_5_code 76 = .ok (.putfield 31, 3) := by decide +kernel
theorem dReform_readLine_79 : decode prog_8_method_5_code 79 = .ok (.aload_n 1, 1) := by decide +kernel
theorem dReform_readLine_80 : decode prog_8_method_5_code 80 = .ok (.invokevirtual 84, 3) := by decide +kernel
theorem dReform_readLine_83 : decode prog_8_method_5_code 83 = .ok (.ireturn, 1) := by decide +kernel
theorem dReform_freeSlot_0 : decode prog_8_method_6_code 0 = .ok (.aload_n 1, 1) := by decide +kernel
theorem dReform_freeSlot_1 : decode prog_8_method_6_code 1 = .ok (.invokevirtual 87, 3) := by decide +kernel
theorem dReform_freeSlot_4 : decode prog_8_method_6_code 4 = .ok (.iconst 1, 1) := by decide +kernel
theorem dReform_freeSlot_5 : decode prog_8_method_6_code 5 = .ok (.if_icmp .ne 21, 3) := by decide +kernel
theorem dReform_freeSlot_8 : decode prog_8_method_6_code 8 = .ok (.aload_n 1, 1) := by decide +kernel
theorem dReform_freeSlot_9 : decode prog_8_method_6_code 9 = .ok (.invokevirtual 91, 3) := by decide +kernel
theorem dReform_freeSlot_12 : decode prog_8_method_6_code 12 = .ok (.bipush 14, 2) := by decide +kernel
theorem dReform_freeSlot_14 : decode prog_8_method_6_code 14 = .ok (.if_icmp .lt 12, 3) := by decide +kernel
theorem dReform_freeSlot_17 : decode prog_8_method_6_code 17 = .ok (.aload_n 1, 1) := by decide +kernel
theorem dReform_freeSlot_18 : decode prog_8_method_6_code 18 = .ok (.invokevirtual 91, 3) := by decide +kernel
theorem dReform_freeSlot_21 : decode prog_8_method_6_code 21 = .ok (.bipush 19, 2) := by decide +kernel
theorem dReform_freeSlot_23 : decode prog_8_method_6_code 23 = .ok (.if_icmp .le 5, 3) := by decide +kernel
theorem dReform_freeSlot_26 : decode prog_8_method_6_code 26 = .ok (.iconst (-1), 1) := by decide +kernel
theorem dReform_freeSlot_27 : decode prog_8_method_6_code 27 = .ok (.ireturn, 1) := by decide +kernel
theorem dReform_freeSlot_28 : decode prog_8_method_6_code 28 = .ok (.aload_n 1, 1) := by decide +kernel
theorem dReform_freeSlot_29 : decode prog_8_method_6_code 29 = .ok (.invokevirtual 91, 3) := by decide +kernel
theorem dReform_freeSlot_32 : decode prog_8_method_6_code 32 = .ok (.bipush 15, 2) := by decide +kernel
theorem dReform_freeSlot_34 : decode prog_8_method_6_code 34 = .ok (.if_icmp .ne 23, 3) := by decide +kernel
theorem dReform_freeSlot_37 : decode prog_8_method_6_code 37 = .ok (.aload_n 0, 1) := by decide +kernel
theorem dReform_freeSlot_38 : decode prog_8_method_6_code 38 = .ok (.getfield 31, 3) := by decide +kernel
theorem dReform_freeSlot_41 : decode prog_8_method_6_code 41 = .ok (.iconst 5, 1) := by decide +kernel
theorem dReform_freeSlot_42 : decode prog_8_method_6_code 42 = .ok (.if_icmp .ge 13, 3) := by decide +kernel
theorem dReform_freeSlot_45 : decode prog_8_method_6_code 45 = .ok (.bipush 6, 2) := by decide +kernel
theorem dReform_freeSlot_47 : decode prog_8_method_6_code 47 = .ok (.aload_n 0, 1) := by decide +kernel
theorem dReform_freeSlot_48 : decode prog_8_method_6_code 48 = .ok (.getfield 31, 3) := by decide +kernel
theorem dReform_freeSlot_51 : decode prog_8_method_6_code 51 = .ok (.iadd, 1) := by decide +kernel
theorem dReform_freeSlot_52 : decode prog_8_method_6_code 52 = .ok (.goto 4, 3) := by decide +kernel
theorem dReform_freeSlot_55 : decode prog_8_method_6_code 55 = .ok (.iconst (-1), 1) := by decide +kernel
theorem dReform_freeSlot_56 : decode prog_8_method_6_code 56 = .ok (.ireturn, 1) := by decide +kernel
theorem dReform_freeSlot_57 : decode prog_8_method_6_code 57 = .ok (.aload_n 1, 1) := by decide +kernel
theorem dReform_freeSlot_58 : decode prog_8_method_6_code 58 = .ok (.invokevirtual 91, 3) := by decide +kernel
theorem dReform_freeSlot_61 : decode prog_8_method_6_code 61 = .ok (.bipush 14, 2) := by decide +kernel
theorem dReform_freeSlot_63 : decode prog_8_method_6_code 63 = .ok (.isub, 1) := by decide +kernel
theorem dReform_freeSlot_64 : decode prog_8_method_6_code 64 = .ok (.istore_n 2, 1) := by decide +kernel
theorem dReform_freeSlot_65 : decode prog_8_method_6_code 65 = .ok (.aload_n 0, 1) := by decide +kernel
theorem dReform_freeSlot_66 : decode prog_8_method_6_code 66 = .ok (.getfield 18, 3) := by decide +kernel
theorem dReform_freeSlot_69 : decode prog_8_method_6_code 69 = .ok (.iload_n 2, 1) := by decide +kernel
theorem dReform_freeSlot_70 : decode prog_8_method_6_code 70 = .ok (.iaload, 1) := by decide +kernel
theorem dReform_freeSlot_71 : decode prog_8_method_6_code 71 = .ok (.ifCond .ne 7, 3) := by decide +kernel
theorem dReform_freeSlot_74 : decode prog_8_method_6_code 74 = .ok (.iload_n 2, 1) := by decide +kernel
theorem dReform_freeSlot_75 : decode prog_8_method_6_code 75 = .ok (.goto 4, 3) := by decide +kernel
theorem dReform_freeSlot_78 : decode prog_8_method_6_code 78 = .ok (.iconst (-1), 1) := by decide +kernel
theorem dReform_freeSlot_79 : decode prog_8_method_6_code 79 = .ok (.ireturn, 1) := by decide +kernel
theorem dReform_readEither_0 : decode prog_8_method_7_code 0 = .ok (.aload_n 0, 1) := by decide +kernel
theorem dReform_readEither_1 : decode prog_8_method_7_code 1 = .ok (.aload_n 1, 1) := by decide +kernel
theorem dReform_readEither_2 : decode prog_8_method_7_code 2 = .ok (.iload_n 2, 1) := by decide +kernel
theorem dReform_readEither_3 : decode prog_8_method_7_code 3 = .ok (.invokevirtual 94, 3) := by decide +kernel
theorem dReform_readEither_6 : decode prog_8_method_7_code 6 = .ok (.iconst 0, 1) := by decide +kernel
theorem dReform_readEither_7 : decode prog_8_method_7_code 7 = .ok (.istore_n 3, 1) := by decide +kernel
theorem dReform_readEither_8 : decode prog_8_method_7_code 8 = .ok (.iload_n 3, 1) := by decide +kernel
theorem dReform_readEither_9 : decode prog_8_method_7_code 9 = .ok (.sipush 700, 3) := by decide +kernel
theorem dReform_readEither_12 : decode prog_8_method_7_code 12 = .ok (.if_icmp .ge 34, 3) := by decide +kernel
theorem dReform_readEither_15 : decode prog_8_method_7_code 15 = .ok (.aload_n 1, 1) := by decide +kernel
theorem dReform_readEither_16 : decode prog_8_method_7_code 16 = .ok (.bipush 21, 2) := by decide +kernel
theorem dReform_readEither_18 : decode prog_8_method_7_code 18 = .ok (.invokevirtual 97, 3) := by decide +kernel
theorem dReform_readEither_21 : decode prog_8_method_7_code 21 = .ok (.ifCond .eq 25, 3) := by decide +kernel
theorem dReform_readEither_24 : decode prog_8_method_7_code 24 = .ok (.aload_n 1, 1) := by decide +kernel
theorem dReform_readEither_25 : decode prog_8_method_7_code 25 = .ok (.invokevirtual 77, 3) := by decide +kernel
theorem dReform_readEither_28 : decode prog_8_method_7_code 28 = .ok (.aload_n 0, 1) := by decide +kernel
theorem dReform_readEither_29 : decode prog_8_method_7_code 29 = .ok (.aload_n 1, 1) := by decide +kernel
theorem dReform_readEither_30 : decode prog_8_method_7_code 30 = .ok (.iload_n 2, 1) := by decide +kernel
theorem dReform_readEither_31 : decode prog_8_method_7_code 31 = .ok (.invokevirtual 94, 3) := by decide +kernel
