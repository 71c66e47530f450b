/-! Decode rows: by program. -/
theorem dReform_readEither_34 : decode prog_8_method_7_code 34 = .ok (.aload_n 0, 1) := by decide +kernel
theorem dReform_readEither_35 : decode prog_8_method_7_code 35 = .ok (.bipush 21, 2) := by decide +kernel
theorem dReform_readEither_37 : decode prog_8_method_7_code 37 = .ok (.invokevirtual 101, 3) := by decide +kernel
theorem dReform_readEither_40 : decode prog_8_method_7_code 40 = .ok (.iinc 3 1, 3) := by decide +kernel
theorem dReform_readEither_43 : decode prog_8_method_7_code 43 = .ok (.goto (-35), 3) := by decide +kernel
theorem dReform_readEither_46 : decode prog_8_method_7_code 46 = .ok (.return_, 1) := by decide +kernel
theorem dReform_readBoth_0 : decode prog_8_method_8_code 0 = .ok (.aload_n 0, 1) := by decide +kernel
theorem dReform_readBoth_1 : decode prog_8_method_8_code 1 = .ok (.aload_n 1, 1) := by decide +kernel
theorem dReform_readBoth_2 : decode prog_8_method_8_code 2 = .ok (.iload_n 2, 1) := by decide +kernel
theorem dReform_readBoth_3 : decode prog_8_method_8_code 3 = .ok (.invokevirtual 104, 3) := by decide +kernel
theorem dReform_readBoth_6 : decode prog_8_method_8_code 6 = .ok (.iconst 0, 1) := by decide +kernel
theorem dReform_readBoth_7 : decode prog_8_method_8_code 7 = .ok (.istore_n 3, 1) := by decide +kernel
theorem dReform_readBoth_8 : decode prog_8_method_8_code 8 = .ok (.iload_n 3, 1) := by decide +kernel
theorem dReform_readBoth_9 : decode prog_8_method_8_code 9 = .ok (.sipush 700, 3) := by decide +kernel
theorem dReform_readBoth_12 : decode prog_8_method_8_code 12 = .ok (.if_icmp .ge 34, 3) := by decide +kernel
theorem dReform_readBoth_15 : decode prog_8_method_8_code 15 = .ok (.aload_n 1, 1) := by decide +kernel
theorem dReform_readBoth_16 : decode prog_8_method_8_code 16 = .ok (.bipush 20, 2) := by decide +kernel
theorem dReform_readBoth_18 : decode prog_8_method_8_code 18 = .ok (.invokevirtual 97, 3) := by decide +kernel
theorem dReform_readBoth_21 : decode prog_8_method_8_code 21 = .ok (.ifCond .eq 25, 3) := by decide +kernel
theorem dReform_readBoth_24 : decode prog_8_method_8_code 24 = .ok (.aload_n 1, 1) := by decide +kernel
theorem dReform_readBoth_25 : decode prog_8_method_8_code 25 = .ok (.invokevirtual 77, 3) := by decide +kernel
theorem dReform_readBoth_28 : decode prog_8_method_8_code 28 = .ok (.aload_n 0, 1) := by decide +kernel
theorem dReform_readBoth_29 : decode prog_8_method_8_code 29 = .ok (.aload_n 1, 1) := by decide +kernel
theorem dReform_readBoth_30 : decode prog_8_method_8_code 30 = .ok (.iload_n 2, 1) := by decide +kernel
theorem dReform_readBoth_31 : decode prog_8_method_8_code 31 = .ok (.invokevirtual 104, 3) := by decide +kernel
theorem dReform_readBoth_34 : decode prog_8_method_8_code 34 = .ok (.aload_n 0, 1) := by decide +kernel
theorem dReform_readBoth_35 : decode prog_8_method_8_code 35 = .ok (.bipush 20, 2) := by decide +kernel
theorem dReform_readBoth_37 : decode prog_8_method_8_code 37 = .ok (.invokevirtual 101, 3) := by decide +kernel
theorem dReform_readBoth_40 : decode prog_8_method_8_code 40 = .ok (.iinc 3 1, 3) := by decide +kernel
theorem dReform_readBoth_43 : decode prog_8_method_8_code 43 = .ok (.goto (-35), 3) := by decide +kernel
theorem dReform_readBoth_46 : decode prog_8_method_8_code 46 = .ok (.return_, 1) := by decide +kernel
theorem dReform_readOne_0 : decode prog_8_method_9_code 0 = .ok (.aload_n 1, 1) := by decide +kernel
theorem dReform_readOne_1 : decode prog_8_method_9_code 1 = .ok (.bipush 22, 2) := by decide +kernel
theorem dReform_readOne_3 : decode prog_8_method_9_code 3 = .ok (.invokevirtual 97, 3) := by decide +kernel
theorem dReform_readOne_6 : decode prog_8_method_9_code 6 = .ok (.ifCond .eq 34, 3) := by decide +kernel
theorem dReform_readOne_9 : decode prog_8_method_9_code 9 = .ok (.iload_n 2, 1) := by decide +kernel
theorem dReform_readOne_10 : decode prog_8_method_9_code 10 = .ok (.bipush 6, 2) := by decide +kernel
theorem dReform_readOne_12 : decode prog_8_method_9_code 12 = .ok (.if_icmp .le 9, 3) := by decide +kernel
theorem dReform_readOne_15 : decode prog_8_method_9_code 15 = .ok (.aload_n 1, 1) := by decide +kernel
theorem dReform_readOne_16 : decode prog_8_method_9_code 16 = .ok (.iconst 2, 1) := by decide +kernel
theorem dReform_readOne_17 : decode prog_8_method_9_code 17 = .ok (.invokevirtual 73, 3) := by decide +kernel
theorem dReform_readOne_20 : decode prog_8_method_9_code 20 = .ok (.return_, 1) := by decide +kernel
theorem dReform_readOne_21 : decode prog_8_method_9_code 21 = .ok (.aload_n 1, 1) := by decide +kernel
theorem dReform_readOne_22 : decode prog_8_method_9_code 22 = .ok (.invokevirtual 77, 3) := by decide +kernel
theorem dReform_readOne_25 : decode prog_8_method_9_code 25 = .ok (.aload_n 0, 1) := by decide +kernel
theorem dReform_readOne_26 : decode prog_8_method_9_code 26 = .ok (.aload_n 1, 1) := by decide +kernel
theorem dReform_readOne_27 : decode prog_8_method_9_code 27 = .ok (.iload_n 2, 1) := by decide +kernel
theorem dReform_readOne_28 : decode prog_8_method_9_code 28 = .ok (.iconst 1, 1) := by decide +kernel
theorem dReform_readOne_29 : decode prog_8_method_9_code 29 = .ok (.iadd, 1) := by decide +kernel
theorem dReform_readOne_30 : decode prog_8_method_9_code 30 = .ok (.invokevirtual 104, 3) := by decide +kernel
theorem dReform_readOne_33 : decode prog_8_method_9_code 33 = .ok (.aload_n 0, 1) := by decide +kernel
theorem dReform_readOne_34 : decode prog_8_method_9_code 34 = .ok (.bipush 22, 2) := by decide +kernel
theorem dReform_readOne_36 : decode prog_8_method_9_code 36 = .ok (.invokevirtual 101, 3) := by decide +kernel
theorem dReform_readOne_39 : decode prog_8_method_9_code 39 = .ok (.return_, 1) := by decide +kernel
theorem dReform_readOne_40 : decode prog_8_method_9_code 40 = .ok (.aload_n 0, 1) := by decide +kernel
theorem dReform_readOne_41 : decode prog_8_method_9_code 41 = .ok (.aload_n 1, 1) := by decide +kernel
theorem dReform_readOne_42 : decode prog_8_method_9_code 42 = .ok (.iload_n 2, 1) := by decide +kernel
theorem dReform_readOne_43 : decode prog_8_method_9_code 43 = .ok (.invokevirtual 107, 3) := by decide +kernel
theorem dReform_readOne_46 : decode prog_8_method_9_code 46 = .ok (.aload_n 1, 1) := by decide +kernel
theorem dReform_readOne_47 : decode prog_8_method_9_code 47 = .ok (.bipush 60, 2) := by decide +kernel
theorem dReform_readOne_49 : decode prog_8_method_9_code 49 = .ok (.invokevirtual 110, 3) := by decide +kernel
theorem dReform_readOne_52 : decode prog_8_method_9_code 52 = .ok (.ifCond .ne 21, 3) := by decide +kernel
theorem dReform_readOne_55 : decode prog_8_method_9_code 55 = .ok (.aload_n 1, 1) := by decide +kernel
theorem dReform_readOne_56 : decode prog_8_method_9_code 56 = .ok (.bipush 62, 2) := by decide +kernel
theorem dReform_readOne_58 : decode prog_8_method_9_code 58 = .ok (.invokevirtual 110, 3) := by decide +kernel
theorem dReform_readOne_61 : decode prog_8_method_9_code 61 = .ok (.ifCond .ne 12, 3) := by decide +kernel
theorem dReform_readOne_64 : decode prog_8_method_9_code 64 = .ok (.aload_n 1, 1) := by decide +kernel
theorem dReform_readOne_65 : decode prog_8_method_9_code 65 = .ok (.bipush 61, 2) := by decide +kernel
theorem dReform_readOne_67 : decode prog_8_method_9_code 67 = .ok (.invokevirtual 110, 3) := by decide +kernel
theorem dReform_readOne_70 : decode prog_8_method_9_code 70 = .ok (.ifCond .eq 23, 3) := by decide +kernel
theorem dReform_readOne_73 : decode prog_8_method_9_code 73 = .ok (.aload_n 1, 1) := by decide +kernel
theorem dReform_readOne_74 : decode prog_8_method_9_code 74 = .ok (.invokevirtual 91, 3) := by decide +kernel
theorem dReform_readOne_77 : decode prog_8_method_9_code 77 = .ok (.istore_n 3, 1) := by decide +kernel
theorem dReform_readOne_78 : decode prog_8_method_9_code 78 = .ok (.aload_n 1, 1) := by decide +kernel
theorem dReform_readOne_79 : decode prog_8_method_9_code 79 = .ok (.invokevirtual 77, 3) := by decide +kernel
theorem dReform_readOne_82 : decode prog_8_method_9_code 82 = .ok (.aload_n 0, 1) := by decide +kernel
theorem dReform_readOne_83 : decode prog_8_method_9_code 83 = .ok (.aload_n 1, 1) := by decide +kernel
theorem dReform_readOne_84 : decode prog_8_method_9_code 84 = .ok (.iload_n 2, 1) := by decide +kernel
theorem dReform_readOne_85 : decode prog_8_method_9_code 85 = .ok (.invokevirtual 107, 3) := by decide +kernel
theorem dReform_readOne_88 : decode prog_8_method_9_code 88 = .ok (.aload_n 0, 1) := by decide +kernel
theorem dReform_readOne_89 : decode prog_8_method_9_code 89 = .ok (.iload_n 3, 1) := by decide +kernel
theorem dReform_readOne_90 : decode prog_8_method_9_code 90 = .ok (.invokevirtual 101, 3) := by decide +kernel
theorem dReform_readOne_93 : decode prog_8_method_9_code 93 = .ok (.return_, 1) := by decide +kernel
theorem dReform_readSum_0 : decode prog_8_method_10_code 0 = .ok (.aload_n 0, 1) := by decide +kernel
theorem dReform_readSum_1 : decode prog_8_method_10_code 1 = .ok (.aload_n 1, 1) := by decide +kernel
theorem dReform_readSum_2 : decode prog_8_method_10_code 2 = .ok (.iload_n 2, 1) := by decide +kernel
theorem dReform_readSum_3 : decode prog_8_method_10_code 3 = .ok (.invokevirtual 113, 3) := by decide +kernel
theorem dReform_readSum_6 : decode prog_8_method_10_code 6 = .ok (.iconst 0, 1) := by decide +kernel
theorem dReform_readSum_7 : decode prog_8_method_10_code 7 = .ok (.istore_n 3, 1) := by decide +kernel
theorem dReform_readSum_8 : decode prog_8_method_10_code 8 = .ok (.iload_n 3, 1) := by decide +kernel
theorem dReform_readSum_9 : decode prog_8_method_10_code 9 = .ok (.sipush 700, 3) := by decide +kernel
theorem dReform_readSum_12 : decode prog_8_method_10_code 12 = .ok (.if_icmp .ge 49, 3) := by decide +kernel
theorem dReform_readSum_15 : decode prog_8_method_10_code 15 = .ok (.aload_n 1, 1) := by decide +kernel
theorem dReform_readSum_16 : decode prog_8_method_10_code 16 = .ok (.bipush 43, 2) := by decide +kernel
theorem dReform_readSum_18 : decode prog_8_method_10_code 18 = .ok (.invokevirtual 110, 3) := by decide +kernel
theorem dReform_readSum_21 : decode prog_8_method_10_code 21 = .ok (.ifCond .ne 12, 3) := by decide +kernel
theorem dReform_readSum_24 : decode prog_8_method_10_code 24 = .ok (.aload_n 1, 1) := by decide +kernel
theorem dReform_readSum_25 : decode prog_8_method_10_code 25 = .ok (.bipush 45, 2) := by decide +kernel
theorem dReform_readSum_27 : decode prog_8_method_10_code 27 = .ok (.invokevirtual 110, 3) := by decide +kernel
theorem dReform_readSum_30 : decode prog_8_method_10_code 30 = .ok (.ifCond .eq 31, 3) := by decide +kernel
theorem dReform_readSum_33 : decode prog_8_method_10_code 33 = .ok (.aload_n 1, 1) := by decide +kernel
theorem dReform_readSum_34 : decode prog_8_method_10_code 34 = .ok (.invokevirtual 91, 3) := by decide +kernel
theorem dReform_readSum_37 : decode prog_8_method_10_code 37 = .ok (.istore 4, 2) := by decide +kernel
theorem dReform_readSum_39 : decode prog_8_method_10_code 39 = .ok (.aload_n 1, 1) := by decide +kernel
theorem dReform_readSum_40 : decode prog_8_method_10_code 40 = .ok (.invokevirtual 77, 3) := by decide +kernel
theorem dReform_readSum_43 : decode prog_8_method_10_code 43 = .ok (.aload_n 0, 1) := by decide +kernel
theorem dReform_readSum_44 : decode prog_8_method_10_code 44 = .ok (.aload_n 1, 1) := by decide +kernel
theorem dReform_readSum_45 : decode prog_8_method_10_code 45 = .ok (.iload_n 2, 1) := by decide +kernel
theorem dReform_readSum_46 : decode prog_8_method_10_code 46 = .ok (.invokevirtual 113, 3) := by decide +kernel
theorem dReform_readSum_49 : decode prog_8_method_10_code 49 = .ok (.aload_n 0, 1) := by decide +kernel
theorem dReform_readSum_50 : decode prog_8_method_10_code 50 = .ok (.iload 4, 2) := by decide +kernel
theorem dReform_readSum_52 : decode prog_8_method_10_code 52 = .ok (.invokevirtual 101, 3) := by decide +kernel
theorem dReform_readSum_55 : decode prog_8_method_10_code 55 = .ok (.iinc 3 1, 3) := by decide +kernel
theorem dReform_readSum_58 : decode prog_8_method_10_code 58 = .ok (.goto (-50), 3) := by decide +kernel
theorem dReform_readSum_61 : decode prog_8_method_10_code 61 = .ok (.return_, 1) := by decide +kernel
theorem dReform_readTerm_0 : decode prog_8_method_11_code 0 = .ok (.aload_n 0, 1) := by decide +kernel
theorem dReform_readTerm_1 : decode prog_8_method_11_code 1 = .ok (.aload_n 1, 1) := by decide +kernel
theorem dReform_readTerm_2 : decode prog_8_method_11_code 2 = .ok (.iload_n 2, 1) := by decide +kernel
theorem dReform_readTerm_3 : decode prog_8_method_11_code 3 = .ok (.invokevirtual 116, 3) := by decide +kernel
theorem dReform_readTerm_6 : decode prog_8_method_11_code 6 = .ok (.iconst 0, 1) := by decide +kernel
theorem dReform_readTerm_7 : decode prog_8_method_11_code 7 = .ok (.istore_n 3, 1) := by decide +kernel
theorem dReform_readTerm_8 : decode prog_8_method_11_code 8 = .ok (.iload_n 3, 1) := by decide +kernel
theorem dReform_readTerm_9 : decode prog_8_method_11_code 9 = .ok (.sipush 700, 3) := by decide +kernel
theorem dReform_readTerm_12 : decode prog_8_method_11_code 12 = .ok (.if_icmp .ge 49, 3) := by decide +kernel
theorem dReform_readTerm_15 : decode prog_8_method_11_code 15 = .ok (.aload_n 1, 1) := by decide +kernel
theorem dReform_readTerm_16 : decode prog_8_method_11_code 16 = .ok (.bipush 42, 2) := by decide +kernel
theorem dReform_readTerm_18 : decode prog_8_method_11_code 18 = .ok (.invokevirtual 110, 3) := by decide +kernel
theorem dReform_readTerm_21 : decode prog_8_method_11_code 21 = .ok (.ifCond .ne 12, 3) := by decide +kernel
theorem dReform_readTerm_24 : decode prog_8_method_11_code 24 = .ok (.aload_n 1, 1) := by decide +kernel
theorem dReform_readTerm_25 : decode prog_8_method_11_code 25 = .ok (.bipush 47, 2) := by decide +kernel
theorem dReform_readTerm_27 : decode prog_8_method_11_code 27 = .ok (.invokevirtual 110, 3) := by decide +kernel
theorem dReform_readTerm_30 : decode prog_8_method_11_code 30 = .ok (.ifCond .eq 31, 3) := by decide +kernel
theorem dReform_readTerm_33 : decode prog_8_method_11_code 33 = .ok (.aload_n 1, 1) := by decide +kernel
theorem dReform_readTerm_34 : decode prog_8_method_11_code 34 = .ok (.invokevirtual 91, 3) := by decide +kernel
theorem dReform_readTerm_37 : decode prog_8_method_11_code 37 = .ok (.istore 4, 2) := by decide +kernel
theorem dReform_readTerm_39 : decode prog_8_method_11_code 39 = .ok (.aload_n 1, 1) := by decide +kernel
theorem dReform_readTerm_40 : decode prog_8_method_11_code 40 = .ok (.invokevirtual 77, 3) := by decide +kernel
theorem dReform_readTerm_43 : decode prog_8_method_11_code 43 = .ok (.aload_n 0, 1) := by decide +kernel
theorem dReform_readTerm_44 : decode prog_8_method_11_code 44 = .ok (.aload_n 1, 1) := by decide +kernel
theorem dReform_readTerm_45 : decode prog_8_method_11_code 45 = .ok (.iload_n 2, 1) := by decide +kernel
theorem dReform_readTerm_46 : decode prog_8_method_11_code 46 = .ok (.invokevirtual 116, 3) := by decide +kernel
theorem dReform_readTerm_49 : decode prog_8_method_11_code 49 = .ok (.aload_n 0, 1) := by decide +kernel
theorem dReform_readTerm_50 : decode prog_8_method_11_code 50 = .ok (.iload 4, 2) := by decide +kernel
theorem dReform_readTerm_52 : decode prog_8_method_11_code 52 = .ok (.invokevirtual 101, 3) := by decide +kernel
theorem dReform_readTerm_55 : decode prog_8_method_11_code 55 = .ok (.iinc 3 1, 3) := by decide +kernel
theorem dReform_readTerm_58 : decode prog_8_method_11_code 58 = .ok (.goto (-50), 3) := by decide +kernel
theorem dReform_readTerm_61 : decode prog_8_method_11_code 61 = .ok (.return_, 1) := by decide +kernel
theorem dReform_readUnit_0 : decode prog_8_method_12_code 0 = .ok (.aload_n 1, 1) := by decide +kernel
theorem dReform_readUnit_1 : decode prog_8_method_12_code 1 = .ok (.bipush 40, 2) := by decide +kernel
theorem dReform_readUnit_3 : decode prog_8_method_12_code 3 = .ok (.invokevirtual 110, 3) := by decide +kernel
theorem dReform_readUnit_6 : decode prog_8_method_12_code 6 = .ok (.istore_n 3, 1) := by decide +kernel
theorem dReform_readUnit_7 : decode prog_8_method_12_code 7 = .ok (.aload_n 1, 1) := by decide +kernel
theorem dReform_readUnit_8 : decode prog_8_method_12_code 8 = .ok (.invokevirtual 87, 3) := by decide +kernel
theorem dReform_readUnit_11 : decode prog_8_method_12_code 11 = .ok (.iconst 1, 1) := by decide +kernel
theorem dReform_readUnit_12 : decode prog_8_method_12_code 12 = .ok (.if_icmp .ne 17, 3) := by decide +kernel
theorem dReform_readUnit_15 : decode prog_8_method_12_code 15 = .ok (.aload_n 1, 1) := by decide +kernel
theorem dReform_readUnit_16 : decode prog_8_method_12_code 16 = .ok (.invokevirtual 91, 3) := by decide +kernel
theorem dReform_readUnit_19 : decode prog_8_method_12_code 19 = .ok (.invokestatic 119, 3) := by decide +kernel
theorem dReform_readUnit_22 : decode prog_8_method_12_code 22 = .ok (.ifCond .eq 7, 3) := by decide +kernel
theorem dReform_readUnit_25 : decode prog_8_method_12_code 25 = .ok (.iconst 1, 1) := by decide +kernel
theorem dReform_readUnit_26 : decode prog_8_method_12_code 26 = .ok (.goto 4, 3) := by decide +kernel
theorem dReform_readUnit_29 : decode prog_8_method_12_code 29 = .ok (.iconst 0, 1) := by decide +kernel
theorem dReform_readUnit_30 : decode prog_8_method_12_code 30 = .ok (.istore 4, 2) := by decide +kernel
theorem dReform_readUnit_32 : decode prog_8_method_12_code 32 = .ok (.aload_n 0, 1) := by decide +kernel
theorem dReform_readUnit_33 : decode prog_8_method_12_code 33 = .ok (.getfield 34, 3) := by decide +kernel
theorem dReform_readUnit_36 : decode prog_8_method_12_code 36 = .ok (.bipush 100, 2) := by decide +kernel
theorem dReform_readUnit_38 : decode prog_8_method_12_code 38 = .ok (.if_icmp .ge 29, 3) := by decide +kernel
theorem dReform_readUnit_41 : decode prog_8_method_12_code 41 = .ok (.iload_n 3, 1) := by decide +kernel
theorem dReform_readUnit_42 : decode prog_8_method_12_code 42 = .ok (.ifCond .ne 15, 3) := by decide +kernel
theorem dReform_readUnit_45 : decode prog_8_method_12_code 45 = .ok (.iload 4, 2) := by decide +kernel
theorem dReform_readUnit_47 : decode prog_8_method_12_code 47 = .ok (.ifCond .ne 10, 3) := by decide +kernel
theorem dReform_readUnit_50 : decode prog_8_method_12_code 50 = .ok (.aload_n 1, 1) := by decide +kernel
theorem dReform_readUnit_51 : decode prog_8_method_12_code 51 = .ok (.invokevirtual 122, 3) := by decide +kernel
theorem dReform_readUnit_54 : decode prog_8_method_12_code 54 = .ok (.ifCond .eq 13, 3) := by decide +kernel
theorem dReform_readUnit_57 : decode prog_8_method_12_code 57 = .ok (.iload_n 3, 1) := by decide +kernel
theorem dReform_readUnit_58 : decode prog_8_method_12_code 58 = .ok (.ifCond .eq 15, 3) := by decide +kernel
theorem dReform_readUnit_61 : decode prog_8_method_12_code 61 = .ok (.iload_n 2, 1) := by decide +kernel
theorem dReform_readUnit_62 : decode prog_8_method_12_code 62 = .ok (.bipush 6, 2) := by decide +kernel
theorem dReform_readUnit_64 : decode prog_8_method_12_code 64 = .ok (.if_icmp .le 9, 3) := by decide +kernel
theorem dReform_readUnit_67 : decode prog_8_method_12_code 67 = .ok (.aload_n 1, 1) := by decide +kernel
theorem dReform_readUnit_68 : decode prog_8_method_12_code 68 = .ok (.iconst 2, 1) := by decide +kernel
theorem dReform_readUnit_69 : decode prog_8_method_12_code 69 = .ok (.invokevirtual 73, 3) := by decide +kernel
theorem dReform_readUnit_72 : decode prog_8_method_12_code 72 = .ok (.return_, 1) := by decide +kernel
theorem dReform_readUnit_73 : decode prog_8_method_12_code 73 = .ok (.iload 4, 2) := by decide +kernel
theorem dReform_readUnit_75 : decode prog_8_method_12_code 75 = .ok (.ifCond .eq 20, 3) := by decide +kernel
theorem dReform_readUnit_78 : decode prog_8_method_12_code 78 = .ok (.aload_n 0, 1) := by decide +kernel
theorem dReform_readUnit_79 : decode prog_8_method_12_code 79 = .ok (.aload_n 1, 1) := by decide +kernel
theorem dReform_readUnit_80 : decode prog_8_method_12_code 80 = .ok (.invokevirtual 91, 3) := by decide +kernel
theorem dReform_readUnit_83 : decode prog_8_method_12_code 83 = .ok (.invokevirtual 125, 3) := by decide +kernel
theorem dReform_readUnit_86 : decode prog_8_method_12_code 86 = .ok (.ifCond .ne 9, 3) := by decide +kernel
theorem dReform_readUnit_89 : decode prog_8_method_12_code 89 = .ok (.aload_n 1, 1) := by decide +kernel
theorem dReform_readUnit_90 : decode prog_8_method_12_code 90 = .ok (.iconst 5, 1) := by decide +kernel
theorem dReform_readUnit_91 : decode prog_8_method_12_code 91 = .ok (.invokevirtual 73, 3) := by decide +kernel
theorem dReform_readUnit_94 : decode prog_8_method_12_code 94 = .ok (.return_, 1) := by decide +kernel
theorem dReform_readUnit_95 : decode prog_8_method_12_code 95 = .ok (.aload_n 0, 1) := by decide +kernel
theorem dReform_readUnit_96 : decode prog_8_method_12_code 96 = .ok (.dup, 1) := by decide +kernel
theorem dReform_readUnit_97 : decode prog_8_method_12_code 97 = .ok (.getfield 34, 3) := by decide +kernel
theorem dReform_readUnit_100 : decode prog_8_method_12_code 100 = .ok (.iconst 1, 1) := by decide +kernel
theorem dReform_readUnit_101 : decode prog_8_method_12_code 101 = .ok (.iadd, 1) := by decide +kernel
theorem dReform_readUnit_102 : decode prog_8_method_12_code 102 = .ok (.putfield 34, 3) := by decide +kernel
theorem dReform_readUnit_105 : decode prog_8_method_12_code 105 = .ok (.iload_n 3, 1) := by decide +kernel
theorem dReform_readUnit_106 : decode prog_8_method_12_code 106 = .ok (.ifCond .eq 26, 3) := by decide +kernel
theorem dReform_readUnit_109 : decode prog_8_method_12_code 109 = .ok (.aload_n 1, 1) := by decide +kernel
theorem dReform_readUnit_110 : decode prog_8_method_12_code 110 = .ok (.invokevirtual 77, 3) := by decide +kernel
theorem dReform_readUnit_113 : decode prog_8_method_12_code 113 = .ok (.aload_n 0, 1) := by decide +kernel
theorem dReform_readUnit_114 : decode prog_8_method_12_code 114 = .ok (.aload_n 1, 1) := by decide +kernel
theorem dReform_readUnit_115 : decode prog_8_method_12_code 115 = .ok (.iload_n 2, 1) := by decide +kernel
theorem dReform_readUnit_116 : decode prog_8_method_12_code 116 = .ok (.iconst 1, 1) := by decide +kernel
theorem dReform_readUnit_117 : decode prog_8_method_12_code 117 = .ok (.iadd, 1) := by decide +kernel
theorem dReform_readUnit_118 : decode prog_8_method_12_code 118 = .ok (.invokevirtual 80, 3) := by decide +kernel
theorem dReform_readUnit_121 : decode prog_8_method_12_code 121 = .ok (.aload_n 1, 1) := by decide +kernel
theorem dReform_readUnit_122 : decode prog_8_method_12_code 122 = .ok (.aload_n 1, 1) := by decide +kernel
theorem dReform_readUnit_123 : decode prog_8_method_12_code 123 = .ok (.bipush 41, 2) := by decide +kernel
theorem dReform_readUnit_125 : decode prog_8_method_12_code 125 = .ok (.invokevirtual 110, 3) := by decide +kernel
theorem dReform_readUnit_128 : decode prog_8_method_12_code 128 = .ok (.invokevirtual 128, 3) := by decide +kernel
theorem dReform_readUnit_131 : decode prog_8_method_12_code 131 = .ok (.return_, 1) := by decide +kernel
theorem dReform_readUnit_132 : decode prog_8_method_12_code 132 = .ok (.aload_n 0, 1) := by decide +kernel
theorem dReform_readUnit_133 : decode prog_8_method_12_code 133 = .ok (.iload 4, 2) := by decide +kernel
theorem dReform_readUnit_135 : decode prog_8_method_12_code 135 = .ok (.ifCond .eq 10, 3) := by decide +kernel
theorem dReform_readUnit_138 : decode prog_8_method_12_code 138 = .ok (.aload_n 1, 1) := by decide +kernel
theorem dReform_readUnit_139 : decode prog_8_method_12_code 139 = .ok (.invokevirtual 91, 3) := by decide +kernel
theorem dReform_readUnit_142 : decode prog_8_method_12_code 142 = .ok (.goto 10, 3) := by decide +kernel
theorem dReform_readUnit_145 : decode prog_8_method_12_code 145 = .ok (.bipush 64, 2) := by decide +kernel
theorem dReform_readUnit_147 : decode prog_8_method_12_code 147 = .ok (.aload_n 1, 1) := by decide +kernel
theorem dReform_readUnit_148 : decode prog_8_method_12_code 148 = .ok (.invokevirtual 91, 3) := by decide +kernel
theorem dReform_readUnit_151 : decode prog_8_method_12_code 151 = .ok (.iadd, 1) := by decide +kernel
theorem dReform_readUnit_152 : decode prog_8_method_12_code 152 = .ok (.invokevirtual 101, 3) := by decide +kernel
theorem dReform_readUnit_155 : decode prog_8_method_12_code 155 = .ok (.aload_n 1, 1) := by decide +kernel
theorem dReform_readUnit_156 : decode prog_8_method_12_code 156 = .ok (.invokevirtual 77, 3) := by decide +kernel
theorem dReform_readUnit_159 : decode prog_8_method_12_code 159 = .ok (.return_, 1) := by decide +kernel
theorem dReform_isAsked_0 : decode prog_8_method_13_code 0 = .ok (.iload_n 0, 1) := by decide +kernel
theorem dReform_isAsked_1 : decode prog_8_method_13_code 1 = .ok (.iconst 4, 1) := by decide +kernel
theorem dReform_isAsked_2 : decode prog_8_method_13_code 2 = .ok (.if_icmp .eq 9, 3) := by decide +kernel
theorem dReform_isAsked_5 : decode prog_8_method_13_code 5 = .ok (.iload_n 0, 1) := by decide +kernel
theorem dReform_isAsked_6 : decode prog_8_method_13_code 6 = .ok (.bipush 23, 2) := by decide +kernel
theorem dReform_isAsked_8 : decode prog_8_method_13_code 8 = .ok (.if_icmp .lt 7, 3) := by decide +kernel
theorem dReform_isAsked_11 : decode prog_8_method_13_code 11 = .ok (.iconst 1, 1) := by decide +kernel
theorem dReform_isAsked_12 : decode prog_8_method_13_code 12 = .ok (.goto 4, 3) := by decide +kernel
theorem dReform_isAsked_15 : decode prog_8_method_13_code 15 = .ok (.iconst 0, 1) := by decide +kernel
theorem dReform_isAsked_16 : decode prog_8_method_13_code 16 = .ok (.ireturn, 1) := by decide +kernel
theorem dReform_mayAsk_0 : decode prog_8_method_14_code 0 = .ok (.iload_n 1, 1) := by decide +kernel
theorem dReform_mayAsk_1 : decode prog_8_method_14_code 1 = .ok (.lookupswitch 109 #[(4, 59), (25, 59), (26, 72), (28, 94), (29, 94), (30, 94)], 59) := by decide +kernel
theorem dReform_mayAsk_60 : decode prog_8_method_14_code 60 = .ok (.aload_n 0, 1) := by decide +kernel
theorem dReform_mayAsk_61 : decode prog_8_method_14_code 61 = .ok (.getfield 37, 3) := by decide +kernel
theorem dReform_mayAsk_64 : decode prog_8_method_14_code 64 = .ok (.ifCond .ne 7, 3) := by decide +kernel
theorem dReform_mayAsk_67 : decode prog_8_method_14_code 67 = .ok (.iconst 1, 1) := by decide +kernel
theorem dReform_mayAsk_68 : decode prog_8_method_14_code 68 = .ok (.goto 4, 3) := by decide +kernel
theorem dReform_mayAsk_71 : decode prog_8_method_14_code 71 = .ok (.iconst 0, 1) := by decide +kernel
theorem dReform_mayAsk_72 : decode prog_8_method_14_code 72 = .ok (.ireturn, 1) := by decide +kernel
theorem dReform_mayAsk_73 : decode prog_8_method_14_code 73 = .ok (.aload_n 0, 1) := by decide +kernel
theorem dReform_mayAsk_74 : decode prog_8_method_14_code 74 = .ok (.getfield 37, 3) := by decide +kernel
theorem dReform_mayAsk_77 : decode prog_8_method_14_code 77 = .ok (.ifCond .eq 12, 3) := by decide +kernel
theorem dReform_mayAsk_80 : decode prog_8_method_14_code 80 = .ok (.aload_n 0, 1) := by decide +kernel
theorem dReform_mayAsk_81 : decode prog_8_method_14_code 81 = .ok (.getfield 37, 3) := by decide +kernel
theorem dReform_mayAsk_84 : decode prog_8_method_14_code 84 = .ok (.bipush 6, 2) := by decide +kernel
theorem dReform_mayAsk_86 : decode prog_8_method_14_code 86 = .ok (.if_icmp .lt 7, 3) := by decide +kernel
theorem dReform_mayAsk_89 : decode prog_8_method_14_code 89 = .ok (.iconst 1, 1) := by decide +kernel
theorem dReform_mayAsk_90 : decode prog_8_method_14_code 90 = .ok (.goto 4, 3) := by decide +kernel
theorem dReform_mayAsk_93 : decode prog_8_method_14_code 93 = .ok (.iconst 0, 1) := by decide +kernel
theorem dReform_mayAsk_94 : decode prog_8_method_14_code 94 = .ok (.ireturn, 1) := by decide +kernel
theorem dReform_mayAsk_95 : decode prog_8_method_14_code 95 = .ok (.aload_n 0, 1) := by decide +kernel
theorem dReform_mayAsk_96 : decode prog_8_method_14_code 96 = .ok (.getfield 37, 3) := by decide +kernel
theorem dReform_mayAsk_99 : decode prog_8_method_14_code 99 = .ok (.bipush 6, 2) := by decide +kernel
theorem dReform_mayAsk_101 : decode prog_8_method_14_code 101 = .ok (.if_icmp .lt 7, 3) := by decide +kernel
theorem dReform_mayAsk_104 : decode prog_8_method_14_code 104 = .ok (.iconst 1, 1) := by decide +kernel
theorem dReform_mayAsk_105 : decode prog_8_method_14_code 105 = .ok (.goto 4, 3) := by decide +kernel
theorem dReform_mayAsk_108 : decode prog_8_method_14_code 108 = .ok (.iconst 0, 1) := by decide +kernel
theorem dReform_mayAsk_109 : decode prog_8_method_14_code 109 = .ok (.ireturn, 1) := by decide +kernel
theorem dReform_mayAsk_110 : decode prog_8_method_14_code 110 = .ok (.iconst 1, 1) := by decide +kernel
theorem dReform_mayAsk_111 : decode prog_8_method_14_code 111 = .ok (.ireturn, 1) := by decide +kernel
theorem dReform_emit_0 : decode prog_8_method_15_code 0 = .ok (.aload_n 0, 1) := by decide +kernel
theorem dReform_emit_1 : decode prog_8_method_15_code 1 = .ok (.getfield 24, 3) := by decide +kernel
theorem dReform_emit_4 : decode prog_8_method_15_code 4 = .ok (.sipush 700, 3) := by decide +kernel
theorem dReform_emit_7 : decode prog_8_method_15_code 7 = .ok (.if_icmp .ge 23, 3) := by decide +kernel
theorem dReform_emit_10 : decode prog_8_method_15_code 10 = .ok (.aload_n 0, 1) := by decide +kernel
theorem dReform_emit_11 : decode prog_8_method_15_code 11 = .ok (.getfield 9, 3) := by decide +kernel
theorem dReform_emit_14 : decode prog_8_method_15_code 14 = .ok (.aload_n 0, 1) := by decide +kernel
theorem dReform_emit_15 : decode prog_8_method_15_code 15 = .ok (.getfield 24, 3) := by decide +kernel
theorem dReform_emit_18 : decode prog_8_method_15_code 18 = .ok (.iload_n 1, 1) := by decide +kernel
theorem dReform_emit_19 : decode prog_8_method_15_code 19 = .ok (.iastore, 1) := by decide +kernel
theorem dReform_emit_20 : decode prog_8_method_15_code 20 = .ok (.aload_n 0, 1) := by decide +kernel
theorem dReform_emit_21 : decode prog_8_method_15_code 21 = .ok (.dup, 1) := by decide +kernel
theorem dReform_emit_22 : decode prog_8_method_15_code 22 = .ok (.getfield 24, 3) := by decide +kernel
theorem dReform_emit_25 : decode prog_8_method_15_code 25 = .ok (.iconst 1, 1) := by decide +kernel
theorem dReform_emit_26 : decode prog_8_method_15_code 26 = .ok (.iadd, 1) := by decide +kernel
theorem dReform_emit_27 : decode prog_8_method_15_code 27 = .ok (.putfield 24, 3) := by decide +kernel
theorem dReform_emit_30 : decode prog_8_method_15_code 30 = .ok (.return_, 1) := by decide +kernel
theorem dReform_tell_0 : decode prog_8_method_16_code 0 = .ok (.iconst 0, 1) := by decide +kernel
theorem dReform_tell_1 : decode prog_8_method_16_code 1 = .ok (.istore_n 3, 1) := by decide +kernel
theorem dReform_tell_2 : decode prog_8_method_16_code 2 = .ok (.aload_n 0, 1) := by decide +kernel
theorem dReform_tell_3 : decode prog_8_method_16_code 3 = .ok (.getfield 15, 3) := by decide +kernel
theorem dReform_tell_6 : decode prog_8_method_16_code 6 = .ok (.iload_n 1, 1) := by decide +kernel
theorem dReform_tell_7 : decode prog_8_method_16_code 7 = .ok (.iaload, 1) := by decide +kernel
theorem dReform_tell_8 : decode prog_8_method_16_code 8 = .ok (.istore 4, 2) := by decide +kernel
theorem dReform_tell_10 : decode prog_8_method_16_code 10 = .ok (.iload 4, 2) := by decide +kernel
theorem dReform_tell_12 : decode prog_8_method_16_code 12 = .ok (.aload_n 0, 1) := by decide +kernel
theorem dReform_tell_13 : decode prog_8_method_16_code 13 = .ok (.getfield 18, 3) := by decide +kernel
theorem dReform_tell_16 : decode prog_8_method_16_code 16 = .ok (.iload_n 1, 1) := by decide +kernel
theorem dReform_tell_17 : decode prog_8_method_16_code 17 = .ok (.iaload, 1) := by decide +kernel
theorem dReform_tell_18 : decode prog_8_method_16_code 18 = .ok (.if_icmp .ge 136, 3) := by decide +kernel
theorem dReform_tell_21 : decode prog_8_method_16_code 21 = .ok (.aload_n 0, 1) := by decide +kernel
theorem dReform_tell_22 : decode prog_8_method_16_code 22 = .ok (.getfield 9, 3) := by decide +kernel
theorem dReform_tell_25 : decode prog_8_method_16_code 25 = .ok (.iload 4, 2) := by decide +kernel
theorem dReform_tell_27 : decode prog_8_method_16_code 27 = .ok (.iaload, 1) := by decide +kernel
theorem dReform_tell_28 : decode prog_8_method_16_code 28 = .ok (.istore 5, 2) := by decide +kernel
theorem dReform_tell_30 : decode prog_8_method_16_code 30 = .ok (.iload 5, 2) := by decide +kernel
theorem dReform_tell_32 : decode prog_8_method_16_code 32 = .ok (.bipush 22, 2) := by decide +kernel
theorem dReform_tell_34 : decode prog_8_method_16_code 34 = .ok (.if_icmp .ne 34, 3) := by decide +kernel
theorem dReform_tell_37 : decode prog_8_method_16_code 37 = .ok (.iload_n 3, 1) := by decide +kernel
theorem dReform_tell_38 : decode prog_8_method_16_code 38 = .ok (.ifCond .le 30, 3) := by decide +kernel
theorem dReform_tell_41 : decode prog_8_method_16_code 41 = .ok (.aload_n 0, 1) := by decide +kernel
theorem dReform_tell_42 : decode prog_8_method_16_code 42 = .ok (.getfield 21, 3) := by decide +kernel
theorem dReform_tell_45 : decode prog_8_method_16_code 45 = .ok (.iload_n 3, 1) := by decide +kernel
theorem dReform_tell_46 : decode prog_8_method_16_code 46 = .ok (.iconst 1, 1) := by decide +kernel
theorem dReform_tell_47 : decode prog_8_method_16_code 47 = .ok (.isub, 1) := by decide +kernel
theorem dReform_tell_48 : decode prog_8_method_16_code 48 = .ok (.aload_n 0, 1) := by decide +kernel
theorem dReform_tell_49 : decode prog_8_method_16_code 49 = .ok (.getfield 21, 3) := by decide +kernel
theorem dReform_tell_52 : decode prog_8_method_16_code 52 = .ok (.iload_n 3, 1) := by decide +kernel
theorem dReform_tell_53 : decode prog_8_method_16_code 53 = .ok (.iconst 1, 1) := by decide +kernel
theorem dReform_tell_54 : decode prog_8_method_16_code 54 = .ok (.isub, 1) := by decide +kernel
theorem dReform_tell_55 : decode prog_8_method_16_code 55 = .ok (.iaload, 1) := by decide +kernel
theorem dReform_tell_56 : decode prog_8_method_16_code 56 = .ok (.ifCond .ne 7, 3) := by decide +kernel
theorem dReform_tell_59 : decode prog_8_method_16_code 59 = .ok (.iconst 1, 1) := by decide +kernel
theorem dReform_tell_60 : decode prog_8_method_16_code 60 = .ok (.goto 4, 3) := by decide +kernel
theorem dReform_tell_63 : decode prog_8_method_16_code 63 = .ok (.iconst 0, 1) := by decide +kernel
theorem dReform_tell_64 : decode prog_8_method_16_code 64 = .ok (.iastore, 1) := by decide +kernel
theorem dReform_tell_65 : decode prog_8_method_16_code 65 = .ok (.goto 83, 3) := by decide +kernel
theorem dReform_tell_68 : decode prog_8_method_16_code 68 = .ok (.iload 5, 2) := by decide +kernel
theorem dReform_tell_70 : decode prog_8_method_16_code 70 = .ok (.invokestatic 131, 3) := by decide +kernel
theorem dReform_tell_73 : decode prog_8_method_16_code 73 = .ok (.ifCond .eq 41, 3) := by decide +kernel
theorem dReform_tell_76 : decode prog_8_method_16_code 76 = .ok (.iload_n 3, 1) := by decide +kernel
theorem dReform_tell_77 : decode prog_8_method_16_code 77 = .ok (.iconst 1, 1) := by decide +kernel
theorem dReform_tell_78 : decode prog_8_method_16_code 78 = .ok (.if_icmp .le 36, 3) := by decide +kernel
theorem dReform_tell_81 : decode prog_8_method_16_code 81 = .ok (.iinc 3 (-1), 3) := by decide +kernel
theorem dReform_tell_84 : decode prog_8_method_16_code 84 = .ok (.aload_n 0, 1) := by decide +kernel
theorem dReform_tell_85 : decode prog_8_method_16_code 85 = .ok (.getfield 21, 3) := by decide +kernel
theorem dReform_tell_88 : decode prog_8_method_16_code 88 = .ok (.iload_n 3, 1) := by decide +kernel
theorem dReform_tell_89 : decode prog_8_method_16_code 89 = .ok (.iconst 1, 1) := by decide +kernel
theorem dReform_tell_90 : decode prog_8_method_16_code 90 = .ok (.isub, 1) := by decide +kernel
theorem dReform_tell_91 : decode prog_8_method_16_code 91 = .ok (.iload 5, 2) := by decide +kernel
theorem dReform_tell_93 : decode prog_8_method_16_code 93 = .ok (.aload_n 0, 1) := by decide +kernel
theorem dReform_tell_94 : decode prog_8_method_16_code 94 = .ok (.getfield 21, 3) := by decide +kernel
theorem dReform_tell_97 : decode prog_8_method_16_code 97 = .ok (.iload_n 3, 1) := by decide +kernel
theorem dReform_tell_98 : decode prog_8_method_16_code 98 = .ok (.iconst 1, 1) := by decide +kernel
theorem dReform_tell_99 : decode prog_8_method_16_code 99 = .ok (.isub, 1) := by decide +kernel
theorem dReform_tell_100 : decode prog_8_method_16_code 100 = .ok (.iaload, 1) := by decide +kernel
theorem dReform_tell_101 : decode prog_8_method_16_code 101 = .ok (.aload_n 0, 1) := by decide +kernel
theorem dReform_tell_102 : decode prog_8_method_16_code 102 = .ok (.getfield 21, 3) := by decide +kernel
theorem dReform_tell_105 : decode prog_8_method_16_code 105 = .ok (.iload_n 3, 1) := by decide +kernel
theorem dReform_tell_106 : decode prog_8_method_16_code 106 = .ok (.iaload, 1) := by decide +kernel
theorem dReform_tell_107 : decode prog_8_method_16_code 107 = .ok (.invokestatic 134, 3) := by decide +kernel
theorem dReform_tell_110 : decode prog_8_method_16_code 110 = .ok (.iastore, 1) := by decide +kernel
theorem dReform_tell_111 : decode prog_8_method_16_code 111 = .ok (.goto 37, 3) := by decide +kernel
theorem dReform_tell_114 : decode prog_8_method_16_code 114 = .ok (.iload_n 3, 1) := by decide +kernel
theorem dReform_tell_115 : decode prog_8_method_16_code 115 = .ok (.bipush 100, 2) := by decide +kernel
theorem dReform_tell_117 : decode prog_8_method_16_code 117 = .ok (.if_icmp .ge 31, 3) := by decide +kernel
theorem dReform_tell_120 : decode prog_8_method_16_code 120 = .ok (.aload_n 0, 1) := by decide +kernel
theorem dReform_tell_121 : decode prog_8_method_16_code 121 = .ok (.getfield 21, 3) := by decide +kernel
theorem dReform_tell_124 : decode prog_8_method_16_code 124 = .ok (.iload_n 3, 1) := by decide +kernel
theorem dReform_tell_125 : decode prog_8_method_16_code 125 = .ok (.iload 5, 2) := by decide +kernel
theorem dReform_tell_127 : decode prog_8_method_16_code 127 = .ok (.bipush 64, 2) := by decide +kernel
theorem dReform_tell_129 : decode prog_8_method_16_code 129 = .ok (.if_icmp .lt 11, 3) := by decide +kernel
theorem dReform_tell_132 : decode prog_8_method_16_code 132 = .ok (.iload 5, 2) := by decide +kernel
theorem dReform_tell_134 : decode prog_8_method_16_code 134 = .ok (.bipush 64, 2) := by decide +kernel
theorem dReform_tell_136 : decode prog_8_method_16_code 136 = .ok (.isub, 1) := by decide +kernel
theorem dReform_tell_137 : decode prog_8_method_16_code 137 = .ok (.goto 7, 3) := by decide +kernel
theorem dReform_tell_140 : decode prog_8_method_16_code 140 = .ok (.aload_n 2, 1) := by decide +kernel
theorem dReform_tell_141 : decode prog_8_method_16_code 141 = .ok (.iload 5, 2) := by decide +kernel
theorem dReform_tell_143 : decode prog_8_method_16_code 143 = .ok (.iaload, 1) := by decide +kernel
theorem dReform_tell_144 : decode prog_8_method_16_code 144 = .ok (.iastore, 1) := by decide +kernel
theorem dReform_tell_145 : decode prog_8_method_16_code 145 = .ok (.iinc 3 1, 3) := by decide +kernel
theorem dReform_tell_148 : decode prog_8_method_16_code 148 = .ok (.iinc 4 1, 3) := by decide +kernel
theorem dReform_tell_151 : decode prog_8_method_16_code 151 = .ok (.goto (-141), 3) := by decide +kernel
theorem dReform_tell_154 : decode prog_8_method_16_code 154 = .ok (.iload_n 3, 1) := by decide +kernel
theorem dReform_tell_155 : decode prog_8_method_16_code 155 = .ok (.ifCond .le 12, 3) := by decide +kernel
theorem dReform_tell_158 : decode prog_8_method_16_code 158 = .ok (.aload_n 0, 1) := by decide +kernel
theorem dReform_tell_159 : decode prog_8_method_16_code 159 = .ok (.getfield 21, 3) := by decide +kernel
theorem dReform_tell_162 : decode prog_8_method_16_code 162 = .ok (.iconst 0, 1) := by decide +kernel
theorem dReform_tell_163 : decode prog_8_method_16_code 163 = .ok (.iaload, 1) := by decide +kernel
theorem dReform_tell_164 : decode prog_8_method_16_code 164 = .ok (.goto 4, 3) := by decide +kernel
theorem dReform_tell_167 : decode prog_8_method_16_code 167 = .ok (.iconst 0, 1) := by decide +kernel
theorem dReform_tell_168 : decode prog_8_method_16_code 168 = .ok (.ireturn, 1) := by decide +kernel
theorem dReform_isJoint_0 : decode prog_8_method_17_code 0 = .ok (.iload_n 0, 1) := by decide +kernel
theorem dReform_isJoint_1 : decode prog_8_method_17_code 1 = .ok (.bipush 20, 2) := by decide +kernel
theorem dReform_isJoint_3 : decode prog_8_method_17_code 3 = .ok (.if_icmp .eq 21, 3) := by decide +kernel
theorem dReform_isJoint_6 : decode prog_8_method_17_code 6 = .ok (.iload_n 0, 1) := by decide +kernel
theorem dReform_isJoint_7 : decode prog_8_method_17_code 7 = .ok (.bipush 21, 2) := by decide +kernel
theorem dReform_isJoint_9 : decode prog_8_method_17_code 9 = .ok (.if_icmp .eq 15, 3) := by decide +kernel
theorem dReform_isJoint_12 : decode prog_8_method_17_code 12 = .ok (.iload_n 0, 1) := by decide +kernel
theorem dReform_isJoint_13 : decode prog_8_method_17_code 13 = .ok (.bipush 32, 2) := by decide +kernel
theorem dReform_isJoint_15 : decode prog_8_method_17_code 15 = .ok (.if_icmp .lt 13, 3) := by decide +kernel
theorem dReform_isJoint_18 : decode prog_8_method_17_code 18 = .ok (.iload_n 0, 1) := by decide +kernel
theorem dReform_isJoint_19 : decode prog_8_method_17_code 19 = .ok (.bipush 64, 2) := by decide +kernel
theorem dReform_isJoint_21 : decode prog_8_method_17_code 21 = .ok (.if_icmp .ge 7, 3) := by decide +kernel
theorem dReform_isJoint_24 : decode prog_8_method_17_code 24 = .ok (.iconst 1, 1) := by decide +kernel
theorem dReform_isJoint_25 : decode prog_8_method_17_code 25 = .ok (.goto 4, 3) := by decide +kernel
theorem dReform_isJoint_28 : decode prog_8_method_17_code 28 = .ok (.iconst 0, 1) := by decide +kernel
theorem dReform_isJoint_29 : decode prog_8_method_17_code 29 = .ok (.ireturn, 1) := by decide +kernel
theorem dReform_join_0 : decode prog_8_method_18_code 0 = .ok (.iload_n 0, 1) := by decide +kernel
theorem dReform_join_1 : decode prog_8_method_18_code 1 = .ok (.lookupswitch 168 #[(20, 140), (21, 154), (42, 91), (43, 83), (45, 87), (47, 95), (60, 107), (61, 129), (62, 118)], 83) := by decide +kernel
theorem dReform_join_84 : decode prog_8_method_18_code 84 = .ok (.iload_n 1, 1) := by decide +kernel
theorem dReform_join_85 : decode prog_8_method_18_code 85 = .ok (.iload_n 2, 1) := by decide +kernel
theorem dReform_join_86 : decode prog_8_method_18_code 86 = .ok (.iadd, 1) := by decide +kernel
theorem dReform_join_87 : decode prog_8_method_18_code 87 = .ok (.ireturn, 1) := by decide +kernel
theorem dReform_join_88 : decode prog_8_method_18_code 88 = .ok (.iload_n 1, 1) := by decide +kernel
theorem dReform_join_89 : decode prog_8_method_18_code 89 = .ok (.iload_n 2, 1) := by decide +kernel
theorem dReform_join_90 : decode prog_8_method_18_code 90 = .ok (.isub, 1) := by decide +kernel
theorem dReform_join_91 : decode prog_8_method_18_code 91 = .ok (.ireturn, 1) := by decide +kernel
theorem dReform_join_92 : decode prog_8_method_18_code 92 = .ok (.iload_n 1, 1) := by decide +kernel
theorem dReform_join_93 : decode prog_8_method_18_code 93 = .ok (.iload_n 2, 1) := by decide +kernel
theorem dReform_join_94 : decode prog_8_method_18_code 94 = .ok (.imul, 1) := by decide +kernel
theorem dReform_join_95 : decode prog_8_method_18_code 95 = .ok (.ireturn, 1) := by decide +kernel
theorem dReform_join_96 : decode prog_8_method_18_code 96 = .ok (.iload_n 2, 1) := by decide +kernel
theorem dReform_join_97 : decode prog_8_method_18_code 97 = .ok (.ifCond .ne 7, 3) := by decide +kernel
theorem dReform_join_100 : decode prog_8_method_18_code 100 = .ok (.iconst 0, 1) := by decide +kernel
theorem dReform_join_101 : decode prog_8_method_18_code 101 = .ok (.goto 6, 3) := by decide +kernel
theorem dReform_join_104 : decode prog_8_method_18_code 104 = .ok (.iload_n 1, 1) := by decide +kernel
theorem dReform_join_105 : decode prog_8_method_18_code 105 = .ok (.iload_n 2, 1) := by decide +kernel
theorem dReform_join_106 : decode prog_8_method_18_code 106 = .ok (.idiv, 1) := by decide +kernel
theorem dReform_join_107 : decode prog_8_method_18_code 107 = .ok (.ireturn, 1) := by decide +kernel
theorem dReform_join_108 : decode prog_8_method_18_code 108 = .ok (.iload_n 1, 1) := by decide +kernel
theorem dReform_join_109 : decode prog_8_method_18_code 109 = .ok (.iload_n 2, 1) := by decide +kernel
theorem dReform_join_110 : decode prog_8_method_18_code 110 = .ok (.if_icmp .ge 7, 3) := by decide +kernel
theorem dReform_join_113 : decode prog_8_method_18_code 113 = .ok (.iconst 1, 1) := by decide +kernel
theorem dReform_join_114 : decode prog_8_method_18_code 114 = .ok (.goto 4, 3) := by decide +kernel
theorem dReform_join_117 : decode prog_8_method_18_code 117 = .ok (.iconst 0, 1) := by decide +kernel
theorem dReform_join_118 : decode prog_8_method_18_code 118 = .ok (.ireturn, 1) := by decide +kernel
theorem dReform_join_119 : decode prog_8_method_18_code 119 = .ok (.iload_n 1, 1) := by decide +kernel
theorem dReform_join_120 : decode prog_8_method_18_code 120 = .ok (.iload_n 2, 1) := by decide +kernel
theorem dReform_join_121 : decode prog_8_method_18_code 121 = .ok (.if_icmp .le 7, 3) := by decide +kernel
theorem dReform_join_124 : decode prog_8_method_18_code 124 = .ok (.iconst 1, 1) := by decide +kernel
theorem dReform_join_125 : decode prog_8_method_18_code 125 = .ok (.goto 4, 3) := by decide +kernel
theorem dReform_join_128 : decode prog_8_method_18_code 128 = .ok (.iconst 0, 1) := by decide +kernel
theorem dReform_join_129 : decode prog_8_method_18_code 129 = .ok (.ireturn, 1) := by decide +kernel
theorem dReform_join_130 : decode prog_8_method_18_code 130 = .ok (.iload_n 1, 1) := by decide +kernel
theorem dReform_join_131 : decode prog_8_method_18_code 131 = .ok (.iload_n 2, 1) := by decide +kernel
theorem dReform_join_132 : decode prog_8_method_18_code 132 = .ok (.if_icmp .ne 7, 3) := by decide +kernel
theorem dReform_join_135 : decode prog_8_method_18_code 135 = .ok (.iconst 1, 1) := by decide +kernel
theorem dReform_join_136 : decode prog_8_method_18_code 136 = .ok (.goto 4, 3) := by decide +kernel
theorem dReform_join_139 : decode prog_8_method_18_code 139 = .ok (.iconst 0, 1) := by decide +kernel
theorem dReform_join_140 : decode prog_8_method_18_code 140 = .ok (.ireturn, 1) := by decide +kernel
theorem dReform_join_141 : decode prog_8_method_18_code 141 = .ok (.iload_n 1, 1) := by decide +kernel
theorem dReform_join_142 : decode prog_8_method_18_code 142 = .ok (.ifCond .eq 11, 3) := by decide +kernel
theorem dReform_join_145 : decode prog_8_method_18_code 145 = .ok (.iload_n 2, 1) := by decide +kernel
theorem dReform_join_146 : decode prog_8_method_18_code 146 = .ok (.ifCond .eq 7, 3) := by decide +kernel
theorem dReform_join_149 : decode prog_8_method_18_code 149 = .ok (.iconst 1, 1) := by decide +kernel
theorem dReform_join_150 : decode prog_8_method_18_code 150 = .ok (.goto 4, 3) := by decide +kernel
theorem dReform_join_153 : decode prog_8_method_18_code 153 = .ok (.iconst 0, 1) := by decide +kernel
theorem dReform_join_154 : decode prog_8_method_18_code 154 = .ok (.ireturn, 1) := by decide +kernel
theorem dReform_join_155 : decode prog_8_method_18_code 155 = .ok (.iload_n 1, 1) := by decide +kernel
theorem dReform_join_156 : decode prog_8_method_18_code 156 = .ok (.ifCond .ne 7, 3) := by decide +kernel
theorem dReform_join_159 : decode prog_8_method_18_code 159 = .ok (.iload_n 2, 1) := by decide +kernel
theorem dReform_join_160 : decode prog_8_method_18_code 160 = .ok (.ifCond .eq 7, 3) := by decide +kernel
theorem dReform_join_163 : decode prog_8_method_18_code 163 = .ok (.iconst 1, 1) := by decide +kernel
theorem dReform_join_164 : decode prog_8_method_18_code 164 = .ok (.goto 4, 3) := by decide +kernel
theorem dReform_join_167 : decode prog_8_method_18_code 167 = .ok (.iconst 0, 1) := by decide +kernel
theorem dReform_join_168 : decode prog_8_method_18_code 168 = .ok (.ireturn, 1) := by decide +kernel
theorem dReform_join_169 : decode prog_8_method_18_code 169 = .ok (.iconst 0, 1) := by decide +kernel
theorem dReform_join_170 : decode prog_8_method_18_code 170 = .ok (.ireturn, 1) := by decide +kernel
theorem dRun_init_0 : decode prog_9_method_1_code 0 = .ok (.aload_n 0, 1) := by decide +kernel
theorem dRun_init_1 : decode prog_9_method_1_code 1 = .ok (.invokespecial 3, 3) := by decide +kernel
theorem dRun_init_4 : decode prog_9_method_1_code 4 = .ok (.aload_n 0, 1) := by decide +kernel
theorem dRun_init_5 : decode prog_9_method_1_code 5 = .ok (.new 9, 3) := by decide +kernel
theorem dRun_init_8 : decode prog_9_method_1_code 8 = .ok (.dup, 1) := by decide +kernel
theorem dRun_init_9 : decode prog_9_method_1_code 9 = .ok (.invokespecial 11, 3) := by decide +kernel
theorem dRun_init_12 : decode prog_9_method_1_code 12 = .ok (.putfield 12, 3) := by decide +kernel
theorem dRun_init_15 : decode prog_9_method_1_code 15 = .ok (.aload_n 0, 1) := by decide +kernel
theorem dRun_init_16 : decode prog_9_method_1_code 16 = .ok (.new 18, 3) := by decide +kernel
theorem dRun_init_19 : decode prog_9_method_1_code 19 = .ok (.dup, 1) := by decide +kernel
theorem dRun_init_20 : decode prog_9_method_1_code 20 = .ok (.invokespecial 20, 3) := by decide +kernel
theorem dRun_init_23 : decode prog_9_method_1_code 23 = .ok (.putfield 21, 3) := by decide +kernel
theorem dRun_init_26 : decode prog_9_method_1_code 26 = .ok (.aload_n 0, 1) := by decide +kernel
theorem dRun_init_27 : decode prog_9_method_1_code 27 = .ok (.new 25, 3) := by decide +kernel
theorem dRun_init_30 : decode prog_9_method_1_code 30 = .ok (.dup, 1) := by decide +kernel
theorem dRun_init_31 : decode prog_9_method_1_code 31 = .ok (.invokespecial 27, 3) := by decide +kernel
theorem dRun_init_34 : decode prog_9_method_1_code 34 = .ok (.putfield 28, 3) := by decide +kernel
theorem dRun_init_37 : decode prog_9_method_1_code 37 = .ok (.aload_n 0, 1) := by decide +kernel
theorem dRun_init_38 : decode prog_9_method_1_code 38 = .ok (.new 32, 3) := by decide +kernel
theorem dRun_init_41 : decode prog_9_method_1_code 41 = .ok (.dup, 1) := by decide +kernel
theorem dRun_init_42 : decode prog_9_method_1_code 42 = .ok (.invokespecial 34, 3) := by decide +kernel
theorem dRun_init_45 : decode prog_9_method_1_code 45 = .ok (.putfield 35, 3) := by decide +kernel
theorem dRun_init_48 : decode prog_9_method_1_code 48 = .ok (.aload_n 0, 1) := by decide +kernel
theorem dRun_init_49 : decode prog_9_method_1_code 49 = .ok (.new 39, 3) := by decide +kernel
theorem dRun_init_52 : decode prog_9_method_1_code 52 = .ok (.dup, 1) := by decide +kernel
theorem dRun_init_53 : decode prog_9_method_1_code 53 = .ok (.invokespecial 41, 3) := by decide +kernel
theorem dRun_init_56 : decode prog_9_method_1_code 56 = .ok (.putfield 42, 3) := by decide +kernel
theorem dRun_init_59 : decode prog_9_method_1_code 59 = .ok (.aload_n 0, 1) := by decide +kernel
theorem dRun_init_60 : decode prog_9_method_1_code 60 = .ok (.new 46, 3) := by decide +kernel
theorem dRun_init_63 : decode prog_9_method_1_code 63 = .ok (.dup, 1) := by decide +kernel
theorem dRun_init_64 : decode prog_9_method_1_code 64 = .ok (.invokespecial 48, 3) := by decide +kernel
theorem dRun_init_67 : decode prog_9_method_1_code 67 = .ok (.putfield 49, 3) := by decide +kernel
theorem dRun_init_70 : decode prog_9_method_1_code 70 = .ok (.aload_n 0, 1) := by decide +kernel
theorem dRun_init_71 : decode prog_9_method_1_code 71 = .ok (.new 53, 3) := by decide +kernel
theorem dRun_init_74 : decode prog_9_method_1_code 74 = .ok (.dup, 1) := by decide +kernel
theorem dRun_init_75 : decode prog_9_method_1_code 75 = .ok (.invokespecial 55, 3) := by decide +kernel
theorem dRun_init_78 : decode prog_9_method_1_code 78 = .ok (.putfield 56, 3) := by decide +kernel
theorem dRun_init_81 : decode prog_9_method_1_code 81 = .ok (.aload_n 0, 1) := by decide +kernel
theorem dRun_init_82 : decode prog_9_method_1_code 82 = .ok (.new 60, 3) := by decide +kernel
theorem dRun_init_85 : decode prog_9_method_1_code 85 = .ok (.dup, 1) := by decide +kernel
theorem dRun_init_86 : decode prog_9_method_1_code 86 = .ok (.invokespecial 62, 3) := by decide +kernel
theorem dRun_init_89 : decode prog_9_method_1_code 89 = .ok (.putfield 63, 3) := by decide +kernel
theorem dRun_init_92 : decode prog_9_method_1_code 92 = .ok (.aload_n 0, 1) := by decide +kernel
theorem dRun_init_93 : decode prog_9_method_1_code 93 = .ok (.bipush 64, 2) := by decide +kernel
theorem dRun_init_95 : decode prog_9_method_1_code 95 = .ok (.newarray .int, 2) := by decide +kernel
theorem dRun_init_97 : decode prog_9_method_1_code 97 = .ok (.putfield 67, 3) := by decide +kernel
theorem dRun_init_100 : decode prog_9_method_1_code 100 = .ok (.aload_n 0, 1) := by decide +kernel
theorem dRun_init_101 : decode prog_9_method_1_code 101 = .ok (.bipush 11, 2) := by decide +kernel
theorem dRun_init_103 : decode prog_9_method_1_code 103 = .ok (.newarray .int, 2) := by decide +kernel
theorem dRun_init_105 : decode prog_9_method_1_code 105 = .ok (.putfield 71, 3) := by decide +kernel
theorem dRun_init_108 : decode prog_9_method_1_code 108 = .ok (.aload_n 0, 1) := by decide +kernel
theorem dRun_init_109 : decode prog_9_method_1_code 109 = .ok (.bipush 6, 2) := by decide +kernel
theorem dRun_init_111 : decode prog_9_method_1_code 111 = .ok (.newarray .long, 2) := by decide +kernel
theorem dRun_init_113 : decode prog_9_method_1_code 113 = .ok (.putfield 74, 3) := by decide +kernel
theorem dRun_init_116 : decode prog_9_method_1_code 116 = .ok (.aload_n 0, 1) := by decide +kernel
theorem dRun_init_117 : decode prog_9_method_1_code 117 = .ok (.bipush 18, 2) := by decide +kernel
theorem dRun_init_119 : decode prog_9_method_1_code 119 = .ok (.newarray .int, 2) := by decide +kernel
theorem dRun_init_121 : decode prog_9_method_1_code 121 = .ok (.putfield 78, 3) := by decide +kernel
theorem dRun_init_124 : decode prog_9_method_1_code 124 = .ok (.aload_n 0, 1) := by decide +kernel
theorem dRun_init_125 : decode prog_9_method_1_code 125 = .ok (.bipush 6, 2) := by decide +kernel
theorem dRun_init_127 : decode prog_9_method_1_code 127 = .ok (.newarray .int, 2) := by decide +kernel
theorem dRun_init_129 : decode prog_9_method_1_code 129 = .ok (.putfield 81, 3) := by decide +kernel
theorem dRun_init_132 : decode prog_9_method_1_code 132 = .ok (.aload_n 0, 1) := by decide +kernel
theorem dRun_init_133 : decode prog_9_method_1_code 133 = .ok (.bipush 6, 2) := by decide +kernel
theorem dRun_init_135 : decode prog_9_method_1_code 135 = .ok (.newarray .int, 2) := by decide +kernel
theorem dRun_init_137 : decode prog_9_method_1_code 137 = .ok (.putfield 84, 3) := by decide +kernel
theorem dRun_init_140 : decode prog_9_method_1_code 140 = .ok (.aload_n 0, 1) := by decide +kernel
theorem dRun_init_141 : decode prog_9_method_1_code 141 = .ok (.bipush 11, 2) := by decide +kernel
theorem dRun_init_143 : decode prog_9_method_1_code 143 = .ok (.newarray .long, 2) := by decide +kernel
theorem dRun_init_145 : decode prog_9_method_1_code 145 = .ok (.putfield 87, 3) := by decide +kernel
theorem dRun_init_148 : decode prog_9_method_1_code 148 = .ok (.aload_n 0, 1) := by decide +kernel
theorem dRun_init_149 : decode prog_9_method_1_code 149 = .ok (.iconst 0, 1) := by decide +kernel
theorem dRun_init_150 : decode prog_9_method_1_code 150 = .ok (.putfield 90, 3) := by decide +kernel
theorem dRun_init_153 : decode prog_9_method_1_code 153 = .ok (.aload_n 0, 1) := by decide +kernel
theorem dRun_init_154 : decode prog_9_method_1_code 154 = .ok (.iconst 0, 1) := by decide +kernel
theorem dRun_init_155 : decode prog_9_method_1_code 155 = .ok (.putfield 94, 3) := by decide +kernel
theorem dRun_init_158 : decode prog_9_method_1_code 158 = .ok (.aload_n 0, 1) := by decide +kernel
theorem dRun_init_159 : decode prog_9_method_1_code 159 = .ok (.iconst 0, 1) := by decide +kernel
theorem dRun_init_160 : decode prog_9_method_1_code 160 = .ok (.putfield 98, 3) := by decide +kernel
theorem dRun_init_163 : decode prog_9_method_1_code 163 = .ok (.aload_n 0, 1) := by decide +kernel
theorem dRun_init_164 : decode prog_9_method_1_code 164 = .ok (.iconst 0, 1) := by decide +kernel
theorem dRun_init_165 : decode prog_9_method_1_code 165 = .ok (.putfield 101, 3) := by decide +kernel
theorem dRun_init_168 : decode prog_9_method_1_code 168 = .ok (.aload_n 0, 1) := by decide +kernel
theorem dRun_init_169 : decode prog_9_method_1_code 169 = .ok (.ldc2_w 104, 3) := by decide +kernel
theorem dRun_init_172 : decode prog_9_method_1_code 172 = .ok (.putfield 106, 3) := by decide +kernel
theorem dRun_init_175 : decode prog_9_method_1_code 175 = .ok (.return_, 1) := by decide +kernel
theorem dRun_play_0 : decode prog_9_method_2_code 0 = .ok (.aload_n 0, 1) := by decide +kernel
theorem dRun_play_1 : decode prog_9_method_2_code 1 = .ok (.aload_n 1, 1) := by decide +kernel
theorem dRun_play_2 : decode prog_9_method_2_code 2 = .ok (.putfield 12, 3) := by decide +kernel
theorem dRun_play_5 : decode prog_9_method_2_code 5 = .ok (.aload_n 0, 1) := by decide +kernel
theorem dRun_play_6 : decode prog_9_method_2_code 6 = .ok (.aload_n 2, 1) := by decide +kernel
theorem dRun_play_7 : decode prog_9_method_2_code 7 = .ok (.putfield 21, 3) := by decide +kernel
theorem dRun_play_10 : decode prog_9_method_2_code 10 = .ok (.aload_n 0, 1) := by decide +kernel
theorem dRun_play_11 : decode prog_9_method_2_code 11 = .ok (.iload 5, 2) := by decide +kernel
theorem dRun_play_13 : decode prog_9_method_2_code 13 = .ok (.putfield 94, 3) := by decide +kernel
theorem dRun_play_16 : decode prog_9_method_2_code 16 = .ok (.aload_n 0, 1) := by decide +kernel
theorem dRun_play_17 : decode prog_9_method_2_code 17 = .ok (.getfield 28, 3) := by decide +kernel
theorem dRun_play_20 : decode prog_9_method_2_code 20 = .ok (.aload_n 3, 1) := by decide +kernel
theorem dRun_play_21 : decode prog_9_method_2_code 21 = .ok (.invokevirtual 110, 3) := by decide +kernel
theorem dRun_play_24 : decode prog_9_method_2_code 24 = .ok (.aload_n 0, 1) := by decide +kernel
theorem dRun_play_25 : decode prog_9_method_2_code 25 = .ok (.aload 4, 2) := by decide +kernel
theorem dRun_play_27 : decode prog_9_method_2_code 27 = .ok (.iload 6, 2) := by decide +kernel
theorem dRun_play_29 : decode prog_9_method_2_code 29 = .ok (.invokevirtual 114, 3) := by decide +kernel
theorem dRun_play_32 : decode prog_9_method_2_code 32 = .ok (.aload_n 0, 1) := by decide +kernel
theorem dRun_play_33 : decode prog_9_method_2_code 33 = .ok (.iconst 0, 1) := by decide +kernel
theorem dRun_play_34 : decode prog_9_method_2_code 34 = .ok (.putfield 98, 3) := by decide +kernel
theorem dRun_play_37 : decode prog_9_method_2_code 37 = .ok (.aload_n 0, 1) := by decide +kernel
theorem dRun_play_38 : decode prog_9_method_2_code 38 = .ok (.getfield 98, 3) := by decide +kernel
theorem dRun_play_41 : decode prog_9_method_2_code 41 = .ok (.iload 5, 2) := by decide +kernel
theorem dRun_play_43 : decode prog_9_method_2_code 43 = .ok (.if_icmp .ge 114, 3) := by decide +kernel
theorem dRun_play_46 : decode prog_9_method_2_code 46 = .ok (.aload_n 0, 1) := by decide +kernel
theorem dRun_play_47 : decode prog_9_method_2_code 47 = .ok (.getfield 42, 3) := by decide +kernel
theorem dRun_play_50 : decode prog_9_method_2_code 50 = .ok (.aload_n 0, 1) := by decide +kernel
theorem dRun_play_51 : decode prog_9_method_2_code 51 = .ok (.getfield 98, 3) := by decide +kernel
theorem dRun_play_54 : decode prog_9_method_2_code 54 = .ok (.invokevirtual 118, 3) := by decide +kernel
theorem dRun_play_57 : decode prog_9_method_2_code 57 = .ok (.aload_n 0, 1) := by decide +kernel
theorem dRun_play_58 : decode prog_9_method_2_code 58 = .ok (.invokevirtual 122, 3) := by decide +kernel
theorem dRun_play_61 : decode prog_9_method_2_code 61 = .ok (.aload_n 0, 1) := by decide +kernel
theorem dRun_play_62 : decode prog_9_method_2_code 62 = .ok (.aload 4, 2) := by decide +kernel
theorem dRun_play_64 : decode prog_9_method_2_code 64 = .ok (.iload 6, 2) := by decide +kernel
theorem dRun_play_66 : decode prog_9_method_2_code 66 = .ok (.invokevirtual 125, 3) := by decide +kernel
theorem dRun_play_69 : decode prog_9_method_2_code 69 = .ok (.aload_n 0, 1) := by decide +kernel
theorem dRun_play_70 : decode prog_9_method_2_code 70 = .ok (.invokevirtual 128, 3) := by decide +kernel
theorem dRun_play_73 : decode prog_9_method_2_code 73 = .ok (.aload_n 0, 1) := by decide +kernel
theorem dRun_play_74 : decode prog_9_method_2_code 74 = .ok (.invokevirtual 131, 3) := by decide +kernel
theorem dRun_play_77 : decode prog_9_method_2_code 77 = .ok (.aload_n 0, 1) := by decide +kernel
theorem dRun_play_78 : decode prog_9_method_2_code 78 = .ok (.invokevirtual 134, 3) := by decide +kernel
theorem dRun_play_81 : decode prog_9_method_2_code 81 = .ok (.aload_n 0, 1) := by decide +kernel
theorem dRun_play_82 : decode prog_9_method_2_code 82 = .ok (.getfield 87, 3) := by decide +kernel
theorem dRun_play_85 : decode prog_9_method_2_code 85 = .ok (.iconst 0, 1) := by decide +kernel
theorem dRun_play_86 : decode prog_9_method_2_code 86 = .ok (.dup2, 1) := by decide +kernel
theorem dRun_play_87 : decode prog_9_method_2_code 87 = .ok (.laload, 1) := by decide +kernel
theorem dRun_play_88 : decode prog_9_method_2_code 88 = .ok (.aload_n 0, 1) := by decide +kernel
theorem dRun_play_89 : decode prog_9_method_2_code 89 = .ok (.getfield 35, 3) := by decide +kernel
theorem dRun_play_92 : decode prog_9_method_2_code 92 = .ok (.aload_n 0, 1) := by decide +kernel
theorem dRun_play_93 : decode prog_9_method_2_code 93 = .ok (.getfield 12, 3) := by decide +kernel
theorem dRun_play_96 : decode prog_9_method_2_code 96 = .ok (.invokevirtual 137, 3) := by decide +kernel
theorem dRun_play_99 : decode prog_9_method_2_code 99 = .ok (.i2l, 1) := by decide +kernel
theorem dRun_play_100 : decode prog_9_method_2_code 100 = .ok (.ladd, 1) := by decide +kernel
theorem dRun_play_101 : decode prog_9_method_2_code 101 = .ok (.lastore, 1) := by decide +kernel
theorem dRun_play_102 : decode prog_9_method_2_code 102 = .ok (.aload_n 0, 1) := by decide +kernel
theorem dRun_play_103 : decode prog_9_method_2_code 103 = .ok (.getfield 35, 3) := by decide +kernel
theorem dRun_play_106 : decode prog_9_method_2_code 106 = .ok (.aload_n 0, 1) := by decide +kernel
theorem dRun_play_107 : decode prog_9_method_2_code 107 = .ok (.getfield 12, 3) := by decide +kernel
theorem dRun_play_110 : decode prog_9_method_2_code 110 = .ok (.invokevirtual 141, 3) := by decide +kernel
theorem dRun_play_113 : decode prog_9_method_2_code 113 = .ok (.aload_n 0, 1) := by decide +kernel
theorem dRun_play_114 : decode prog_9_method_2_code 114 = .ok (.invokevirtual 145, 3) := by decide +kernel
theorem dRun_play_117 : decode prog_9_method_2_code 117 = .ok (.aload_n 0, 1) := by decide +kernel
theorem dRun_play_118 : decode prog_9_method_2_code 118 = .ok (.invokevirtual 148, 3) := by decide +kernel
theorem dRun_play_121 : decode prog_9_method_2_code 121 = .ok (.aload_n 0, 1) := by decide +kernel
theorem dRun_play_122 : decode prog_9_method_2_code 122 = .ok (.getfield 56, 3) := by decide +kernel
theorem dRun_play_125 : decode prog_9_method_2_code 125 = .ok (.aload_n 0, 1) := by decide +kernel
theorem dRun_play_126 : decode prog_9_method_2_code 126 = .ok (.getfield 35, 3) := by decide +kernel
theorem dRun_play_129 : decode prog_9_method_2_code 129 = .ok (.aload_n 0, 1) := by decide +kernel
theorem dRun_play_130 : decode prog_9_method_2_code 130 = .ok (.getfield 12, 3) := by decide +kernel
theorem dRun_play_133 : decode prog_9_method_2_code 133 = .ok (.aload_n 0, 1) := by decide +kernel
theorem dRun_play_134 : decode prog_9_method_2_code 134 = .ok (.getfield 42, 3) := by decide +kernel
theorem dRun_play_137 : decode prog_9_method_2_code 137 = .ok (.aload_n 0, 1) := by decide +kernel
theorem dRun_play_138 : decode prog_9_method_2_code 138 = .ok (.getfield 98, 3) := by decide +kernel
theorem dRun_play_141 : decode prog_9_method_2_code 141 = .ok (.invokevirtual 151, 3) := by decide +kernel
theorem dRun_play_144 : decode prog_9_method_2_code 144 = .ok (.aload_n 0, 1) := by decide +kernel
theorem dRun_play_145 : decode prog_9_method_2_code 145 = .ok (.dup, 1) := by decide +kernel
theorem dRun_play_146 : decode prog_9_method_2_code 146 = .ok (.getfield 98, 3) := by decide +kernel
theorem dRun_play_149 : decode prog_9_method_2_code 149 = .ok (.iconst 1, 1) := by decide +kernel
theorem dRun_play_150 : decode prog_9_method_2_code 150 = .ok (.iadd, 1) := by decide +kernel
theorem dRun_play_151 : decode prog_9_method_2_code 151 = .ok (.putfield 98, 3) := by decide +kernel
theorem dRun_play_154 : decode prog_9_method_2_code 154 = .ok (.goto (-117), 3) := by decide +kernel
theorem dRun_play_157 : decode prog_9_method_2_code 157 = .ok (.aload_n 0, 1) := by decide +kernel
theorem dRun_play_158 : decode prog_9_method_2_code 158 = .ok (.invokevirtual 155, 3) := by decide +kernel
theorem dRun_play_161 : decode prog_9_method_2_code 161 = .ok (.return_, 1) := by decide +kernel
theorem dRun_begin_0 : decode prog_9_method_3_code 0 = .ok (.aload_n 0, 1) := by decide +kernel
theorem dRun_begin_1 : decode prog_9_method_3_code 1 = .ok (.getfield 35, 3) := by decide +kernel
theorem dRun_begin_4 : decode prog_9_method_3_code 4 = .ok (.aload_n 0, 1) := by decide +kernel
theorem dRun_begin_5 : decode prog_9_method_3_code 5 = .ok (.getfield 12, 3) := by decide +kernel
theorem dRun_begin_8 : decode prog_9_method_3_code 8 = .ok (.invokevirtual 158, 3) := by decide +kernel
theorem dRun_begin_11 : decode prog_9_method_3_code 11 = .ok (.aload_n 0, 1) := by decide +kernel
theorem dRun_begin_12 : decode prog_9_method_3_code 12 = .ok (.getfield 42, 3) := by decide +kernel
theorem dRun_begin_15 : decode prog_9_method_3_code 15 = .ok (.aload_n 1, 1) := by decide +kernel
theorem dRun_begin_16 : decode prog_9_method_3_code 16 = .ok (.iload_n 2, 1) := by decide +kernel
theorem dRun_begin_17 : decode prog_9_method_3_code 17 = .ok (.invokevirtual 161, 3) := by decide +kernel
theorem dRun_begin_20 : decode prog_9_method_3_code 20 = .ok (.aload_n 0, 1) := by decide +kernel
theorem dRun_begin_21 : decode prog_9_method_3_code 21 = .ok (.getfield 49, 3) := by decide +kernel
theorem dRun_begin_24 : decode prog_9_method_3_code 24 = .ok (.invokevirtual 163, 3) := by decide +kernel
theorem dRun_begin_27 : decode prog_9_method_3_code 27 = .ok (.aload_n 0, 1) := by decide +kernel
theorem dRun_begin_28 : decode prog_9_method_3_code 28 = .ok (.getfield 87, 3) := by decide +kernel
theorem dRun_begin_31 : decode prog_9_method_3_code 31 = .ok (.lconst 0, 1) := by decide +kernel
theorem dRun_begin_32 : decode prog_9_method_3_code 32 = .ok (.invokestatic 165, 3) := by decide +kernel
theorem dRun_begin_35 : decode prog_9_method_3_code 35 = .ok (.aload_n 0, 1) := by decide +kernel
theorem dRun_begin_36 : decode prog_9_method_3_code 36 = .ok (.getfield 78, 3) := by decide +kernel
theorem dRun_begin_39 : decode prog_9_method_3_code 39 = .ok (.iconst (-1), 1) := by decide +kernel
theorem dRun_begin_40 : decode prog_9_method_3_code 40 = .ok (.invokestatic 171, 3) := by decide +kernel
theorem dRun_begin_43 : decode prog_9_method_3_code 43 = .ok (.iconst 0, 1) := by decide +kernel
theorem dRun_begin_44 : decode prog_9_method_3_code 44 = .ok (.istore_n 3, 1) := by decide +kernel
theorem dRun_begin_45 : decode prog_9_method_3_code 45 = .ok (.iload_n 3, 1) := by decide +kernel
theorem dRun_begin_46 : decode prog_9_method_3_code 46 = .ok (.aload_n 0, 1) := by decide +kernel
theorem dRun_begin_47 : decode prog_9_method_3_code 47 = .ok (.getfield 21, 3) := by decide +kernel
theorem dRun_begin_50 : decode prog_9_method_3_code 50 = .ok (.getfield 174, 3) := by decide +kernel
theorem dRun_begin_53 : decode prog_9_method_3_code 53 = .ok (.if_icmp .ge 25, 3) := by decide +kernel
theorem dRun_begin_56 : decode prog_9_method_3_code 56 = .ok (.aload_n 0, 1) := by decide +kernel
theorem dRun_begin_57 : decode prog_9_method_3_code 57 = .ok (.getfield 74, 3) := by decide +kernel
theorem dRun_begin_60 : decode prog_9_method_3_code 60 = .ok (.iload_n 3, 1) := by decide +kernel
theorem dRun_begin_61 : decode prog_9_method_3_code 61 = .ok (.aload_n 0, 1) := by decide +kernel
theorem dRun_begin_62 : decode prog_9_method_3_code 62 = .ok (.getfield 21, 3) := by decide +kernel
theorem dRun_begin_65 : decode prog_9_method_3_code 65 = .ok (.getfield 177, 3) := by decide +kernel
theorem dRun_begin_68 : decode prog_9_method_3_code 68 = .ok (.iload_n 3, 1) := by decide +kernel
theorem dRun_begin_69 : decode prog_9_method_3_code 69 = .ok (.iaload, 1) := by decide +kernel
theorem dRun_begin_70 : decode prog_9_method_3_code 70 = .ok (.i2l, 1) := by decide +kernel
theorem dRun_begin_71 : decode prog_9_method_3_code 71 = .ok (.lastore, 1) := by decide +kernel
theorem dRun_begin_72 : decode prog_9_method_3_code 72 = .ok (.iinc 3 1, 3) := by decide +kernel
theorem dRun_begin_75 : decode prog_9_method_3_code 75 = .ok (.goto (-30), 3) := by decide +kernel
theorem dRun_begin_78 : decode prog_9_method_3_code 78 = .ok (.aload_n 0, 1) := by decide +kernel
theorem dRun_begin_79 : decode prog_9_method_3_code 79 = .ok (.aload_n 1, 1) := by decide +kernel
theorem dRun_begin_80 : decode prog_9_method_3_code 80 = .ok (.iload_n 2, 1) := by decide +kernel
theorem dRun_begin_81 : decode prog_9_method_3_code 81 = .ok (.invokevirtual 179, 3) := by decide +kernel
theorem dRun_begin_84 : decode prog_9_method_3_code 84 = .ok (.return_, 1) := by decide +kernel
theorem dRun_readDeaths_0 : decode prog_9_method_4_code 0 = .ok (.aload_n 0, 1) := by decide +kernel
theorem dRun_readDeaths_1 : decode prog_9_method_4_code 1 = .ok (.getfield 81, 3) := by decide +kernel
theorem dRun_readDeaths_4 : decode prog_9_method_4_code 4 = .ok (.ldc 182, 2) := by decide +kernel
theorem dRun_readDeaths_6 : decode prog_9_method_4_code 6 = .ok (.invokestatic 171, 3) := by decide +kernel
theorem dRun_readDeaths_9 : decode prog_9_method_4_code 9 = .ok (.aload_n 0, 1) := by decide +kernel
theorem dRun_readDeaths_10 : decode prog_9_method_4_code 10 = .ok (.getfield 84, 3) := by decide +kernel
theorem dRun_readDeaths_13 : decode prog_9_method_4_code 13 = .ok (.iconst (-1), 1) := by decide +kernel
theorem dRun_readDeaths_14 : decode prog_9_method_4_code 14 = .ok (.invokestatic 171, 3) := by decide +kernel
theorem dRun_readDeaths_17 : decode prog_9_method_4_code 17 = .ok (.iconst 0, 1) := by decide +kernel
theorem dRun_readDeaths_18 : decode prog_9_method_4_code 18 = .ok (.istore_n 3, 1) := by decide +kernel
theorem dRun_readDeaths_19 : decode prog_9_method_4_code 19 = .ok (.iload_n 3, 1) := by decide +kernel
theorem dRun_readDeaths_20 : decode prog_9_method_4_code 20 = .ok (.aload_n 1, 1) := by decide +kernel
theorem dRun_readDeaths_21 : decode prog_9_method_4_code 21 = .ok (.getfield 183, 3) := by decide +kernel
theorem dRun_readDeaths_24 : decode prog_9_method_4_code 24 = .ok (.if_icmp .ge 69, 3) := by decide +kernel
theorem dRun_readDeaths_27 : decode prog_9_method_4_code 27 = .ok (.aload_n 1, 1) := by decide +kernel
theorem dRun_readDeaths_28 : decode prog_9_method_4_code 28 = .ok (.getfield 188, 3) := by decide +kernel
theorem dRun_readDeaths_31 : decode prog_9_method_4_code 31 = .ok (.iload_n 3, 1) := by decide +kernel
theorem dRun_readDeaths_32 : decode prog_9_method_4_code 32 = .ok (.iaload, 1) := by decide +kernel
theorem dRun_readDeaths_33 : decode prog_9_method_4_code 33 = .ok (.istore 4, 2) := by decide +kernel
theorem dRun_readDeaths_35 : decode prog_9_method_4_code 35 = .ok (.aload_n 1, 1) := by decide +kernel
theorem dRun_readDeaths_36 : decode prog_9_method_4_code 36 = .ok (.iload_n 3, 1) := by decide +kernel
theorem dRun_readDeaths_37 : decode prog_9_method_4_code 37 = .ok (.iconst 2, 1) := by decide +kernel
theorem dRun_readDeaths_38 : decode prog_9_method_4_code 38 = .ok (.iload_n 2, 1) := by decide +kernel
theorem dRun_readDeaths_39 : decode prog_9_method_4_code 39 = .ok (.invokevirtual 191, 3) := by decide +kernel
theorem dRun_readDeaths_42 : decode prog_9_method_4_code 42 = .ok (.ifCond .eq 45, 3) := by decide +kernel
theorem dRun_readDeaths_45 : decode prog_9_method_4_code 45 = .ok (.aload_n 1, 1) := by decide +kernel
theorem dRun_readDeaths_46 : decode prog_9_method_4_code 46 = .ok (.getfield 195, 3) := by decide +kernel
theorem dRun_readDeaths_49 : decode prog_9_method_4_code 49 = .ok (.iload_n 3, 1) := by decide +kernel
theorem dRun_readDeaths_50 : decode prog_9_method_4_code 50 = .ok (.iaload, 1) := by decide +kernel
theorem dRun_readDeaths_51 : decode prog_9_method_4_code 51 = .ok (.aload_n 0, 1) := by decide +kernel
theorem dRun_readDeaths_52 : decode prog_9_method_4_code 52 = .ok (.getfield 81, 3) := by decide +kernel
theorem dRun_readDeaths_55 : decode prog_9_method_4_code 55 = .ok (.iload 4, 2) := by decide +kernel
theorem dRun_readDeaths_57 : decode prog_9_method_4_code 57 = .ok (.iaload, 1) := by decide +kernel
theorem dRun_readDeaths_58 : decode prog_9_method_4_code 58 = .ok (.if_icmp .gt 29, 3) := by decide +kernel
theorem dRun_readDeaths_61 : decode prog_9_method_4_code 61 = .ok (.aload_n 0, 1) := by decide +kernel
theorem dRun_readDeaths_62 : decode prog_9_method_4_code 62 = .ok (.getfield 81, 3) := by decide +kernel
theorem dRun_readDeaths_65 : decode prog_9_method_4_code 65 = .ok (.iload 4, 2) := by decide +kernel
theorem dRun_readDeaths_67 : decode prog_9_method_4_code 67 = .ok (.aload_n 1, 1) := by decide +kernel
theorem dRun_readDeaths_68 : decode prog_9_method_4_code 68 = .ok (.getfield 195, 3) := by decide +kernel
theorem dRun_readDeaths_71 : decode prog_9_method_4_code 71 = .ok (.iload_n 3, 1) := by decide +kernel
theorem dRun_readDeaths_72 : decode prog_9_method_4_code 72 = .ok (.iaload, 1) := by decide +kernel
theorem dRun_readDeaths_73 : decode prog_9_method_4_code 73 = .ok (.iastore, 1) := by decide +kernel
theorem dRun_readDeaths_74 : decode prog_9_method_4_code 74 = .ok (.aload_n 0, 1) := by decide +kernel
theorem dRun_readDeaths_75 : decode prog_9_method_4_code 75 = .ok (.getfield 84, 3) := by decide +kernel
theorem dRun_readDeaths_78 : decode prog_9_method_4_code 78 = .ok (.iload 4, 2) := by decide +kernel
theorem dRun_readDeaths_80 : decode prog_9_method_4_code 80 = .ok (.aload_n 1, 1) := by decide +kernel
theorem dRun_readDeaths_81 : decode prog_9_method_4_code 81 = .ok (.getfield 197, 3) := by decide +kernel
theorem dRun_readDeaths_84 : decode prog_9_method_4_code 84 = .ok (.iload_n 3, 1) := by decide +kernel
theorem dRun_readDeaths_85 : decode prog_9_method_4_code 85 = .ok (.iaload, 1) := by decide +kernel
theorem dRun_readDeaths_86 : decode prog_9_method_4_code 86 = .ok (.iastore, 1) := by decide +kernel
theorem dRun_readDeaths_87 : decode prog_9_method_4_code 87 = .ok (.iinc 3 1, 3) := by decide +kernel
theorem dRun_readDeaths_90 : decode prog_9_method_4_code 90 = .ok (.goto (-71), 3) := by decide +kernel
theorem dRun_readDeaths_93 : decode prog_9_method_4_code 93 = .ok (.return_, 1) := by decide +kernel
theorem dRun_finish_0 : decode prog_9_method_5_code 0 = .ok (.aload_n 0, 1) := by decide +kernel
theorem dRun_finish_1 : decode prog_9_method_5_code 1 = .ok (.aload_n 0, 1) := by decide +kernel
theorem dRun_finish_2 : decode prog_9_method_5_code 2 = .ok (.getfield 94, 3) := by decide +kernel
theorem dRun_finish_5 : decode prog_9_method_5_code 5 = .ok (.putfield 98, 3) := by decide +kernel
theorem dRun_finish_8 : decode prog_9_method_5_code 8 = .ok (.aload_n 0, 1) := by decide +kernel
theorem dRun_finish_9 : decode prog_9_method_5_code 9 = .ok (.invokevirtual 128, 3) := by decide +kernel
theorem dRun_finish_12 : decode prog_9_method_5_code 12 = .ok (.aload_n 0, 1) := by decide +kernel
theorem dRun_finish_13 : decode prog_9_method_5_code 13 = .ok (.getfield 42, 3) := by decide +kernel
theorem dRun_finish_16 : decode prog_9_method_5_code 16 = .ok (.invokevirtual 200, 3) := by decide +kernel
theorem dRun_finish_19 : decode prog_9_method_5_code 19 = .ok (.aload_n 0, 1) := by decide +kernel
theorem dRun_finish_20 : decode prog_9_method_5_code 20 = .ok (.getfield 87, 3) := by decide +kernel
theorem dRun_finish_23 : decode prog_9_method_5_code 23 = .ok (.bipush 6, 2) := by decide +kernel
theorem dRun_finish_25 : decode prog_9_method_5_code 25 = .ok (.aload_n 0, 1) := by decide +kernel
theorem dRun_finish_26 : decode prog_9_method_5_code 26 = .ok (.getfield 42, 3) := by decide +kernel
theorem dRun_finish_29 : decode prog_9_method_5_code 29 = .ok (.getfield 203, 3) := by decide +kernel
theorem dRun_finish_32 : decode prog_9_method_5_code 32 = .ok (.i2l, 1) := by decide +kernel
theorem dRun_finish_33 : decode prog_9_method_5_code 33 = .ok (.lastore, 1) := by decide +kernel
theorem dRun_finish_34 : decode prog_9_method_5_code 34 = .ok (.aload_n 0, 1) := by decide +kernel
theorem dRun_finish_35 : decode prog_9_method_5_code 35 = .ok (.getfield 87, 3) := by decide +kernel
theorem dRun_finish_38 : decode prog_9_method_5_code 38 = .ok (.bipush 7, 2) := by decide +kernel
theorem dRun_finish_40 : decode prog_9_method_5_code 40 = .ok (.aload_n 0, 1) := by decide +kernel
theorem dRun_finish_41 : decode prog_9_method_5_code 41 = .ok (.getfield 42, 3) := by decide +kernel
theorem dRun_finish_44 : decode prog_9_method_5_code 44 = .ok (.getfield 206, 3) := by decide +kernel
theorem dRun_finish_47 : decode prog_9_method_5_code 47 = .ok (.i2l, 1) := by decide +kernel
theorem dRun_finish_48 : decode prog_9_method_5_code 48 = .ok (.lastore, 1) := by decide +kernel
theorem dRun_finish_49 : decode prog_9_method_5_code 49 = .ok (.aload_n 0, 1) := by decide +kernel
theorem dRun_finish_50 : decode prog_9_method_5_code 50 = .ok (.getfield 87, 3) := by decide +kernel
theorem dRun_finish_53 : decode prog_9_method_5_code 53 = .ok (.bipush 10, 2) := by decide +kernel
theorem dRun_finish_55 : decode prog_9_method_5_code 55 = .ok (.aload_n 0, 1) := by decide +kernel
theorem dRun_finish_56 : decode prog_9_method_5_code 56 = .ok (.getfield 94, 3) := by decide +kernel
theorem dRun_finish_59 : decode prog_9_method_5_code 59 = .ok (.i2l, 1) := by decide +kernel
theorem dRun_finish_60 : decode prog_9_method_5_code 60 = .ok (.lastore, 1) := by decide +kernel
theorem dRun_finish_61 : decode prog_9_method_5_code 61 = .ok (.aload_n 0, 1) := by decide +kernel
theorem dRun_finish_62 : decode prog_9_method_5_code 62 = .ok (.iconst 1, 1) := by decide +kernel
theorem dRun_finish_63 : decode prog_9_method_5_code 63 = .ok (.putfield 90, 3) := by decide +kernel
theorem dRun_finish_66 : decode prog_9_method_5_code 66 = .ok (.return_, 1) := by decide +kernel
theorem dRun_isDead_0 : decode prog_9_method_6_code 0 = .ok (.aload_n 0, 1) := by decide +kernel
theorem dRun_isDead_1 : decode prog_9_method_6_code 1 = .ok (.getfield 81, 3) := by decide +kernel
theorem dRun_isDead_4 : decode prog_9_method_6_code 4 = .ok (.iload_n 1, 1) := by decide +kernel
theorem dRun_isDead_5 : decode prog_9_method_6_code 5 = .ok (.iaload, 1) := by decide +kernel
theorem dRun_isDead_6 : decode prog_9_method_6_code 6 = .ok (.aload_n 0, 1) := by decide +kernel
theorem dRun_isDead_7 : decode prog_9_method_6_code 7 = .ok (.getfield 98, 3) := by decide +kernel
theorem dRun_isDead_10 : decode prog_9_method_6_code 10 = .ok (.if_icmp .gt 7, 3) := by decide +kernel
theorem dRun_isDead_13 : decode prog_9_method_6_code 13 = .ok (.iconst 1, 1) := by decide +kernel
theorem dRun_isDead_14 : decode prog_9_method_6_code 14 = .ok (.goto 4, 3) := by decide +kernel
theorem dRun_isDead_17 : decode prog_9_method_6_code 17 = .ok (.iconst 0, 1) := by decide +kernel
theorem dRun_isDead_18 : decode prog_9_method_6_code 18 = .ok (.ireturn, 1) := by decide +kernel
theorem dRun_buryDead_0 : decode prog_9_method_7_code 0 = .ok (.iconst 0, 1) := by decide +kernel
theorem dRun_buryDead_1 : decode prog_9_method_7_code 1 = .ok (.istore_n 1, 1) := by decide +kernel
theorem dRun_buryDead_2 : decode prog_9_method_7_code 2 = .ok (.iload_n 1, 1) := by decide +kernel
theorem dRun_buryDead_3 : decode prog_9_method_7_code 3 = .ok (.aload_n 0, 1) := by decide +kernel
theorem dRun_buryDead_4 : decode prog_9_method_7_code 4 = .ok (.getfield 21, 3) := by decide +kernel
theorem dRun_buryDead_7 : decode prog_9_method_7_code 7 = .ok (.getfield 174, 3) := by decide +kernel
theorem dRun_buryDead_10 : decode prog_9_method_7_code 10 = .ok (.if_icmp .ge 27, 3) := by decide +kernel
theorem dRun_buryDead_13 : decode prog_9_method_7_code 13 = .ok (.aload_n 0, 1) := by decide +kernel
theorem dRun_buryDead_14 : decode prog_9_method_7_code 14 = .ok (.getfield 81, 3) := by decide +kernel
theorem dRun_buryDead_17 : decode prog_9_method_7_code 17 = .ok (.iload_n 1, 1) := by decide +kernel
theorem dRun_buryDead_18 : decode prog_9_method_7_code 18 = .ok (.iaload, 1) := by decide +kernel
theorem dRun_buryDead_19 : decode prog_9_method_7_code 19 = .ok (.aload_n 0, 1) := by decide +kernel
theorem dRun_buryDead_20 : decode prog_9_method_7_code 20 = .ok (.getfield 98, 3) := by decide +kernel
theorem dRun_buryDead_23 : decode prog_9_method_7_code 23 = .ok (.if_icmp .ne 8, 3) := by decide +kernel
theorem dRun_buryDead_26 : decode prog_9_method_7_code 26 = .ok (.aload_n 0, 1) := by decide +kernel
theorem dRun_buryDead_27 : decode prog_9_method_7_code 27 = .ok (.iload_n 1, 1) := by decide +kernel
theorem dRun_buryDead_28 : decode prog_9_method_7_code 28 = .ok (.invokevirtual 209, 3) := by decide +kernel
theorem dRun_buryDead_31 : decode prog_9_method_7_code 31 = .ok (.iinc 1 1, 3) := by decide +kernel
theorem dRun_buryDead_34 : decode prog_9_method_7_code 34 = .ok (.goto (-32), 3) := by decide +kernel
theorem dRun_buryDead_37 : decode prog_9_method_7_code 37 = .ok (.return_, 1) := by decide +kernel
theorem dRun_bury_0 : decode prog_9_method_8_code 0 = .ok (.aload_n 0, 1) := by decide +kernel
theorem dRun_bury_1 : decode prog_9_method_8_code 1 = .ok (.getfield 84, 3) := by decide +kernel
theorem dRun_bury_4 : decode prog_9_method_8_code 4 = .ok (.iload_n 1, 1) := by decide +kernel
theorem dRun_bury_5 : decode prog_9_method_8_code 5 = .ok (.iaload, 1) := by decide +kernel
theorem dRun_bury_6 : decode prog_9_method_8_code 6 = .ok (.istore_n 2, 1) := by decide +kernel
theorem dRun_bury_7 : decode prog_9_method_8_code 7 = .ok (.iload_n 2, 1) := by decide +kernel
theorem dRun_bury_8 : decode prog_9_method_8_code 8 = .ok (.iconst (-1), 1) := by decide +kernel
theorem dRun_bury_9 : decode prog_9_method_8_code 9 = .ok (.if_icmp .eq 13, 3) := by decide +kernel
theorem dRun_bury_12 : decode prog_9_method_8_code 12 = .ok (.aload_n 0, 1) := by decide +kernel
theorem dRun_bury_13 : decode prog_9_method_8_code 13 = .ok (.iload_n 2, 1) := by decide +kernel
theorem dRun_bury_14 : decode prog_9_method_8_code 14 = .ok (.invokevirtual 212, 3) := by decide +kernel
theorem dRun_bury_17 : decode prog_9_method_8_code 17 = .ok (.ifCond .eq 5, 3) := by decide +kernel
theorem dRun_bury_20 : decode prog_9_method_8_code 20 = .ok (.iconst (-1), 1) := by decide +kernel
theorem dRun_bury_21 : decode prog_9_method_8_code 21 = .ok (.istore_n 2, 1) := by decide +kernel
theorem dRun_bury_22 : decode prog_9_method_8_code 22 = .ok (.aload_n 0, 1) := by decide +kernel
theorem dRun_bury_23 : decode prog_9_method_8_code 23 = .ok (.iload_n 2, 1) := by decide +kernel
theorem dRun_bury_24 : decode prog_9_method_8_code 24 = .ok (.aload_n 0, 1) := by decide +kernel
theorem dRun_bury_25 : decode prog_9_method_8_code 25 = .ok (.getfield 74, 3) := by decide +kernel
theorem dRun_bury_28 : decode prog_9_method_8_code 28 = .ok (.iload_n 1, 1) := by decide +kernel
theorem dRun_bury_29 : decode prog_9_method_8_code 29 = .ok (.laload, 1) := by decide +kernel
theorem dRun_bury_30 : decode prog_9_method_8_code 30 = .ok (.invokevirtual 216, 3) := by decide +kernel
theorem dRun_bury_33 : decode prog_9_method_8_code 33 = .ok (.aload_n 0, 1) := by decide +kernel
theorem dRun_bury_34 : decode prog_9_method_8_code 34 = .ok (.getfield 74, 3) := by decide +kernel
theorem dRun_bury_37 : decode prog_9_method_8_code 37 = .ok (.iload_n 1, 1) := by decide +kernel
theorem dRun_bury_38 : decode prog_9_method_8_code 38 = .ok (.lconst 0, 1) := by decide +kernel
theorem dRun_bury_39 : decode prog_9_method_8_code 39 = .ok (.lastore, 1) := by decide +kernel
theorem dRun_bury_40 : decode prog_9_method_8_code 40 = .ok (.aload_n 0, 1) := by decide +kernel
theorem dRun_bury_41 : decode prog_9_method_8_code 41 = .ok (.getfield 42, 3) := by decide +kernel
theorem dRun_bury_44 : decode prog_9_method_8_code 44 = .ok (.iload_n 2, 1) := by decide +kernel
theorem dRun_bury_45 : decode prog_9_method_8_code 45 = .ok (.iload_n 1, 1) := by decide +kernel
theorem dRun_bury_46 : decode prog_9_method_8_code 46 = .ok (.invokevirtual 220, 3) := by decide +kernel
theorem dRun_bury_49 : decode prog_9_method_8_code 49 = .ok (.aload_n 0, 1) := by decide +kernel
theorem dRun_bury_50 : decode prog_9_method_8_code 50 = .ok (.getfield 49, 3) := by decide +kernel
theorem dRun_bury_53 : decode prog_9_method_8_code 53 = .ok (.iload_n 2, 1) := by decide +kernel
theorem dRun_bury_54 : decode prog_9_method_8_code 54 = .ok (.iload_n 1, 1) := by decide +kernel
theorem dRun_bury_55 : decode prog_9_method_8_code 55 = .ok (.invokevirtual 224, 3) := by decide +kernel
theorem dRun_bury_58 : decode prog_9_method_8_code 58 = .ok (.iconst 0, 1) := by decide +kernel
theorem dRun_bury_59 : decode prog_9_method_8_code 59 = .ok (.istore_n 3, 1) := by decide +kernel
theorem dRun_bury_60 : decode prog_9_method_8_code 60 = .ok (.iload_n 3, 1) := by decide +kernel
theorem dRun_bury_61 : decode prog_9_method_8_code 61 = .ok (.iconst 3, 1) := by decide +kernel
theorem dRun_bury_62 : decode prog_9_method_8_code 62 = .ok (.if_icmp .ge 20, 3) := by decide +kernel
theorem dRun_bury_65 : decode prog_9_method_8_code 65 = .ok (.aload_n 0, 1) := by decide +kernel
theorem dRun_bury_66 : decode prog_9_method_8_code 66 = .ok (.getfield 78, 3) := by decide +kernel
theorem dRun_bury_69 : decode prog_9_method_8_code 69 = .ok (.iload_n 1, 1) := by decide +kernel
theorem dRun_bury_70 : decode prog_9_method_8_code 70 = .ok (.iconst 3, 1) := by decide +kernel
theorem dRun_bury_71 : decode prog_9_method_8_code 71 = .ok (.imul, 1) := by decide +kernel
theorem dRun_bury_72 : decode prog_9_method_8_code 72 = .ok (.iload_n 3, 1) := by decide +kernel
theorem dRun_bury_73 : decode prog_9_method_8_code 73 = .ok (.iadd, 1) := by decide +kernel
theorem dRun_bury_74 : decode prog_9_method_8_code 74 = .ok (.iconst (-1), 1) := by decide +kernel
theorem dRun_bury_75 : decode prog_9_method_8_code 75 = .ok (.iastore, 1) := by decide +kernel
theorem dRun_bury_76 : decode prog_9_method_8_code 76 = .ok (.iinc 3 1, 3) := by decide +kernel
theorem dRun_bury_79 : decode prog_9_method_8_code 79 = .ok (.goto (-19), 3) := by decide +kernel
theorem dRun_bury_82 : decode prog_9_method_8_code 82 = .ok (.return_, 1) := by decide +kernel
theorem dRun_payTo_0 : decode prog_9_method_9_code 0 = .ok (.iload_n 1, 1) := by decide +kernel
theorem dRun_payTo_1 : decode prog_9_method_9_code 1 = .ok (.iconst (-1), 1) := by decide +kernel
theorem dRun_payTo_2 : decode prog_9_method_9_code 2 = .ok (.if_icmp .ne 16, 3) := by decide +kernel
theorem dRun_payTo_5 : decode prog_9_method_9_code 5 = .ok (.aload_n 0, 1) := by decide +kernel
theorem dRun_payTo_6 : decode prog_9_method_9_code 6 = .ok (.getfield 87, 3) := by decide +kernel
theorem dRun_payTo_9 : decode prog_9_method_9_code 9 = .ok (.iconst 2, 1) := by decide +kernel
theorem dRun_payTo_10 : decode prog_9_method_9_code 10 = .ok (.dup2, 1) := by decide +kernel
theorem dRun_payTo_11 : decode prog_9_method_9_code 11 = .ok (.laload, 1) := by decide +kernel
theorem dRun_payTo_12 : decode prog_9_method_9_code 12 = .ok (.lload_n 2, 1) := by decide +kernel
theorem dRun_payTo_13 : decode prog_9_method_9_code 13 = .ok (.ladd, 1) := by decide +kernel
theorem dRun_payTo_14 : decode prog_9_method_9_code 14 = .ok (.lastore, 1) := by decide +kernel
theorem dRun_payTo_15 : decode prog_9_method_9_code 15 = .ok (.goto 13, 3) := by decide +kernel
theorem dRun_payTo_18 : decode prog_9_method_9_code 18 = .ok (.aload_n 0, 1) := by decide +kernel
theorem dRun_payTo_19 : decode prog_9_method_9_code 19 = .ok (.getfield 74, 3) := by decide +kernel
theorem dRun_payTo_22 : decode prog_9_method_9_code 22 = .ok (.iload_n 1, 1) := by decide +kernel
theorem dRun_payTo_23 : decode prog_9_method_9_code 23 = .ok (.dup2, 1) := by decide +kernel
theorem dRun_payTo_24 : decode prog_9_method_9_code 24 = .ok (.laload, 1) := by decide +kernel
theorem dRun_payTo_25 : decode prog_9_method_9_code 25 = .ok (.lload_n 2, 1) := by decide +kernel
theorem dRun_payTo_26 : decode prog_9_method_9_code 26 = .ok (.ladd, 1) := by decide +kernel
theorem dRun_payTo_27 : decode prog_9_method_9_code 27 = .ok (.lastore, 1) := by decide +kernel
theorem dRun_payTo_28 : decode prog_9_method_9_code 28 = .ok (.return_, 1) := by decide +kernel
theorem dRun_makeSalt_0 : decode prog_9_method_10_code 0 = .ok (.iconst 0, 1) := by decide +kernel
theorem dRun_makeSalt_1 : decode prog_9_method_10_code 1 = .ok (.istore_n 3, 1) := by decide +kernel
theorem dRun_makeSalt_2 : decode prog_9_method_10_code 2 = .ok (.iload_n 3, 1) := by decide +kernel
theorem dRun_makeSalt_3 : decode prog_9_method_10_code 3 = .ok (.aload_n 0, 1) := by decide +kernel
theorem dRun_makeSalt_4 : decode prog_9_method_10_code 4 = .ok (.getfield 12, 3) := by decide +kernel
theorem dRun_makeSalt_7 : decode prog_9_method_10_code 7 = .ok (.getfield 225, 3) := by decide +kernel
theorem dRun_makeSalt_10 : decode prog_9_method_10_code 10 = .ok (.if_icmp .ge 55, 3) := by decide +kernel
theorem dRun_makeSalt_13 : decode prog_9_method_10_code 13 = .ok (.aload_n 0, 1) := by decide +kernel
theorem dRun_makeSalt_14 : decode prog_9_method_10_code 14 = .ok (.getfield 12, 3) := by decide +kernel
theorem dRun_makeSalt_17 : decode prog_9_method_10_code 17 = .ok (.getfield 228, 3) := by decide +kernel
theorem dRun_makeSalt_20 : decode prog_9_method_10_code 20 = .ok (.iload_n 3, 1) := by decide +kernel
theorem dRun_makeSalt_21 : decode prog_9_method_10_code 21 = .ok (.bipush 12, 2) := by decide +kernel
theorem dRun_makeSalt_23 : decode prog_9_method_10_code 23 = .ok (.imul, 1) := by decide +kernel
theorem dRun_makeSalt_24 : decode prog_9_method_10_code 24 = .ok (.aload_n 0, 1) := by decide +kernel
theorem dRun_makeSalt_25 : decode prog_9_method_10_code 25 = .ok (.getfield 98, 3) := by decide +kernel
theorem dRun_makeSalt_28 : decode prog_9_method_10_code 28 = .ok (.bipush 12, 2) := by decide +kernel
theorem dRun_makeSalt_30 : decode prog_9_method_10_code 30 = .ok (.irem, 1) := by decide +kernel
theorem dRun_makeSalt_31 : decode prog_9_method_10_code 31 = .ok (.iadd, 1) := by decide +kernel
theorem dRun_makeSalt_32 : decode prog_9_method_10_code 32 = .ok (.iaload, 1) := by decide +kernel
theorem dRun_makeSalt_33 : decode prog_9_method_10_code 33 = .ok (.istore 4, 2) := by decide +kernel
theorem dRun_makeSalt_35 : decode prog_9_method_10_code 35 = .ok (.aload_n 0, 1) := by decide +kernel
theorem dRun_makeSalt_36 : decode prog_9_method_10_code 36 = .ok (.getfield 35, 3) := by decide +kernel
theorem dRun_makeSalt_39 : decode prog_9_method_10_code 39 = .ok (.getfield 231, 3) := by decide +kernel
theorem dRun_makeSalt_42 : decode prog_9_method_10_code 42 = .ok (.iload_n 3, 1) := by decide +kernel
theorem dRun_makeSalt_43 : decode prog_9_method_10_code 43 = .ok (.dup2, 1) := by decide +kernel
theorem dRun_makeSalt_44 : decode prog_9_method_10_code 44 = .ok (.iaload, 1) := by decide +kernel
theorem dRun_makeSalt_45 : decode prog_9_method_10_code 45 = .ok (.aload_n 1, 1) := by decide +kernel
theorem dRun_makeSalt_46 : decode prog_9_method_10_code 46 = .ok (.iload 4, 2) := by decide +kernel
theorem dRun_makeSalt_48 : decode prog_9_method_10_code 48 = .ok (.iload_n 3, 1) := by decide +kernel
theorem dRun_makeSalt_49 : decode prog_9_method_10_code 49 = .ok (.aload_n 0, 1) := by decide +kernel
theorem dRun_makeSalt_50 : decode prog_9_method_10_code 50 = .ok (.getfield 98, 3) := by decide +kernel
theorem dRun_makeSalt_53 : decode prog_9_method_10_code 53 = .ok (.iload_n 2, 1) := by decide +kernel
theorem dRun_makeSalt_54 : decode prog_9_method_10_code 54 = .ok (.invokevirtual 234, 3) := by decide +kernel
theorem dRun_makeSalt_57 : decode prog_9_method_10_code 57 = .ok (.iadd, 1) := by decide +kernel
theorem dRun_makeSalt_58 : decode prog_9_method_10_code 58 = .ok (.iastore, 1) := by decide +kernel
theorem dRun_makeSalt_59 : decode prog_9_method_10_code 59 = .ok (.iinc 3 1, 3) := by decide +kernel
theorem dRun_makeSalt_62 : decode prog_9_method_10_code 62 = .ok (.goto (-60), 3) := by decide +kernel
theorem dRun_makeSalt_65 : decode prog_9_method_10_code 65 = .ok (.return_, 1) := by decide +kernel
theorem dRun_tellMonth_0 : decode prog_9_method_11_code 0 = .ok (.aload_n 0, 1) := by decide +kernel
theorem dRun_tellMonth_1 : decode prog_9_method_11_code 1 = .ok (.invokevirtual 238, 3) := by decide +kernel
theorem dRun_tellMonth_4 : decode prog_9_method_11_code 4 = .ok (.iconst 2, 1) := by decide +kernel
theorem dRun_tellMonth_5 : decode prog_9_method_11_code 5 = .ok (.istore_n 1, 1) := by decide +kernel
theorem dRun_tellMonth_6 : decode prog_9_method_11_code 6 = .ok (.iload_n 1, 1) := by decide +kernel
theorem dRun_tellMonth_7 : decode prog_9_method_11_code 7 = .ok (.iconst 5, 1) := by decide +kernel
theorem dRun_tellMonth_8 : decode prog_9_method_11_code 8 = .ok (.if_icmp .gt 49, 3) := by decide +kernel
theorem dRun_tellMonth_11 : decode prog_9_method_11_code 11 = .ok (.iload_n 1, 1) := by decide +kernel
theorem dRun_tellMonth_12 : decode prog_9_method_11_code 12 = .ok (.iconst 5, 1) := by decide +kernel
theorem dRun_tellMonth_13 : decode prog_9_method_11_code 13 = .ok (.if_icmp .ne 8, 3) := by decide +kernel
theorem dRun_tellMonth_16 : decode prog_9_method_11_code 16 = .ok (.bipush 100, 2) := by decide +kernel
theorem dRun_tellMonth_18 : decode prog_9_method_11_code 18 = .ok (.goto 6, 3) := by decide +kernel
theorem dRun_tellMonth_21 : decode prog_9_method_11_code 21 = .ok (.sipush 9999, 3) := by decide +kernel
theorem dRun_tellMonth_24 : decode prog_9_method_11_code 24 = .ok (.istore_n 2, 1) := by decide +kernel
theorem dRun_tellMonth_25 : decode prog_9_method_11_code 25 = .ok (.aload_n 0, 1) := by decide +kernel
theorem dRun_tellMonth_26 : decode prog_9_method_11_code 26 = .ok (.getfield 71, 3) := by decide +kernel
theorem dRun_tellMonth_29 : decode prog_9_method_11_code 29 = .ok (.iload_n 1, 1) := by decide +kernel
theorem dRun_tellMonth_30 : decode prog_9_method_11_code 30 = .ok (.iconst 0, 1) := by decide +kernel
theorem dRun_tellMonth_31 : decode prog_9_method_11_code 31 = .ok (.iload_n 2, 1) := by decide +kernel
theorem dRun_tellMonth_32 : decode prog_9_method_11_code 32 = .ok (.aload_n 0, 1) := by decide +kernel
theorem dRun_tellMonth_33 : decode prog_9_method_11_code 33 = .ok (.getfield 28, 3) := by decide +kernel
theorem dRun_tellMonth_36 : decode prog_9_method_11_code 36 = .ok (.iload_n 1, 1) := by decide +kernel
theorem dRun_tellMonth_37 : decode prog_9_method_11_code 37 = .ok (.aload_n 0, 1) := by decide +kernel
theorem dRun_tellMonth_38 : decode prog_9_method_11_code 38 = .ok (.getfield 67, 3) := by decide +kernel
theorem dRun_tellMonth_41 : decode prog_9_method_11_code 41 = .ok (.invokevirtual 241, 3) := by decide +kernel
theorem dRun_tellMonth_44 : decode prog_9_method_11_code 44 = .ok (.invokestatic 245, 3) := by decide +kernel
theorem dRun_tellMonth_47 : decode prog_9_method_11_code 47 = .ok (.invokestatic 251, 3) := by decide +kernel
theorem dRun_tellMonth_50 : decode prog_9_method_11_code 50 = .ok (.iastore, 1) := by decide +kernel
theorem dRun_tellMonth_51 : decode prog_9_method_11_code 51 = .ok (.iinc 1 1, 3) := by decide +kernel
theorem dRun_tellMonth_54 : decode prog_9_method_11_code 54 = .ok (.goto (-48), 3) := by decide +kernel
theorem dRun_tellMonth_57 : decode prog_9_method_11_code 57 = .ok (.aload_n 0, 1) := by decide +kernel
theorem dRun_tellMonth_58 : decode prog_9_method_11_code 58 = .ok (.aload_n 0, 1) := by decide +kernel
theorem dRun_tellMonth_59 : decode prog_9_method_11_code 59 = .ok (.getfield 71, 3) := by decide +kernel
theorem dRun_tellMonth_62 : decode prog_9_method_11_code 62 = .ok (.iconst 3, 1) := by decide +kernel
theorem dRun_tellMonth_63 : decode prog_9_method_11_code 63 = .ok (.iaload, 1) := by decide +kernel
theorem dRun_tellMonth_64 : decode prog_9_method_11_code 64 = .ok (.putfield 101, 3) := by decide +kernel
theorem dRun_tellMonth_67 : decode prog_9_method_11_code 67 = .ok (.aload_n 0, 1) := by decide +kernel
theorem dRun_tellMonth_68 : decode prog_9_method_11_code 68 = .ok (.getfield 35, 3) := by decide +kernel
theorem dRun_tellMonth_71 : decode prog_9_method_11_code 71 = .ok (.aload_n 0, 1) := by decide +kernel
theorem dRun_tellMonth_72 : decode prog_9_method_11_code 72 = .ok (.getfield 12, 3) := by decide +kernel
theorem dRun_tellMonth_75 : decode prog_9_method_11_code 75 = .ok (.invokevirtual 254, 3) := by decide +kernel
theorem dRun_tellMonth_78 : decode prog_9_method_11_code 78 = .ok (.return_, 1) := by decide +kernel
theorem dRun_askCommon_0 : decode prog_9_method_12_code 0 = .ok (.aload_n 0, 1) := by decide +kernel
theorem dRun_askCommon_1 : decode prog_9_method_12_code 1 = .ok (.getfield 67, 3) := by decide +kernel
theorem dRun_askCommon_4 : decode prog_9_method_12_code 4 = .ok (.bipush 23, 2) := by decide +kernel
theorem dRun_askCommon_6 : decode prog_9_method_12_code 6 = .ok (.aload_n 0, 1) := by decide +kernel
theorem dRun_askCommon_7 : decode prog_9_method_12_code 7 = .ok (.getfield 98, 3) := by decide +kernel
theorem dRun_askCommon_10 : decode prog_9_method_12_code 10 = .ok (.bipush 12, 2) := by decide +kernel
theorem dRun_askCommon_12 : decode prog_9_method_12_code 12 = .ok (.idiv, 1) := by decide +kernel
theorem dRun_askCommon_13 : decode prog_9_method_12_code 13 = .ok (.iastore, 1) := by decide +kernel
theorem dRun_askCommon_14 : decode prog_9_method_12_code 14 = .ok (.aload_n 0, 1) := by decide +kernel
theorem dRun_askCommon_15 : decode prog_9_method_12_code 15 = .ok (.getfield 67, 3) := by decide +kernel
theorem dRun_askCommon_18 : decode prog_9_method_12_code 18 = .ok (.bipush 24, 2) := by decide +kernel
theorem dRun_askCommon_20 : decode prog_9_method_12_code 20 = .ok (.aload_n 0, 1) := by decide +kernel
theorem dRun_askCommon_21 : decode prog_9_method_12_code 21 = .ok (.getfield 98, 3) := by decide +kernel
theorem dRun_askCommon_24 : decode prog_9_method_12_code 24 = .ok (.bipush 12, 2) := by decide +kernel
theorem dRun_askCommon_26 : decode prog_9_method_12_code 26 = .ok (.irem, 1) := by decide +kernel
theorem dRun_askCommon_27 : decode prog_9_method_12_code 27 = .ok (.iastore, 1) := by decide +kernel
theorem dRun_askCommon_28 : decode prog_9_method_12_code 28 = .ok (.aload_n 0, 1) := by decide +kernel
theorem dRun_askCommon_29 : decode prog_9_method_12_code 29 = .ok (.getfield 67, 3) := by decide +kernel
theorem dRun_askCommon_32 : decode prog_9_method_12_code 32 = .ok (.bipush 27, 2) := by decide +kernel
theorem dRun_askCommon_34 : decode prog_9_method_12_code 34 = .ok (.aload_n 0, 1) := by decide +kernel
theorem dRun_askCommon_35 : decode prog_9_method_12_code 35 = .ok (.getfield 42, 3) := by decide +kernel
theorem dRun_askCommon_38 : decode prog_9_method_12_code 38 = .ok (.getfield 206, 3) := by decide +kernel
theorem dRun_askCommon_41 : decode prog_9_method_12_code 41 = .ok (.iastore, 1) := by decide +kernel
theorem dRun_askCommon_42 : decode prog_9_method_12_code 42 = .ok (.aload_n 0, 1) := by decide +kernel
theorem dRun_askCommon_43 : decode prog_9_method_12_code 43 = .ok (.getfield 67, 3) := by decide +kernel
theorem dRun_askCommon_46 : decode prog_9_method_12_code 46 = .ok (.bipush 31, 2) := by decide +kernel
theorem dRun_askCommon_48 : decode prog_9_method_12_code 48 = .ok (.aload_n 0, 1) := by decide +kernel
theorem dRun_askCommon_49 : decode prog_9_method_12_code 49 = .ok (.getfield 35, 3) := by decide +kernel
theorem dRun_askCommon_52 : decode prog_9_method_12_code 52 = .ok (.aload_n 0, 1) := by decide +kernel
theorem dRun_askCommon_53 : decode prog_9_method_12_code 53 = .ok (.getfield 12, 3) := by decide +kernel
theorem dRun_askCommon_56 : decode prog_9_method_12_code 56 = .ok (.getfield 225, 3) := by decide +kernel
theorem dRun_askCommon_59 : decode prog_9_method_12_code 59 = .ok (.invokevirtual 257, 3) := by decide +kernel
theorem dRun_askCommon_62 : decode prog_9_method_12_code 62 = .ok (.iastore, 1) := by decide +kernel
theorem dRun_askCommon_63 : decode prog_9_method_12_code 63 = .ok (.return_, 1) := by decide +kernel
theorem dRun_rateAt_0 : decode prog_9_method_13_code 0 = .ok (.aload_n 0, 1) := by decide +kernel
theorem dRun_rateAt_1 : decode prog_9_method_13_code 1 = .ok (.getfield 12, 3) := by decide +kernel
theorem dRun_rateAt_4 : decode prog_9_method_13_code 4 = .ok (.getfield 261, 3) := by decide +kernel
theorem dRun_rateAt_7 : decode prog_9_method_13_code 7 = .ok (.iload_n 1, 1) := by decide +kernel
theorem dRun_rateAt_8 : decode prog_9_method_13_code 8 = .ok (.iaload, 1) := by decide +kernel
theorem dRun_rateAt_9 : decode prog_9_method_13_code 9 = .ok (.istore_n 3, 1) := by decide +kernel
theorem dRun_rateAt_10 : decode prog_9_method_13_code 10 = .ok (.aload_n 0, 1) := by decide +kernel
theorem dRun_rateAt_11 : decode prog_9_method_13_code 11 = .ok (.invokevirtual 238, 3) := by decide +kernel
theorem dRun_rateAt_14 : decode prog_9_method_13_code 14 = .ok (.aload_n 0, 1) := by decide +kernel
theorem dRun_rateAt_15 : decode prog_9_method_13_code 15 = .ok (.getfield 67, 3) := by decide +kernel
theorem dRun_rateAt_18 : decode prog_9_method_13_code 18 = .ok (.iconst 4, 1) := by decide +kernel
theorem dRun_rateAt_19 : decode prog_9_method_13_code 19 = .ok (.aload_n 0, 1) := by decide +kernel
theorem dRun_rateAt_20 : decode prog_9_method_13_code 20 = .ok (.getfield 35, 3) := by decide +kernel
theorem dRun_rateAt_23 : decode prog_9_method_13_code 23 = .ok (.getfield 264, 3) := by decide +kernel
theorem dRun_rateAt_26 : decode prog_9_method_13_code 26 = .ok (.iload_n 1, 1) := by decide +kernel
theorem dRun_rateAt_27 : decode prog_9_method_13_code 27 = .ok (.iaload, 1) := by decide +kernel
theorem dRun_rateAt_28 : decode prog_9_method_13_code 28 = .ok (.iastore, 1) := by decide +kernel
theorem dRun_rateAt_29 : decode prog_9_method_13_code 29 = .ok (.aload_n 0, 1) := by decide +kernel
theorem dRun_rateAt_30 : decode prog_9_method_13_code 30 = .ok (.getfield 67, 3) := by decide +kernel
theorem dRun_rateAt_33 : decode prog_9_method_13_code 33 = .ok (.bipush 25, 2) := by decide +kernel
theorem dRun_rateAt_35 : decode prog_9_method_13_code 35 = .ok (.iload_n 3, 1) := by decide +kernel
theorem dRun_rateAt_36 : decode prog_9_method_13_code 36 = .ok (.ifCond .ne 9, 3) := by decide +kernel
theorem dRun_rateAt_39 : decode prog_9_method_13_code 39 = .ok (.sipush 9999, 3) := by decide +kernel
theorem dRun_rateAt_42 : decode prog_9_method_13_code 42 = .ok (.goto 14, 3) := by decide +kernel
theorem dRun_rateAt_45 : decode prog_9_method_13_code 45 = .ok (.aload_n 0, 1) := by decide +kernel
theorem dRun_rateAt_46 : decode prog_9_method_13_code 46 = .ok (.getfield 35, 3) := by decide +kernel
theorem dRun_rateAt_49 : decode prog_9_method_13_code 49 = .ok (.getfield 264, 3) := by decide +kernel
theorem dRun_rateAt_52 : decode prog_9_method_13_code 52 = .ok (.iload_n 1, 1) := by decide +kernel
theorem dRun_rateAt_53 : decode prog_9_method_13_code 53 = .ok (.iaload, 1) := by decide +kernel
theorem dRun_rateAt_54 : decode prog_9_method_13_code 54 = .ok (.iload_n 3, 1) := by decide +kernel
theorem dRun_rateAt_55 : decode prog_9_method_13_code 55 = .ok (.idiv, 1) := by decide +kernel
theorem dRun_rateAt_56 : decode prog_9_method_13_code 56 = .ok (.iastore, 1) := by decide +kernel
theorem dRun_rateAt_57 : decode prog_9_method_13_code 57 = .ok (.aload_n 0, 1) := by decide +kernel
theorem dRun_rateAt_58 : decode prog_9_method_13_code 58 = .ok (.getfield 67, 3) := by decide +kernel
theorem dRun_rateAt_61 : decode prog_9_method_13_code 61 = .ok (.bipush 26, 2) := by decide +kernel
theorem dRun_rateAt_63 : decode prog_9_method_13_code 63 = .ok (.iload_n 2, 1) := by decide +kernel
theorem dRun_rateAt_64 : decode prog_9_method_13_code 64 = .ok (.iastore, 1) := by decide +kernel
theorem dRun_rateAt_65 : decode prog_9_method_13_code 65 = .ok (.iconst 0, 1) := by decide +kernel
theorem dRun_rateAt_66 : decode prog_9_method_13_code 66 = .ok (.sipush 9999, 3) := by decide +kernel
theorem dRun_rateAt_69 : decode prog_9_method_13_code 69 = .ok (.aload_n 0, 1) := by decide +kernel
theorem dRun_rateAt_70 : decode prog_9_method_13_code 70 = .ok (.getfield 28, 3) := by decide +kernel
theorem dRun_rateAt_73 : decode prog_9_method_13_code 73 = .ok (.iconst 0, 1) := by decide +kernel
theorem dRun_rateAt_74 : decode prog_9_method_13_code 74 = .ok (.aload_n 0, 1) := by decide +kernel
theorem dRun_rateAt_75 : decode prog_9_method_13_code 75 = .ok (.getfield 67, 3) := by decide +kernel
theorem dRun_rateAt_78 : decode prog_9_method_13_code 78 = .ok (.invokevirtual 241, 3) := by decide +kernel
theorem dRun_rateAt_81 : decode prog_9_method_13_code 81 = .ok (.invokestatic 245, 3) := by decide +kernel
theorem dRun_rateAt_84 : decode prog_9_method_13_code 84 = .ok (.invokestatic 251, 3) := by decide +kernel
theorem dRun_rateAt_87 : decode prog_9_method_13_code 87 = .ok (.ireturn, 1) := by decide +kernel
theorem dRun_bringLoads_0 : decode prog_9_method_14_code 0 = .ok (.aload_n 0, 1) := by decide +kernel
theorem dRun_bringLoads_1 : decode prog_9_method_14_code 1 = .ok (.getfield 49, 3) := by decide +kernel
theorem dRun_bringLoads_4 : decode prog_9_method_14_code 4 = .ok (.getfield 267, 3) := by decide +kernel
theorem dRun_bringLoads_7 : decode prog_9_method_14_code 7 = .ok (.istore_n 1, 1) := by decide +kernel
theorem dRun_bringLoads_8 : decode prog_9_method_14_code 8 = .ok (.iload_n 1, 1) := by decide +kernel
theorem dRun_bringLoads_9 : decode prog_9_method_14_code 9 = .ok (.aload_n 0, 1) := by decide +kernel
theorem dRun_bringLoads_10 : decode prog_9_method_14_code 10 = .ok (.getfield 49, 3) := by decide +kernel
theorem dRun_bringLoads_13 : decode prog_9_method_14_code 13 = .ok (.getfield 270, 3) := by decide +kernel
theorem dRun_bringLoads_16 : decode prog_9_method_14_code 16 = .ok (.if_icmp .ge 66, 3) := by decide +kernel
theorem dRun_bringLoads_19 : decode prog_9_method_14_code 19 = .ok (.aload_n 0, 1) := by decide +kernel
theorem dRun_bringLoads_20 : decode prog_9_method_14_code 20 = .ok (.getfield 49, 3) := by decide +kernel
theorem dRun_bringLoads_23 : decode prog_9_method_14_code 23 = .ok (.getfield 271, 3) := by decide +kernel
theorem dRun_bringLoads_26 : decode prog_9_method_14_code 26 = .ok (.iload_n 1, 1) := by decide +kernel
theorem dRun_bringLoads_27 : decode prog_9_method_14_code 27 = .ok (.iaload, 1) := by decide +kernel
theorem dRun_bringLoads_28 : decode prog_9_method_14_code 28 = .ok (.aload_n 0, 1) := by decide +kernel
theorem dRun_bringLoads_29 : decode prog_9_method_14_code 29 = .ok (.getfield 98, 3) := by decide +kernel
theorem dRun_bringLoads_32 : decode prog_9_method_14_code 32 = .ok (.if_icmp .ne 23, 3) := by decide +kernel
theorem dRun_bringLoads_35 : decode prog_9_method_14_code 35 = .ok (.aload_n 0, 1) := by decide +kernel
theorem dRun_bringLoads_36 : decode prog_9_method_14_code 36 = .ok (.getfield 49, 3) := by decide +kernel
theorem dRun_bringLoads_39 : decode prog_9_method_14_code 39 = .ok (.getfield 274, 3) := by decide +kernel
theorem dRun_bringLoads_42 : decode prog_9_method_14_code 42 = .ok (.iload_n 1, 1) := by decide +kernel
theorem dRun_bringLoads_43 : decode prog_9_method_14_code 43 = .ok (.iaload, 1) := by decide +kernel
theorem dRun_bringLoads_44 : decode prog_9_method_14_code 44 = .ok (.ifCond .ne 11, 3) := by decide +kernel
theorem dRun_bringLoads_47 : decode prog_9_method_14_code 47 = .ok (.aload_n 0, 1) := by decide +kernel
theorem dRun_bringLoads_48 : decode prog_9_method_14_code 48 = .ok (.iload_n 1, 1) := by decide +kernel
theorem dRun_bringLoads_49 : decode prog_9_method_14_code 49 = .ok (.invokevirtual 277, 3) := by decide +kernel
theorem dRun_bringLoads_52 : decode prog_9_method_14_code 52 = .ok (.goto 24, 3) := by decide +kernel
theorem dRun_bringLoads_55 : decode prog_9_method_14_code 55 = .ok (.aload_n 0, 1) := by decide +kernel
theorem dRun_bringLoads_56 : decode prog_9_method_14_code 56 = .ok (.getfield 49, 3) := by decide +kernel
theorem dRun_bringLoads_59 : decode prog_9_method_14_code 59 = .ok (.getfield 271, 3) := by decide +kernel
theorem dRun_bringLoads_62 : decode prog_9_method_14_code 62 = .ok (.iload_n 1, 1) := by decide +kernel
theorem dRun_bringLoads_63 : decode prog_9_method_14_code 63 = .ok (.iaload, 1) := by decide +kernel
theorem dRun_bringLoads_64 : decode prog_9_method_14_code 64 = .ok (.aload_n 0, 1) := by decide +kernel
theorem dRun_bringLoads_65 : decode prog_9_method_14_code 65 = .ok (.getfield 98, 3) := by decide +kernel
theorem dRun_bringLoads_68 : decode prog_9_method_14_code 68 = .ok (.if_icmp .ne 8, 3) := by decide +kernel
theorem dRun_bringLoads_71 : decode prog_9_method_14_code 71 = .ok (.aload_n 0, 1) := by decide +kernel
theorem dRun_bringLoads_72 : decode prog_9_method_14_code 72 = .ok (.iload_n 1, 1) := by decide +kernel
theorem dRun_bringLoads_73 : decode prog_9_method_14_code 73 = .ok (.invokevirtual 280, 3) := by decide +kernel
theorem dRun_bringLoads_76 : decode prog_9_method_14_code 76 = .ok (.iinc 1 1, 3) := by decide +kernel
theorem dRun_bringLoads_79 : decode prog_9_method_14_code 79 = .ok (.goto (-71), 3) := by decide +kernel
theorem dRun_bringLoads_82 : decode prog_9_method_14_code 82 = .ok (.aload_n 0, 1) := by decide +kernel
theorem dRun_bringLoads_83 : decode prog_9_method_14_code 83 = .ok (.getfield 49, 3) := by decide +kernel
theorem dRun_bringLoads_86 : decode prog_9_method_14_code 86 = .ok (.aload_n 0, 1) := by decide +kernel
theorem dRun_bringLoads_87 : decode prog_9_method_14_code 87 = .ok (.getfield 98, 3) := by decide +kernel
theorem dRun_bringLoads_90 : decode prog_9_method_14_code 90 = .ok (.invokevirtual 283, 3) := by decide +kernel
theorem dRun_bringLoads_93 : decode prog_9_method_14_code 93 = .ok (.return_, 1) := by decide +kernel
theorem dRun_bringGrain_0 : decode prog_9_method_15_code 0 = .ok (.aload_n 0, 1) := by decide +kernel
theorem dRun_bringGrain_1 : decode prog_9_method_15_code 1 = .ok (.getfield 35, 3) := by decide +kernel
theorem dRun_bringGrain_4 : decode prog_9_method_15_code 4 = .ok (.getfield 264, 3) := by decide +kernel
theorem dRun_bringGrain_7 : decode prog_9_method_15_code 7 = .ok (.aload_n 0, 1) := by decide +kernel
theorem dRun_bringGrain_8 : decode prog_9_method_15_code 8 = .ok (.getfield 49, 3) := by decide +kernel
theorem dRun_bringGrain_11 : decode prog_9_method_15_code 11 = .ok (.getfield 286, 3) := by decide +kernel
theorem dRun_bringGrain_14 : decode prog_9_method_15_code 14 = .ok (.iload_n 1, 1) := by decide +kernel
theorem dRun_bringGrain_15 : decode prog_9_method_15_code 15 = .ok (.iaload, 1) := by decide +kernel
theorem dRun_bringGrain_16 : decode prog_9_method_15_code 16 = .ok (.dup2, 1) := by decide +kernel
theorem dRun_bringGrain_17 : decode prog_9_method_15_code 17 = .ok (.iaload, 1) := by decide +kernel
theorem dRun_bringGrain_18 : decode prog_9_method_15_code 18 = .ok (.aload_n 0, 1) := by decide +kernel
theorem dRun_bringGrain_19 : decode prog_9_method_15_code 19 = .ok (.getfield 49, 3) := by decide +kernel
theorem dRun_bringGrain_22 : decode prog_9_method_15_code 22 = .ok (.getfield 289, 3) := by decide +kernel
theorem dRun_bringGrain_25 : decode prog_9_method_15_code 25 = .ok (.iload_n 1, 1) := by decide +kernel
theorem dRun_bringGrain_26 : decode prog_9_method_15_code 26 = .ok (.iaload, 1) := by decide +kernel
theorem dRun_bringGrain_27 : decode prog_9_method_15_code 27 = .ok (.iadd, 1) := by decide +kernel
theorem dRun_bringGrain_28 : decode prog_9_method_15_code 28 = .ok (.iastore, 1) := by decide +kernel
theorem dRun_bringGrain_29 : decode prog_9_method_15_code 29 = .ok (.aload_n 0, 1) := by decide +kernel
theorem dRun_bringGrain_30 : decode prog_9_method_15_code 30 = .ok (.getfield 49, 3) := by decide +kernel
theorem dRun_bringGrain_33 : decode prog_9_method_15_code 33 = .ok (.getfield 292, 3) := by decide +kernel
theorem dRun_bringGrain_36 : decode prog_9_method_15_code 36 = .ok (.iload_n 1, 1) := by decide +kernel
theorem dRun_bringGrain_37 : decode prog_9_method_15_code 37 = .ok (.iaload, 1) := by decide +kernel
theorem dRun_bringGrain_38 : decode prog_9_method_15_code 38 = .ok (.iconst (-1), 1) := by decide +kernel
theorem dRun_bringGrain_39 : decode prog_9_method_15_code 39 = .ok (.if_icmp .eq 63, 3) := by decide +kernel
theorem dRun_bringGrain_42 : decode prog_9_method_15_code 42 = .ok (.aload_n 0, 1) := by decide +kernel
theorem dRun_bringGrain_43 : decode prog_9_method_15_code 43 = .ok (.getfield 49, 3) := by decide +kernel
theorem dRun_bringGrain_46 : decode prog_9_method_15_code 46 = .ok (.getfield 295, 3) := by decide +kernel
theorem dRun_bringGrain_49 : decode prog_9_method_15_code 49 = .ok (.iload_n 1, 1) := by decide +kernel
theorem dRun_bringGrain_50 : decode prog_9_method_15_code 50 = .ok (.iaload, 1) := by decide +kernel
theorem dRun_bringGrain_51 : decode prog_9_method_15_code 51 = .ok (.ifCond .le 51, 3) := by decide +kernel
theorem dRun_bringGrain_54 : decode prog_9_method_15_code 54 = .ok (.aload_n 0, 1) := by decide +kernel
theorem dRun_bringGrain_55 : decode prog_9_method_15_code 55 = .ok (.getfield 42, 3) := by decide +kernel
theorem dRun_bringGrain_58 : decode prog_9_method_15_code 58 = .ok (.aload_n 0, 1) := by decide +kernel
theorem dRun_bringGrain_59 : decode prog_9_method_15_code 59 = .ok (.getfield 49, 3) := by decide +kernel
theorem dRun_bringGrain_62 : decode prog_9_method_15_code 62 = .ok (.getfield 292, 3) := by decide +kernel
theorem dRun_bringGrain_65 : decode prog_9_method_15_code 65 = .ok (.iload_n 1, 1) := by decide +kernel
theorem dRun_bringGrain_66 : decode prog_9_method_15_code 66 = .ok (.iaload, 1) := by decide +kernel
theorem dRun_bringGrain_67 : decode prog_9_method_15_code 67 = .ok (.aload_n 0, 1) := by decide +kernel
theorem dRun_bringGrain_68 : decode prog_9_method_15_code 68 = .ok (.getfield 49, 3) := by decide +kernel
theorem dRun_bringGrain_71 : decode prog_9_method_15_code 71 = .ok (.getfield 298, 3) := by decide +kernel
theorem dRun_bringGrain_74 : decode prog_9_method_15_code 74 = .ok (.iload_n 1, 1) := by decide +kernel
theorem dRun_bringGrain_75 : decode prog_9_method_15_code 75 = .ok (.iaload, 1) := by decide +kernel
theorem dRun_bringGrain_76 : decode prog_9_method_15_code 76 = .ok (.aload_n 0, 1) := by decide +kernel
theorem dRun_bringGrain_77 : decode prog_9_method_15_code 77 = .ok (.getfield 49, 3) := by decide +kernel
theorem dRun_bringGrain_80 : decode prog_9_method_15_code 80 = .ok (.getfield 295, 3) := by decide +kernel
theorem dRun_bringGrain_83 : decode prog_9_method_15_code 83 = .ok (.iload_n 1, 1) := by decide +kernel
theorem dRun_bringGrain_84 : decode prog_9_method_15_code 84 = .ok (.iaload, 1) := by decide +kernel
theorem dRun_bringGrain_85 : decode prog_9_method_15_code 85 = .ok (.aload_n 0, 1) := by decide +kernel
theorem dRun_bringGrain_86 : decode prog_9_method_15_code 86 = .ok (.getfield 98, 3) := by decide +kernel
theorem dRun_bringGrain_89 : decode prog_9_method_15_code 89 = .ok (.aload_n 0, 1) := by decide +kernel
theorem dRun_bringGrain_90 : decode prog_9_method_15_code 90 = .ok (.getfield 49, 3) := by decide +kernel
theorem dRun_bringGrain_93 : decode prog_9_method_15_code 93 = .ok (.getfield 300, 3) := by decide +kernel
theorem dRun_bringGrain_96 : decode prog_9_method_15_code 96 = .ok (.iload_n 1, 1) := by decide +kernel
theorem dRun_bringGrain_97 : decode prog_9_method_15_code 97 = .ok (.iaload, 1) := by decide +kernel
theorem dRun_bringGrain_98 : decode prog_9_method_15_code 98 = .ok (.iconst 0, 1) := by decide +kernel
theorem dRun_bringGrain_99 : decode prog_9_method_15_code 99 = .ok (.invokevirtual 303, 3) := by decide +kernel
theorem dRun_bringGrain_102 : decode prog_9_method_15_code 102 = .ok (.return_, 1) := by decide +kernel
theorem dRun_sellSalt_0 : decode prog_9_method_16_code 0 = .ok (.aload_n 0, 1) := by decide +kernel
theorem dRun_sellSalt_1 : decode prog_9_method_16_code 1 = .ok (.getfield 49, 3) := by decide +kernel
theorem dRun_sellSalt_4 : decode prog_9_method_16_code 4 = .ok (.getfield 286, 3) := by decide +kernel
theorem dRun_sellSalt_7 : decode prog_9_method_16_code 7 = .ok (.iload_n 1, 1) := by decide +kernel
theorem dRun_sellSalt_8 : decode prog_9_method_16_code 8 = .ok (.iaload, 1) := by decide +kernel
theorem dRun_sellSalt_9 : decode prog_9_method_16_code 9 = .ok (.istore_n 2, 1) := by decide +kernel
theorem dRun_sellSalt_10 : decode prog_9_method_16_code 10 = .ok (.aload_n 0, 1) := by decide +kernel
theorem dRun_sellSalt_11 : decode prog_9_method_16_code 11 = .ok (.getfield 49, 3) := by decide +kernel
theorem dRun_sellSalt_14 : decode prog_9_method_16_code 14 = .ok (.getfield 289, 3) := by decide +kernel
theorem dRun_sellSalt_17 : decode prog_9_method_16_code 17 = .ok (.iload_n 1, 1) := by decide +kernel
theorem dRun_sellSalt_18 : decode prog_9_method_16_code 18 = .ok (.iaload, 1) := by decide +kernel
theorem dRun_sellSalt_19 : decode prog_9_method_16_code 19 = .ok (.i2l, 1) := by decide +kernel
theorem dRun_sellSalt_20 : decode prog_9_method_16_code 20 = .ok (.lstore_n 3, 1) := by decide +kernel
theorem dRun_sellSalt_21 : decode prog_9_method_16_code 21 = .ok (.iconst 0, 1) := by decide +kernel
theorem dRun_sellSalt_22 : decode prog_9_method_16_code 22 = .ok (.aload_n 0, 1) := by decide +kernel
theorem dRun_sellSalt_23 : decode prog_9_method_16_code 23 = .ok (.getfield 35, 3) := by decide +kernel
theorem dRun_sellSalt_26 : decode prog_9_method_16_code 26 = .ok (.aload_n 0, 1) := by decide +kernel
theorem dRun_sellSalt_27 : decode prog_9_method_16_code 27 = .ok (.getfield 12, 3) := by decide +kernel
theorem dRun_sellSalt_30 : decode prog_9_method_16_code 30 = .ok (.iload_n 2, 1) := by decide +kernel
theorem dRun_sellSalt_31 : decode prog_9_method_16_code 31 = .ok (.invokevirtual 307, 3) := by decide +kernel
theorem dRun_sellSalt_34 : decode prog_9_method_16_code 34 = .ok (.aload_n 0, 1) := by decide +kernel
theorem dRun_sellSalt_35 : decode prog_9_method_16_code 35 = .ok (.getfield 71, 3) := by decide +kernel
theorem dRun_sellSalt_38 : decode prog_9_method_16_code 38 = .ok (.iconst 4, 1) := by decide +kernel
theorem dRun_sellSalt_39 : decode prog_9_method_16_code 39 = .ok (.iaload, 1) := by decide +kernel
theorem dRun_sellSalt_40 : decode prog_9_method_16_code 40 = .ok (.isub, 1) := by decide +kernel
theorem dRun_sellSalt_41 : decode prog_9_method_16_code 41 = .ok (.invokestatic 251, 3) := by decide +kernel
theorem dRun_sellSalt_44 : decode prog_9_method_16_code 44 = .ok (.istore 5, 2) := by decide +kernel
theorem dRun_sellSalt_46 : decode prog_9_method_16_code 46 = .ok (.aload_n 0, 1) := by decide +kernel
theorem dRun_sellSalt_47 : decode prog_9_method_16_code 47 = .ok (.aload_n 0, 1) := by decide +kernel
theorem dRun_sellSalt_48 : decode prog_9_method_16_code 48 = .ok (.getfield 49, 3) := by decide +kernel
theorem dRun_sellSalt_51 : decode prog_9_method_16_code 51 = .ok (.getfield 292, 3) := by decide +kernel
theorem dRun_sellSalt_54 : decode prog_9_method_16_code 54 = .ok (.iload_n 1, 1) := by decide +kernel
theorem dRun_sellSalt_55 : decode prog_9_method_16_code 55 = .ok (.iaload, 1) := by decide +kernel
theorem dRun_sellSalt_56 : decode prog_9_method_16_code 56 = .ok (.lload_n 3, 1) := by decide +kernel
theorem dRun_sellSalt_57 : decode prog_9_method_16_code 57 = .ok (.iload 5, 2) := by decide +kernel
theorem dRun_sellSalt_59 : decode prog_9_method_16_code 59 = .ok (.i2l, 1) := by decide +kernel
theorem dRun_sellSalt_60 : decode prog_9_method_16_code 60 = .ok (.lmul, 1) := by decide +kernel
theorem dRun_sellSalt_61 : decode prog_9_method_16_code 61 = .ok (.invokevirtual 216, 3) := by decide +kernel
theorem dRun_sellSalt_64 : decode prog_9_method_16_code 64 = .ok (.aload_n 0, 1) := by decide +kernel
theorem dRun_sellSalt_65 : decode prog_9_method_16_code 65 = .ok (.getfield 87, 3) := by decide +kernel
theorem dRun_sellSalt_68 : decode prog_9_method_16_code 68 = .ok (.iconst 2, 1) := by decide +kernel
theorem dRun_sellSalt_69 : decode prog_9_method_16_code 69 = .ok (.dup2, 1) := by decide +kernel
theorem dRun_sellSalt_70 : decode prog_9_method_16_code 70 = .ok (.laload, 1) := by decide +kernel
theorem dRun_sellSalt_71 : decode prog_9_method_16_code 71 = .ok (.lload_n 3, 1) := by decide +kernel
theorem dRun_sellSalt_72 : decode prog_9_method_16_code 72 = .ok (.aload_n 0, 1) := by decide +kernel
theorem dRun_sellSalt_73 : decode prog_9_method_16_code 73 = .ok (.getfield 71, 3) := by decide +kernel
theorem dRun_sellSalt_76 : decode prog_9_method_16_code 76 = .ok (.iconst 4, 1) := by decide +kernel
theorem dRun_sellSalt_77 : decode prog_9_method_16_code 77 = .ok (.iaload, 1) := by decide +kernel
theorem dRun_sellSalt_78 : decode prog_9_method_16_code 78 = .ok (.i2l, 1) := by decide +kernel
theorem dRun_sellSalt_79 : decode prog_9_method_16_code 79 = .ok (.lmul, 1) := by decide +kernel
theorem dRun_sellSalt_80 : decode prog_9_method_16_code 80 = .ok (.ladd, 1) := by decide +kernel
theorem dRun_sellSalt_81 : decode prog_9_method_16_code 81 = .ok (.lastore, 1) := by decide +kernel
theorem dRun_sellSalt_82 : decode prog_9_method_16_code 82 = .ok (.aload_n 0, 1) := by decide +kernel
theorem dRun_sellSalt_83 : decode prog_9_method_16_code 83 = .ok (.getfield 87, 3) := by decide +kernel
theorem dRun_sellSalt_86 : decode prog_9_method_16_code 86 = .ok (.iconst 1, 1) := by decide +kernel
theorem dRun_sellSalt_87 : decode prog_9_method_16_code 87 = .ok (.dup2, 1) := by decide +kernel
theorem dRun_sellSalt_88 : decode prog_9_method_16_code 88 = .ok (.laload, 1) := by decide +kernel
theorem dRun_sellSalt_89 : decode prog_9_method_16_code 89 = .ok (.lload_n 3, 1) := by decide +kernel
theorem dRun_sellSalt_90 : decode prog_9_method_16_code 90 = .ok (.ladd, 1) := by decide +kernel
theorem dRun_sellSalt_91 : decode prog_9_method_16_code 91 = .ok (.lastore, 1) := by decide +kernel
theorem dRun_sellSalt_92 : decode prog_9_method_16_code 92 = .ok (.aload_n 0, 1) := by decide +kernel
theorem dRun_sellSalt_93 : decode prog_9_method_16_code 93 = .ok (.getfield 35, 3) := by decide +kernel
theorem dRun_sellSalt_96 : decode prog_9_method_16_code 96 = .ok (.getfield 311, 3) := by decide +kernel
theorem dRun_sellSalt_99 : decode prog_9_method_16_code 99 = .ok (.iload_n 2, 1) := by decide +kernel
theorem dRun_sellSalt_100 : decode prog_9_method_16_code 100 = .ok (.dup2, 1) := by decide +kernel
theorem dRun_sellSalt_101 : decode prog_9_method_16_code 101 = .ok (.iaload, 1) := by decide +kernel
theorem dRun_sellSalt_102 : decode prog_9_method_16_code 102 = .ok (.aload_n 0, 1) := by decide +kernel
theorem dRun_sellSalt_103 : decode prog_9_method_16_code 103 = .ok (.getfield 49, 3) := by decide +kernel
theorem dRun_sellSalt_106 : decode prog_9_method_16_code 106 = .ok (.getfield 289, 3) := by decide +kernel
theorem dRun_sellSalt_109 : decode prog_9_method_16_code 109 = .ok (.iload_n 1, 1) := by decide +kernel
theorem dRun_sellSalt_110 : decode prog_9_method_16_code 110 = .ok (.iaload, 1) := by decide +kernel
theorem dRun_sellSalt_111 : decode prog_9_method_16_code 111 = .ok (.iadd, 1) := by decide +kernel
theorem dRun_sellSalt_112 : decode prog_9_method_16_code 112 = .ok (.iastore, 1) := by decide +kernel
theorem dRun_sellSalt_113 : decode prog_9_method_16_code 113 = .ok (.return_, 1) := by decide +kernel
theorem dRun_drawPapers_0 : decode prog_9_method_17_code 0 = .ok (.aload_n 0, 1) := by decide +kernel
theorem dRun_drawPapers_1 : decode prog_9_method_17_code 1 = .ok (.getfield 42, 3) := by decide +kernel
theorem dRun_drawPapers_4 : decode prog_9_method_17_code 4 = .ok (.invokevirtual 200, 3) := by decide +kernel
theorem dRun_drawPapers_7 : decode prog_9_method_17_code 7 = .ok (.aload_n 0, 1) := by decide +kernel
theorem dRun_drawPapers_8 : decode prog_9_method_17_code 8 = .ok (.invokevirtual 314, 3) := by decide +kernel
theorem dRun_drawPapers_11 : decode prog_9_method_17_code 11 = .ok (.iconst 0, 1) := by decide +kernel
theorem dRun_drawPapers_12 : decode prog_9_method_17_code 12 = .ok (.istore_n 1, 1) := by decide +kernel
theorem dRun_drawPapers_13 : decode prog_9_method_17_code 13 = .ok (.iload_n 1, 1) := by decide +kernel
theorem dRun_drawPapers_14 : decode prog_9_method_17_code 14 = .ok (.aload_n 0, 1) := by decide +kernel
theorem dRun_drawPapers_15 : decode prog_9_method_17_code 15 = .ok (.getfield 12, 3) := by decide +kernel
theorem dRun_drawPapers_18 : decode prog_9_method_17_code 18 = .ok (.getfield 225, 3) := by decide +kernel
theorem dRun_drawPapers_21 : decode prog_9_method_17_code 21 = .ok (.if_icmp .ge 26, 3) := by decide +kernel
theorem dRun_drawPapers_24 : decode prog_9_method_17_code 24 = .ok (.aload_n 0, 1) := by decide +kernel
theorem dRun_drawPapers_25 : decode prog_9_method_17_code 25 = .ok (.getfield 42, 3) := by decide +kernel
theorem dRun_drawPapers_28 : decode prog_9_method_17_code 28 = .ok (.getfield 317, 3) := by decide +kernel
theorem dRun_drawPapers_31 : decode prog_9_method_17_code 31 = .ok (.iload_n 1, 1) := by decide +kernel
theorem dRun_drawPapers_32 : decode prog_9_method_17_code 32 = .ok (.iaload, 1) := by decide +kernel
theorem dRun_drawPapers_33 : decode prog_9_method_17_code 33 = .ok (.ifCond .le 8, 3) := by decide +kernel
theorem dRun_drawPapers_36 : decode prog_9_method_17_code 36 = .ok (.aload_n 0, 1) := by decide +kernel
theorem dRun_drawPapers_37 : decode prog_9_method_17_code 37 = .ok (.iload_n 1, 1) := by decide +kernel
theorem dRun_drawPapers_38 : decode prog_9_method_17_code 38 = .ok (.invokevirtual 320, 3) := by decide +kernel
theorem dRun_drawPapers_41 : decode prog_9_method_17_code 41 = .ok (.iinc 1 1, 3) := by decide +kernel
theorem dRun_drawPapers_44 : decode prog_9_method_17_code 44 = .ok (.goto (-31), 3) := by decide +kernel
theorem dRun_drawPapers_47 : decode prog_9_method_17_code 47 = .ok (.return_, 1) := by decide +kernel
theorem dRun_classAll_0 : decode prog_9_method_18_code 0 = .ok (.aload_n 0, 1) := by decide +kernel
theorem dRun_classAll_1 : decode prog_9_method_18_code 1 = .ok (.invokevirtual 238, 3) := by decide +kernel
theorem dRun_classAll_4 : decode prog_9_method_18_code 4 = .ok (.iconst 0, 1) := by decide +kernel
theorem dRun_classAll_5 : decode prog_9_method_18_code 5 = .ok (.istore_n 1, 1) := by decide +kernel
theorem dRun_classAll_6 : decode prog_9_method_18_code 6 = .ok (.iload_n 1, 1) := by decide +kernel
theorem dRun_classAll_7 : decode prog_9_method_18_code 7 = .ok (.aload_n 0, 1) := by decide +kernel
theorem dRun_classAll_8 : decode prog_9_method_18_code 8 = .ok (.getfield 42, 3) := by decide +kernel
theorem dRun_classAll_11 : decode prog_9_method_18_code 11 = .ok (.getfield 203, 3) := by decide +kernel
theorem dRun_classAll_14 : decode prog_9_method_18_code 14 = .ok (.if_icmp .ge 135, 3) := by decide +kernel
theorem dRun_classAll_17 : decode prog_9_method_18_code 17 = .ok (.aload_n 0, 1) := by decide +kernel
theorem dRun_classAll_18 : decode prog_9_method_18_code 18 = .ok (.getfield 42, 3) := by decide +kernel
theorem dRun_classAll_21 : decode prog_9_method_18_code 21 = .ok (.getfield 323, 3) := by decide +kernel
theorem dRun_classAll_24 : decode prog_9_method_18_code 24 = .ok (.iload_n 1, 1) := by decide +kernel
theorem dRun_classAll_25 : decode prog_9_method_18_code 25 = .ok (.iaload, 1) := by decide +kernel
theorem dRun_classAll_26 : decode prog_9_method_18_code 26 = .ok (.istore_n 2, 1) := by decide +kernel
theorem dRun_classAll_27 : decode prog_9_method_18_code 27 = .ok (.aload_n 0, 1) := by decide +kernel
theorem dRun_classAll_28 : decode prog_9_method_18_code 28 = .ok (.getfield 67, 3) := by decide +kernel
theorem dRun_classAll_31 : decode prog_9_method_18_code 31 = .ok (.bipush 28, 2) := by decide +kernel
theorem dRun_classAll_33 : decode prog_9_method_18_code 33 = .ok (.aload_n 0, 1) := by decide +kernel
theorem dRun_classAll_34 : decode prog_9_method_18_code 34 = .ok (.getfield 98, 3) := by decide +kernel
theorem dRun_classAll_37 : decode prog_9_method_18_code 37 = .ok (.aload_n 0, 1) := by decide +kernel
theorem dRun_classAll_38 : decode prog_9_method_18_code 38 = .ok (.getfield 42, 3) := by decide +kernel
theorem dRun_classAll_41 : decode prog_9_method_18_code 41 = .ok (.getfield 326, 3) := by decide +kernel
theorem dRun_classAll_44 : decode prog_9_method_18_code 44 = .ok (.iload_n 2, 1) := by decide +kernel
theorem dRun_classAll_45 : decode prog_9_method_18_code 45 = .ok (.iaload, 1) := by decide +kernel
theorem dRun_classAll_46 : decode prog_9_method_18_code 46 = .ok (.isub, 1) := by decide +kernel
theorem dRun_classAll_47 : decode prog_9_method_18_code 47 = .ok (.iastore, 1) := by decide +kernel
theorem dRun_classAll_48 : decode prog_9_method_18_code 48 = .ok (.aload_n 0, 1) := by decide +kernel
theorem dRun_classAll_49 : decode prog_9_method_18_code 49 = .ok (.getfield 67, 3) := by decide +kernel
theorem dRun_classAll_52 : decode prog_9_method_18_code 52 = .ok (.bipush 29, 2) := by decide +kernel
theorem dRun_classAll_54 : decode prog_9_method_18_code 54 = .ok (.aload_n 0, 1) := by decide +kernel
theorem dRun_classAll_55 : decode prog_9_method_18_code 55 = .ok (.getfield 42, 3) := by decide +kernel
theorem dRun_classAll_58 : decode prog_9_method_18_code 58 = .ok (.getfield 329, 3) := by decide +kernel
theorem dRun_classAll_61 : decode prog_9_method_18_code 61 = .ok (.iload_n 2, 1) := by decide +kernel
theorem dRun_classAll_62 : decode prog_9_method_18_code 62 = .ok (.iaload, 1) := by decide +kernel
theorem dRun_classAll_63 : decode prog_9_method_18_code 63 = .ok (.iastore, 1) := by decide +kernel
theorem dRun_classAll_64 : decode prog_9_method_18_code 64 = .ok (.aload_n 0, 1) := by decide +kernel
theorem dRun_classAll_65 : decode prog_9_method_18_code 65 = .ok (.getfield 67, 3) := by decide +kernel
theorem dRun_classAll_68 : decode prog_9_method_18_code 68 = .ok (.bipush 30, 2) := by decide +kernel
theorem dRun_classAll_70 : decode prog_9_method_18_code 70 = .ok (.aload_n 0, 1) := by decide +kernel
theorem dRun_classAll_71 : decode prog_9_method_18_code 71 = .ok (.getfield 42, 3) := by decide +kernel
theorem dRun_classAll_74 : decode prog_9_method_18_code 74 = .ok (.getfield 332, 3) := by decide +kernel
theorem dRun_classAll_77 : decode prog_9_method_18_code 77 = .ok (.iload_n 2, 1) := by decide +kernel
theorem dRun_classAll_78 : decode prog_9_method_18_code 78 = .ok (.iaload, 1) := by decide +kernel
theorem dRun_classAll_79 : decode prog_9_method_18_code 79 = .ok (.iastore, 1) := by decide +kernel
theorem dRun_classAll_80 : decode prog_9_method_18_code 80 = .ok (.aload_n 0, 1) := by decide +kernel
theorem dRun_classAll_81 : decode prog_9_method_18_code 81 = .ok (.getfield 67, 3) := by decide +kernel
theorem dRun_classAll_84 : decode prog_9_method_18_code 84 = .ok (.bipush 26, 2) := by decide +kernel
theorem dRun_classAll_86 : decode prog_9_method_18_code 86 = .ok (.aload_n 0, 1) := by decide +kernel
theorem dRun_classAll_87 : decode prog_9_method_18_code 87 = .ok (.getfield 42, 3) := by decide +kernel
theorem dRun_classAll_90 : decode prog_9_method_18_code 90 = .ok (.getfield 335, 3) := by decide +kernel
theorem dRun_classAll_93 : decode prog_9_method_18_code 93 = .ok (.iload_n 2, 1) := by decide +kernel
theorem dRun_classAll_94 : decode prog_9_method_18_code 94 = .ok (.iaload, 1) := by decide +kernel
theorem dRun_classAll_95 : decode prog_9_method_18_code 95 = .ok (.iastore, 1) := by decide +kernel
theorem dRun_classAll_96 : decode prog_9_method_18_code 96 = .ok (.iconst 0, 1) := by decide +kernel
theorem dRun_classAll_97 : decode prog_9_method_18_code 97 = .ok (.istore_n 3, 1) := by decide +kernel
theorem dRun_classAll_98 : decode prog_9_method_18_code 98 = .ok (.iload_n 3, 1) := by decide +kernel
theorem dRun_classAll_99 : decode prog_9_method_18_code 99 = .ok (.aload_n 0, 1) := by decide +kernel
theorem dRun_classAll_100 : decode prog_9_method_18_code 100 = .ok (.getfield 28, 3) := by decide +kernel
theorem dRun_classAll_103 : decode prog_9_method_18_code 103 = .ok (.getfield 336, 3) := by decide +kernel
theorem dRun_classAll_106 : decode prog_9_method_18_code 106 = .ok (.if_icmp .ge 27, 3) := by decide +kernel
theorem dRun_classAll_109 : decode prog_9_method_18_code 109 = .ok (.aload_n 0, 1) := by decide +kernel
theorem dRun_classAll_110 : decode prog_9_method_18_code 110 = .ok (.getfield 28, 3) := by decide +kernel
theorem dRun_classAll_113 : decode prog_9_method_18_code 113 = .ok (.bipush 6, 2) := by decide +kernel
theorem dRun_classAll_115 : decode prog_9_method_18_code 115 = .ok (.iload_n 3, 1) := by decide +kernel
theorem dRun_classAll_116 : decode prog_9_method_18_code 116 = .ok (.iadd, 1) := by decide +kernel
theorem dRun_classAll_117 : decode prog_9_method_18_code 117 = .ok (.aload_n 0, 1) := by decide +kernel
theorem dRun_classAll_118 : decode prog_9_method_18_code 118 = .ok (.getfield 67, 3) := by decide +kernel
theorem dRun_classAll_121 : decode prog_9_method_18_code 121 = .ok (.invokevirtual 241, 3) := by decide +kernel
theorem dRun_classAll_124 : decode prog_9_method_18_code 124 = .ok (.ifCond .ne 9, 3) := by decide +kernel
theorem dRun_classAll_127 : decode prog_9_method_18_code 127 = .ok (.iinc 3 1, 3) := by decide +kernel
theorem dRun_classAll_130 : decode prog_9_method_18_code 130 = .ok (.goto (-32), 3) := by decide +kernel
theorem dRun_classAll_133 : decode prog_9_method_18_code 133 = .ok (.aload_n 0, 1) := by decide +kernel
theorem dRun_classAll_134 : decode prog_9_method_18_code 134 = .ok (.getfield 42, 3) := by decide +kernel
theorem dRun_classAll_137 : decode prog_9_method_18_code 137 = .ok (.getfield 339, 3) := by decide +kernel
theorem dRun_classAll_140 : decode prog_9_method_18_code 140 = .ok (.iload_n 2, 1) := by decide +kernel
theorem dRun_classAll_141 : decode prog_9_method_18_code 141 = .ok (.iload_n 3, 1) := by decide +kernel
theorem dRun_classAll_142 : decode prog_9_method_18_code 142 = .ok (.iastore, 1) := by decide +kernel
theorem dRun_classAll_143 : decode prog_9_method_18_code 143 = .ok (.iinc 1 1, 3) := by decide +kernel
theorem dRun_classAll_146 : decode prog_9_method_18_code 146 = .ok (.goto (-140), 3) := by decide +kernel
theorem dRun_classAll_149 : decode prog_9_method_18_code 149 = .ok (.return_, 1) := by decide +kernel
theorem dRun_drawAt_0 : decode prog_9_method_19_code 0 = .ok (.aload_n 0, 1) := by decide +kernel
theorem dRun_drawAt_1 : decode prog_9_method_19_code 1 = .ok (.iload_n 1, 1) := by decide +kernel
theorem dRun_drawAt_2 : decode prog_9_method_19_code 2 = .ok (.invokevirtual 341, 3) := by decide +kernel
theorem dRun_drawAt_5 : decode prog_9_method_19_code 5 = .ok (.istore_n 2, 1) := by decide +kernel
theorem dRun_drawAt_6 : decode prog_9_method_19_code 6 = .ok (.iconst 0, 1) := by decide +kernel
theorem dRun_drawAt_7 : decode prog_9_method_19_code 7 = .ok (.istore_n 3, 1) := by decide +kernel
theorem dRun_drawAt_8 : decode prog_9_method_19_code 8 = .ok (.iload_n 3, 1) := by decide +kernel
theorem dRun_drawAt_9 : decode prog_9_method_19_code 9 = .ok (.aload_n 0, 1) := by decide +kernel
theorem dRun_drawAt_10 : decode prog_9_method_19_code 10 = .ok (.getfield 28, 3) := by decide +kernel
theorem dRun_drawAt_13 : decode prog_9_method_19_code 13 = .ok (.getfield 336, 3) := by decide +kernel
theorem dRun_drawAt_16 : decode prog_9_method_19_code 16 = .ok (.if_icmp .gt 101, 3) := by decide +kernel
theorem dRun_drawAt_19 : decode prog_9_method_19_code 19 = .ok (.iconst 0, 1) := by decide +kernel
theorem dRun_drawAt_20 : decode prog_9_method_19_code 20 = .ok (.istore 4, 2) := by decide +kernel
theorem dRun_drawAt_22 : decode prog_9_method_19_code 22 = .ok (.iload 4, 2) := by decide +kernel
theorem dRun_drawAt_24 : decode prog_9_method_19_code 24 = .ok (.aload_n 0, 1) := by decide +kernel
theorem dRun_drawAt_25 : decode prog_9_method_19_code 25 = .ok (.getfield 42, 3) := by decide +kernel
theorem dRun_drawAt_28 : decode prog_9_method_19_code 28 = .ok (.getfield 203, 3) := by decide +kernel
theorem dRun_drawAt_31 : decode prog_9_method_19_code 31 = .ok (.if_icmp .ge 80, 3) := by decide +kernel
theorem dRun_drawAt_34 : decode prog_9_method_19_code 34 = .ok (.aload_n 0, 1) := by decide +kernel
theorem dRun_drawAt_35 : decode prog_9_method_19_code 35 = .ok (.getfield 42, 3) := by decide +kernel
theorem dRun_drawAt_38 : decode prog_9_method_19_code 38 = .ok (.getfield 323, 3) := by decide +kernel
theorem dRun_drawAt_41 : decode prog_9_method_19_code 41 = .ok (.iload 4, 2) := by decide +kernel
theorem dRun_drawAt_43 : decode prog_9_method_19_code 43 = .ok (.iaload, 1) := by decide +kernel
theorem dRun_drawAt_44 : decode prog_9_method_19_code 44 = .ok (.istore 5, 2) := by decide +kernel
theorem dRun_drawAt_46 : decode prog_9_method_19_code 46 = .ok (.aload_n 0, 1) := by decide +kernel
theorem dRun_drawAt_47 : decode prog_9_method_19_code 47 = .ok (.getfield 42, 3) := by decide +kernel
theorem dRun_drawAt_50 : decode prog_9_method_19_code 50 = .ok (.getfield 344, 3) := by decide +kernel
theorem dRun_drawAt_53 : decode prog_9_method_19_code 53 = .ok (.iload 5, 2) := by decide +kernel
theorem dRun_drawAt_55 : decode prog_9_method_19_code 55 = .ok (.iaload, 1) := by decide +kernel
theorem dRun_drawAt_56 : decode prog_9_method_19_code 56 = .ok (.iload_n 1, 1) := by decide +kernel
theorem dRun_drawAt_57 : decode prog_9_method_19_code 57 = .ok (.if_icmp .ne 48, 3) := by decide +kernel
theorem dRun_drawAt_60 : decode prog_9_method_19_code 60 = .ok (.aload_n 0, 1) := by decide +kernel
theorem dRun_drawAt_61 : decode prog_9_method_19_code 61 = .ok (.getfield 42, 3) := by decide +kernel
theorem dRun_drawAt_64 : decode prog_9_method_19_code 64 = .ok (.getfield 339, 3) := by decide +kernel
theorem dRun_drawAt_67 : decode prog_9_method_19_code 67 = .ok (.iload 5, 2) := by decide +kernel
theorem dRun_drawAt_69 : decode prog_9_method_19_code 69 = .ok (.iaload, 1) := by decide +kernel
theorem dRun_drawAt_70 : decode prog_9_method_19_code 70 = .ok (.iload_n 3, 1) := by decide +kernel
theorem dRun_drawAt_71 : decode prog_9_method_19_code 71 = .ok (.if_icmp .ne 34, 3) := by decide +kernel
theorem dRun_drawAt_74 : decode prog_9_method_19_code 74 = .ok (.aload_n 0, 1) := by decide +kernel
theorem dRun_drawAt_75 : decode prog_9_method_19_code 75 = .ok (.getfield 42, 3) := by decide +kernel
theorem dRun_drawAt_78 : decode prog_9_method_19_code 78 = .ok (.getfield 329, 3) := by decide +kernel
theorem dRun_drawAt_81 : decode prog_9_method_19_code 81 = .ok (.iload 5, 2) := by decide +kernel
theorem dRun_drawAt_83 : decode prog_9_method_19_code 83 = .ok (.iaload, 1) := by decide +kernel
theorem dRun_drawAt_84 : decode prog_9_method_19_code 84 = .ok (.aload_n 0, 1) := by decide +kernel
theorem dRun_drawAt_85 : decode prog_9_method_19_code 85 = .ok (.getfield 35, 3) := by decide +kernel
theorem dRun_drawAt_88 : decode prog_9_method_19_code 88 = .ok (.getfield 231, 3) := by decide +kernel
theorem dRun_drawAt_91 : decode prog_9_method_19_code 91 = .ok (.iload_n 1, 1) := by decide +kernel
theorem dRun_drawAt_92 : decode prog_9_method_19_code 92 = .ok (.iaload, 1) := by decide +kernel
theorem dRun_drawAt_93 : decode prog_9_method_19_code 93 = .ok (.if_icmp .le 4, 3) := by decide +kernel
theorem dRun_drawAt_96 : decode prog_9_method_19_code 96 = .ok (.return_, 1) := by decide +kernel
theorem dRun_drawAt_97 : decode prog_9_method_19_code 97 = .ok (.aload_n 0, 1) := by decide +kernel
theorem dRun_drawAt_98 : decode prog_9_method_19_code 98 = .ok (.iload 5, 2) := by decide +kernel
theorem dRun_drawAt_100 : decode prog_9_method_19_code 100 = .ok (.iload_n 1, 1) := by decide +kernel
theorem dRun_drawAt_101 : decode prog_9_method_19_code 101 = .ok (.iload_n 2, 1) := by decide +kernel
theorem dRun_drawAt_102 : decode prog_9_method_19_code 102 = .ok (.invokevirtual 345, 3) := by decide +kernel
theorem dRun_drawAt_105 : decode prog_9_method_19_code 105 = .ok (.iinc 4 1, 3) := by decide +kernel
theorem dRun_drawAt_108 : decode prog_9_method_19_code 108 = .ok (.goto (-86), 3) := by decide +kernel
theorem dRun_drawAt_111 : decode prog_9_method_19_code 111 = .ok (.iinc 3 1, 3) := by decide +kernel
theorem dRun_drawAt_114 : decode prog_9_method_19_code 114 = .ok (.goto (-106), 3) := by decide +kernel
theorem dRun_drawAt_117 : decode prog_9_method_19_code 117 = .ok (.return_, 1) := by decide +kernel
theorem dRun_drawPaper_0 : decode prog_9_method_20_code 0 = .ok (.aload_n 0, 1) := by decide +kernel
theorem dRun_drawPaper_1 : decode prog_9_method_20_code 1 = .ok (.getfield 42, 3) := by decide +kernel
theorem dRun_drawPaper_4 : decode prog_9_method_20_code 4 = .ok (.getfield 329, 3) := by decide +kernel
theorem dRun_drawPaper_7 : decode prog_9_method_20_code 7 = .ok (.iload_n 1, 1) := by decide +kernel
theorem dRun_drawPaper_8 : decode prog_9_method_20_code 8 = .ok (.iaload, 1) := by decide +kernel
theorem dRun_drawPaper_9 : decode prog_9_method_20_code 9 = .ok (.istore 4, 2) := by decide +kernel
theorem dRun_drawPaper_11 : decode prog_9_method_20_code 11 = .ok (.aload_n 0, 1) := by decide +kernel
theorem dRun_drawPaper_12 : decode prog_9_method_20_code 12 = .ok (.getfield 42, 3) := by decide +kernel
theorem dRun_drawPaper_15 : decode prog_9_method_20_code 15 = .ok (.getfield 349, 3) := by decide +kernel
theorem dRun_drawPaper_18 : decode prog_9_method_20_code 18 = .ok (.iload_n 1, 1) := by decide +kernel
theorem dRun_drawPaper_19 : decode prog_9_method_20_code 19 = .ok (.iaload, 1) := by decide +kernel
theorem dRun_drawPaper_20 : decode prog_9_method_20_code 20 = .ok (.istore 5, 2) := by decide +kernel
theorem dRun_drawPaper_22 : decode prog_9_method_20_code 22 = .ok (.aload_n 0, 1) := by decide +kernel
theorem dRun_drawPaper_23 : decode prog_9_method_20_code 23 = .ok (.getfield 35, 3) := by decide +kernel
theorem dRun_drawPaper_26 : decode prog_9_method_20_code 26 = .ok (.getfield 231, 3) := by decide +kernel
theorem dRun_drawPaper_29 : decode prog_9_method_20_code 29 = .ok (.iload_n 2, 1) := by decide +kernel
theorem dRun_drawPaper_30 : decode prog_9_method_20_code 30 = .ok (.dup2, 1) := by decide +kernel
theorem dRun_drawPaper_31 : decode prog_9_method_20_code 31 = .ok (.iaload, 1) := by decide +kernel
theorem dRun_drawPaper_32 : decode prog_9_method_20_code 32 = .ok (.iload 4, 2) := by decide +kernel
theorem dRun_drawPaper_34 : decode prog_9_method_20_code 34 = .ok (.isub, 1) := by decide +kernel
theorem dRun_drawPaper_35 : decode prog_9_method_20_code 35 = .ok (.iastore, 1) := by decide +kernel
theorem dRun_drawPaper_36 : decode prog_9_method_20_code 36 = .ok (.aload_n 0, 1) := by decide +kernel
theorem dRun_drawPaper_37 : decode prog_9_method_20_code 37 = .ok (.getfield 42, 3) := by decide +kernel
theorem dRun_drawPaper_40 : decode prog_9_method_20_code 40 = .ok (.iload_n 1, 1) := by decide +kernel
theorem dRun_drawPaper_41 : decode prog_9_method_20_code 41 = .ok (.aload_n 0, 1) := by decide +kernel
theorem dRun_drawPaper_42 : decode prog_9_method_20_code 42 = .ok (.getfield 98, 3) := by decide +kernel
theorem dRun_drawPaper_45 : decode prog_9_method_20_code 45 = .ok (.invokevirtual 352, 3) := by decide +kernel
theorem dRun_drawPaper_48 : decode prog_9_method_20_code 48 = .ok (.aload_n 0, 1) := by decide +kernel
theorem dRun_drawPaper_49 : decode prog_9_method_20_code 49 = .ok (.getfield 87, 3) := by decide +kernel
theorem dRun_drawPaper_52 : decode prog_9_method_20_code 52 = .ok (.bipush 9, 2) := by decide +kernel
theorem dRun_drawPaper_54 : decode prog_9_method_20_code 54 = .ok (.dup2, 1) := by decide +kernel
theorem dRun_drawPaper_55 : decode prog_9_method_20_code 55 = .ok (.laload, 1) := by decide +kernel
theorem dRun_drawPaper_56 : decode prog_9_method_20_code 56 = .ok (.lconst 1, 1) := by decide +kernel
theorem dRun_drawPaper_57 : decode prog_9_method_20_code 57 = .ok (.ladd, 1) := by decide +kernel
theorem dRun_drawPaper_58 : decode prog_9_method_20_code 58 = .ok (.lastore, 1) := by decide +kernel
theorem dRun_drawPaper_59 : decode prog_9_method_20_code 59 = .ok (.aload_n 0, 1) := by decide +kernel
theorem dRun_drawPaper_60 : decode prog_9_method_20_code 60 = .ok (.getfield 87, 3) := by decide +kernel
theorem dRun_drawPaper_63 : decode prog_9_method_20_code 63 = .ok (.bipush 8, 2) := by decide +kernel
theorem dRun_drawPaper_65 : decode prog_9_method_20_code 65 = .ok (.dup2, 1) := by decide +kernel
theorem dRun_drawPaper_66 : decode prog_9_method_20_code 66 = .ok (.laload, 1) := by decide +kernel
theorem dRun_drawPaper_67 : decode prog_9_method_20_code 67 = .ok (.aload_n 0, 1) := by decide +kernel
theorem dRun_drawPaper_68 : decode prog_9_method_20_code 68 = .ok (.getfield 98, 3) := by decide +kernel
theorem dRun_drawPaper_71 : decode prog_9_method_20_code 71 = .ok (.aload_n 0, 1) := by decide +kernel
theorem dRun_drawPaper_72 : decode prog_9_method_20_code 72 = .ok (.getfield 42, 3) := by decide +kernel
theorem dRun_drawPaper_75 : decode prog_9_method_20_code 75 = .ok (.getfield 326, 3) := by decide +kernel
theorem dRun_drawPaper_78 : decode prog_9_method_20_code 78 = .ok (.iload_n 1, 1) := by decide +kernel
theorem dRun_drawPaper_79 : decode prog_9_method_20_code 79 = .ok (.iaload, 1) := by decide +kernel
theorem dRun_drawPaper_80 : decode prog_9_method_20_code 80 = .ok (.isub, 1) := by decide +kernel
theorem dRun_drawPaper_81 : decode prog_9_method_20_code 81 = .ok (.i2l, 1) := by decide +kernel
theorem dRun_drawPaper_82 : decode prog_9_method_20_code 82 = .ok (.ladd, 1) := by decide +kernel
theorem dRun_drawPaper_83 : decode prog_9_method_20_code 83 = .ok (.lastore, 1) := by decide +kernel
theorem dRun_drawPaper_84 : decode prog_9_method_20_code 84 = .ok (.iload_n 3, 1) := by decide +kernel
theorem dRun_drawPaper_85 : decode prog_9_method_20_code 85 = .ok (.iconst (-1), 1) := by decide +kernel
theorem dRun_drawPaper_86 : decode prog_9_method_20_code 86 = .ok (.if_icmp .eq 9, 3) := by decide +kernel
theorem dRun_drawPaper_89 : decode prog_9_method_20_code 89 = .ok (.iload 5, 2) := by decide +kernel
theorem dRun_drawPaper_91 : decode prog_9_method_20_code 91 = .ok (.iconst (-1), 1) := by decide +kernel
theorem dRun_drawPaper_92 : decode prog_9_method_20_code 92 = .ok (.if_icmp .ne 16, 3) := by decide +kernel
theorem dRun_drawPaper_95 : decode prog_9_method_20_code 95 = .ok (.aload_n 0, 1) := by decide +kernel
theorem dRun_drawPaper_96 : decode prog_9_method_20_code 96 = .ok (.getfield 87, 3) := by decide +kernel
theorem dRun_drawPaper_99 : decode prog_9_method_20_code 99 = .ok (.iconst 5, 1) := by decide +kernel
theorem dRun_drawPaper_100 : decode prog_9_method_20_code 100 = .ok (.dup2, 1) := by decide +kernel
theorem dRun_drawPaper_101 : decode prog_9_method_20_code 101 = .ok (.laload, 1) := by decide +kernel
theorem dRun_drawPaper_102 : decode prog_9_method_20_code 102 = .ok (.iload 4, 2) := by decide +kernel
theorem dRun_drawPaper_104 : decode prog_9_method_20_code 104 = .ok (.i2l, 1) := by decide +kernel
theorem dRun_drawPaper_105 : decode prog_9_method_20_code 105 = .ok (.ladd, 1) := by decide +kernel
theorem dRun_drawPaper_106 : decode prog_9_method_20_code 106 = .ok (.lastore, 1) := by decide +kernel
theorem dRun_drawPaper_107 : decode prog_9_method_20_code 107 = .ok (.return_, 1) := by decide +kernel
theorem dRun_drawPaper_108 : decode prog_9_method_20_code 108 = .ok (.aload_n 0, 1) := by decide +kernel
theorem dRun_drawPaper_109 : decode prog_9_method_20_code 109 = .ok (.getfield 12, 3) := by decide +kernel
theorem dRun_drawPaper_112 : decode prog_9_method_20_code 112 = .ok (.aload_n 0, 1) := by decide +kernel
theorem dRun_drawPaper_113 : decode prog_9_method_20_code 113 = .ok (.getfield 12, 3) := by decide +kernel
theorem dRun_drawPaper_116 : decode prog_9_method_20_code 116 = .ok (.getfield 355, 3) := by decide +kernel
theorem dRun_drawPaper_119 : decode prog_9_method_20_code 119 = .ok (.iload_n 2, 1) := by decide +kernel
theorem dRun_drawPaper_120 : decode prog_9_method_20_code 120 = .ok (.iaload, 1) := by decide +kernel
theorem dRun_drawPaper_121 : decode prog_9_method_20_code 121 = .ok (.aload_n 0, 1) := by decide +kernel
theorem dRun_drawPaper_122 : decode prog_9_method_20_code 122 = .ok (.getfield 12, 3) := by decide +kernel
theorem dRun_drawPaper_125 : decode prog_9_method_20_code 125 = .ok (.getfield 358, 3) := by decide +kernel
theorem dRun_drawPaper_128 : decode prog_9_method_20_code 128 = .ok (.iload_n 3, 1) := by decide +kernel
theorem dRun_drawPaper_129 : decode prog_9_method_20_code 129 = .ok (.iaload, 1) := by decide +kernel
theorem dRun_drawPaper_130 : decode prog_9_method_20_code 130 = .ok (.invokevirtual 361, 3) := by decide +kernel
theorem dRun_drawPaper_133 : decode prog_9_method_20_code 133 = .ok (.istore 6, 2) := by decide +kernel
theorem dRun_drawPaper_135 : decode prog_9_method_20_code 135 = .ok (.iload 4, 2) := by decide +kernel
theorem dRun_drawPaper_137 : decode prog_9_method_20_code 137 = .ok (.i2l, 1) := by decide +kernel
theorem dRun_drawPaper_138 : decode prog_9_method_20_code 138 = .ok (.iload 6, 2) := by decide +kernel
theorem dRun_drawPaper_140 : decode prog_9_method_20_code 140 = .ok (.aload_n 0, 1) := by decide +kernel
theorem dRun_drawPaper_141 : decode prog_9_method_20_code 141 = .ok (.getfield 21, 3) := by decide +kernel
theorem dRun_drawPaper_144 : decode prog_9_method_20_code 144 = .ok (.getfield 364, 3) := by decide +kernel
theorem dRun_drawPaper_147 : decode prog_9_method_20_code 147 = .ok (.imul, 1) := by decide +kernel
theorem dRun_drawPaper_148 : decode prog_9_method_20_code 148 = .ok (.bipush 10, 2) := by decide +kernel
theorem dRun_drawPaper_150 : decode prog_9_method_20_code 150 = .ok (.idiv, 1) := by decide +kernel
theorem dRun_drawPaper_151 : decode prog_9_method_20_code 151 = .ok (.i2l, 1) := by decide +kernel
theorem dRun_drawPaper_152 : decode prog_9_method_20_code 152 = .ok (.lmul, 1) := by decide +kernel
theorem dRun_drawPaper_153 : decode prog_9_method_20_code 153 = .ok (.lstore 7, 2) := by decide +kernel
theorem dRun_drawPaper_155 : decode prog_9_method_20_code 155 = .ok (.aload_n 0, 1) := by decide +kernel
theorem dRun_drawPaper_156 : decode prog_9_method_20_code 156 = .ok (.getfield 74, 3) := by decide +kernel
theorem dRun_drawPaper_159 : decode prog_9_method_20_code 159 = .ok (.iload 5, 2) := by decide +kernel
theorem dRun_drawPaper_161 : decode prog_9_method_20_code 161 = .ok (.dup2, 1) := by decide +kernel
theorem dRun_drawPaper_162 : decode prog_9_method_20_code 162 = .ok (.laload, 1) := by decide +kernel
theorem dRun_drawPaper_163 : decode prog_9_method_20_code 163 = .ok (.aload_n 0, 1) := by decide +kernel
theorem dRun_drawPaper_164 : decode prog_9_method_20_code 164 = .ok (.getfield 74, 3) := by decide +kernel
theorem dRun_drawPaper_167 : decode prog_9_method_20_code 167 = .ok (.iload 5, 2) := by decide +kernel
theorem dRun_drawPaper_169 : decode prog_9_method_20_code 169 = .ok (.laload, 1) := by decide +kernel
theorem dRun_drawPaper_170 : decode prog_9_method_20_code 170 = .ok (.lload 7, 2) := by decide +kernel
theorem dRun_drawPaper_172 : decode prog_9_method_20_code 172 = .ok (.invokestatic 367, 3) := by decide +kernel
theorem dRun_drawPaper_175 : decode prog_9_method_20_code 175 = .ok (.lsub, 1) := by decide +kernel
theorem dRun_drawPaper_176 : decode prog_9_method_20_code 176 = .ok (.lastore, 1) := by decide +kernel
theorem dRun_drawPaper_177 : decode prog_9_method_20_code 177 = .ok (.aload_n 0, 1) := by decide +kernel
theorem dRun_drawPaper_178 : decode prog_9_method_20_code 178 = .ok (.getfield 49, 3) := by decide +kernel
theorem dRun_drawPaper_181 : decode prog_9_method_20_code 181 = .ok (.iload 5, 2) := by decide +kernel
theorem dRun_drawPaper_183 : decode prog_9_method_20_code 183 = .ok (.iload_n 3, 1) := by decide +kernel
theorem dRun_drawPaper_184 : decode prog_9_method_20_code 184 = .ok (.iload 4, 2) := by decide +kernel
theorem dRun_drawPaper_186 : decode prog_9_method_20_code 186 = .ok (.aload_n 0, 1) := by decide +kernel
theorem dRun_drawPaper_187 : decode prog_9_method_20_code 187 = .ok (.getfield 98, 3) := by decide +kernel
theorem dRun_drawPaper_190 : decode prog_9_method_20_code 190 = .ok (.iload 6, 2) := by decide +kernel
theorem dRun_drawPaper_192 : decode prog_9_method_20_code 192 = .ok (.invokevirtual 370, 3) := by decide +kernel
theorem dRun_drawPaper_195 : decode prog_9_method_20_code 195 = .ok (.return_, 1) := by decide +kernel
theorem dRun_townFor_0 : decode prog_9_method_21_code 0 = .ok (.iconst (-1), 1) := by decide +kernel
theorem dRun_townFor_1 : decode prog_9_method_21_code 1 = .ok (.istore_n 2, 1) := by decide +kernel
theorem dRun_townFor_2 : decode prog_9_method_21_code 2 = .ok (.aload_n 0, 1) := by decide +kernel
theorem dRun_townFor_3 : decode prog_9_method_21_code 3 = .ok (.ldc2_w 104, 3) := by decide +kernel
theorem dRun_townFor_6 : decode prog_9_method_21_code 6 = .ok (.putfield 106, 3) := by decide +kernel
theorem dRun_townFor_9 : decode prog_9_method_21_code 9 = .ok (.iconst 0, 1) := by decide +kernel
theorem dRun_townFor_10 : decode prog_9_method_21_code 10 = .ok (.istore_n 3, 1) := by decide +kernel
theorem dRun_townFor_11 : decode prog_9_method_21_code 11 = .ok (.iload_n 3, 1) := by decide +kernel
theorem dRun_townFor_12 : decode prog_9_method_21_code 12 = .ok (.aload_n 0, 1) := by decide +kernel
theorem dRun_townFor_13 : decode prog_9_method_21_code 13 = .ok (.getfield 12, 3) := by decide +kernel
theorem dRun_townFor_16 : decode prog_9_method_21_code 16 = .ok (.getfield 374, 3) := by decide +kernel
theorem dRun_townFor_19 : decode prog_9_method_21_code 19 = .ok (.if_icmp .ge 90, 3) := by decide +kernel
theorem dRun_townFor_22 : decode prog_9_method_21_code 22 = .ok (.aload_n 0, 1) := by decide +kernel
theorem dRun_townFor_23 : decode prog_9_method_21_code 23 = .ok (.getfield 12, 3) := by decide +kernel
theorem dRun_townFor_26 : decode prog_9_method_21_code 26 = .ok (.aload_n 0, 1) := by decide +kernel
theorem dRun_townFor_27 : decode prog_9_method_21_code 27 = .ok (.getfield 12, 3) := by decide +kernel
theorem dRun_townFor_30 : decode prog_9_method_21_code 30 = .ok (.getfield 355, 3) := by decide +kernel
theorem dRun_townFor_33 : decode prog_9_method_21_code 33 = .ok (.iload_n 1, 1) := by decide +kernel
theorem dRun_townFor_34 : decode prog_9_method_21_code 34 = .ok (.iaload, 1) := by decide +kernel
theorem dRun_townFor_35 : decode prog_9_method_21_code 35 = .ok (.aload_n 0, 1) := by decide +kernel
theorem dRun_townFor_36 : decode prog_9_method_21_code 36 = .ok (.getfield 12, 3) := by decide +kernel
theorem dRun_townFor_39 : decode prog_9_method_21_code 39 = .ok (.getfield 358, 3) := by decide +kernel
theorem dRun_townFor_42 : decode prog_9_method_21_code 42 = .ok (.iload_n 3, 1) := by decide +kernel
theorem dRun_townFor_43 : decode prog_9_method_21_code 43 = .ok (.iaload, 1) := by decide +kernel
theorem dRun_townFor_44 : decode prog_9_method_21_code 44 = .ok (.invokevirtual 361, 3) := by decide +kernel
theorem dRun_townFor_47 : decode prog_9_method_21_code 47 = .ok (.istore 4, 2) := by decide +kernel
theorem dRun_townFor_49 : decode prog_9_method_21_code 49 = .ok (.iload 4, 2) := by decide +kernel
theorem dRun_townFor_51 : decode prog_9_method_21_code 51 = .ok (.iconst (-1), 1) := by decide +kernel
theorem dRun_townFor_52 : decode prog_9_method_21_code 52 = .ok (.if_icmp .eq 51, 3) := by decide +kernel
theorem dRun_townFor_55 : decode prog_9_method_21_code 55 = .ok (.aload_n 0, 1) := by decide +kernel
theorem dRun_townFor_56 : decode prog_9_method_21_code 56 = .ok (.getfield 12, 3) := by decide +kernel
theorem dRun_townFor_59 : decode prog_9_method_21_code 59 = .ok (.iload_n 1, 1) := by decide +kernel
theorem dRun_townFor_60 : decode prog_9_method_21_code 60 = .ok (.aload_n 0, 1) := by decide +kernel
theorem dRun_townFor_61 : decode prog_9_method_21_code 61 = .ok (.getfield 12, 3) := by decide +kernel
theorem dRun_townFor_64 : decode prog_9_method_21_code 64 = .ok (.getfield 377, 3) := by decide +kernel
theorem dRun_townFor_67 : decode prog_9_method_21_code 67 = .ok (.iload_n 3, 1) := by decide +kernel
theorem dRun_townFor_68 : decode prog_9_method_21_code 68 = .ok (.iaload, 1) := by decide +kernel
theorem dRun_townFor_69 : decode prog_9_method_21_code 69 = .ok (.invokevirtual 380, 3) := by decide +kernel
theorem dRun_townFor_72 : decode prog_9_method_21_code 72 = .ok (.ifCond .eq 31, 3) := by decide +kernel
theorem dRun_townFor_75 : decode prog_9_method_21_code 75 = .ok (.aload_n 0, 1) := by decide +kernel
theorem dRun_townFor_76 : decode prog_9_method_21_code 76 = .ok (.iload_n 1, 1) := by decide +kernel
theorem dRun_townFor_77 : decode prog_9_method_21_code 77 = .ok (.iload_n 3, 1) := by decide +kernel
theorem dRun_townFor_78 : decode prog_9_method_21_code 78 = .ok (.iload 4, 2) := by decide +kernel
theorem dRun_townFor_80 : decode prog_9_method_21_code 80 = .ok (.invokevirtual 384, 3) := by decide +kernel
theorem dRun_townFor_83 : decode prog_9_method_21_code 83 = .ok (.lstore 5, 2) := by decide +kernel
theorem dRun_townFor_85 : decode prog_9_method_21_code 85 = .ok (.lload 5, 2) := by decide +kernel
theorem dRun_townFor_87 : decode prog_9_method_21_code 87 = .ok (.aload_n 0, 1) := by decide +kernel
theorem dRun_townFor_88 : decode prog_9_method_21_code 88 = .ok (.getfield 106, 3) := by decide +kernel
theorem dRun_townFor_91 : decode prog_9_method_21_code 91 = .ok (.lcmp, 1) := by decide +kernel
theorem dRun_townFor_92 : decode prog_9_method_21_code 92 = .ok (.ifCond .le 11, 3) := by decide +kernel
theorem dRun_townFor_95 : decode prog_9_method_21_code 95 = .ok (.iload_n 3, 1) := by decide +kernel
theorem dRun_townFor_96 : decode prog_9_method_21_code 96 = .ok (.istore_n 2, 1) := by decide +kernel
theorem dRun_townFor_97 : decode prog_9_method_21_code 97 = .ok (.aload_n 0, 1) := by decide +kernel
theorem dRun_townFor_98 : decode prog_9_method_21_code 98 = .ok (.lload 5, 2) := by decide +kernel
theorem dRun_townFor_100 : decode prog_9_method_21_code 100 = .ok (.putfield 106, 3) := by decide +kernel
theorem dRun_townFor_103 : decode prog_9_method_21_code 103 = .ok (.iinc 3 1, 3) := by decide +kernel
theorem dRun_townFor_106 : decode prog_9_method_21_code 106 = .ok (.goto (-95), 3) := by decide +kernel
theorem dRun_townFor_109 : decode prog_9_method_21_code 109 = .ok (.iload_n 2, 1) := by decide +kernel
theorem dRun_townFor_110 : decode prog_9_method_21_code 110 = .ok (.ireturn, 1) := by decide +kernel
theorem dRun_worthIn_0 : decode prog_9_method_22_code 0 = .ok (.iconst 1, 1) := by decide +kernel
theorem dRun_worthIn_1 : decode prog_9_method_22_code 1 = .ok (.aload_n 0, 1) := by decide +kernel
theorem dRun_worthIn_2 : decode prog_9_method_22_code 2 = .ok (.getfield 12, 3) := by decide +kernel
theorem dRun_worthIn_5 : decode prog_9_method_22_code 5 = .ok (.getfield 388, 3) := by decide +kernel
theorem dRun_worthIn_8 : decode prog_9_method_22_code 8 = .ok (.iload_n 1, 1) := by decide +kernel
theorem dRun_worthIn_9 : decode prog_9_method_22_code 9 = .ok (.iaload, 1) := by decide +kernel
theorem dRun_worthIn_10 : decode prog_9_method_22_code 10 = .ok (.invokestatic 251, 3) := by decide +kernel
theorem dRun_worthIn_13 : decode prog_9_method_22_code 13 = .ok (.istore 4, 2) := by decide +kernel
theorem dRun_worthIn_15 : decode prog_9_method_22_code 15 = .ok (.iload_n 3, 1) := by decide +kernel
theorem dRun_worthIn_16 : decode prog_9_method_22_code 16 = .ok (.invokestatic 391, 3) := by decide +kernel
theorem dRun_worthIn_19 : decode prog_9_method_22_code 19 = .ok (.aload_n 0, 1) := by decide +kernel
theorem dRun_worthIn_20 : decode prog_9_method_22_code 20 = .ok (.getfield 42, 3) := by decide +kernel
theorem dRun_worthIn_23 : decode prog_9_method_22_code 23 = .ok (.getfield 317, 3) := by decide +kernel
theorem dRun_worthIn_26 : decode prog_9_method_22_code 26 = .ok (.iload_n 1, 1) := by decide +kernel
theorem dRun_worthIn_27 : decode prog_9_method_22_code 27 = .ok (.iaload, 1) := by decide +kernel
theorem dRun_worthIn_28 : decode prog_9_method_22_code 28 = .ok (.iload 4, 2) := by decide +kernel
theorem dRun_worthIn_30 : decode prog_9_method_22_code 30 = .ok (.idiv, 1) := by decide +kernel
theorem dRun_worthIn_31 : decode prog_9_method_22_code 31 = .ok (.iadd, 1) := by decide +kernel
theorem dRun_worthIn_32 : decode prog_9_method_22_code 32 = .ok (.i2l, 1) := by decide +kernel
theorem dRun_worthIn_33 : decode prog_9_method_22_code 33 = .ok (.lstore 5, 2) := by decide +kernel
theorem dRun_worthIn_35 : decode prog_9_method_22_code 35 = .ok (.aload_n 0, 1) := by decide +kernel
theorem dRun_worthIn_36 : decode prog_9_method_22_code 36 = .ok (.getfield 35, 3) := by decide +kernel
theorem dRun_worthIn_39 : decode prog_9_method_22_code 39 = .ok (.aload_n 0, 1) := by decide +kernel
theorem dRun_worthIn_40 : decode prog_9_method_22_code 40 = .ok (.getfield 12, 3) := by decide +kernel
theorem dRun_worthIn_43 : decode prog_9_method_22_code 43 = .ok (.iload_n 2, 1) := by decide +kernel
theorem dRun_worthIn_44 : decode prog_9_method_22_code 44 = .ok (.invokevirtual 307, 3) := by decide +kernel
theorem dRun_worthIn_47 : decode prog_9_method_22_code 47 = .ok (.aload_n 0, 1) := by decide +kernel
theorem dRun_worthIn_48 : decode prog_9_method_22_code 48 = .ok (.getfield 71, 3) := by decide +kernel
theorem dRun_worthIn_51 : decode prog_9_method_22_code 51 = .ok (.iconst 4, 1) := by decide +kernel
theorem dRun_worthIn_52 : decode prog_9_method_22_code 52 = .ok (.iaload, 1) := by decide +kernel
theorem dRun_worthIn_53 : decode prog_9_method_22_code 53 = .ok (.isub, 1) := by decide +kernel
theorem dRun_worthIn_54 : decode prog_9_method_22_code 54 = .ok (.iload_n 3, 1) := by decide +kernel
theorem dRun_worthIn_55 : decode prog_9_method_22_code 55 = .ok (.aload_n 0, 1) := by decide +kernel
theorem dRun_worthIn_56 : decode prog_9_method_22_code 56 = .ok (.getfield 21, 3) := by decide +kernel
theorem dRun_worthIn_59 : decode prog_9_method_22_code 59 = .ok (.getfield 364, 3) := by decide +kernel
theorem dRun_worthIn_62 : decode prog_9_method_22_code 62 = .ok (.imul, 1) := by decide +kernel
theorem dRun_worthIn_63 : decode prog_9_method_22_code 63 = .ok (.bipush 10, 2) := by decide +kernel
theorem dRun_worthIn_65 : decode prog_9_method_22_code 65 = .ok (.idiv, 1) := by decide +kernel
theorem dRun_worthIn_66 : decode prog_9_method_22_code 66 = .ok (.isub, 1) := by decide +kernel
theorem dRun_worthIn_67 : decode prog_9_method_22_code 67 = .ok (.i2l, 1) := by decide +kernel
theorem dRun_worthIn_68 : decode prog_9_method_22_code 68 = .ok (.aload_n 0, 1) := by decide +kernel
theorem dRun_worthIn_69 : decode prog_9_method_22_code 69 = .ok (.getfield 21, 3) := by decide +kernel
theorem dRun_worthIn_72 : decode prog_9_method_22_code 72 = .ok (.getfield 394, 3) := by decide +kernel
theorem dRun_worthIn_75 : decode prog_9_method_22_code 75 = .ok (.i2l, 1) := by decide +kernel
theorem dRun_worthIn_76 : decode prog_9_method_22_code 76 = .ok (.lload 5, 2) := by decide +kernel
theorem dRun_worthIn_78 : decode prog_9_method_22_code 78 = .ok (.lmul, 1) := by decide +kernel
theorem dRun_worthIn_79 : decode prog_9_method_22_code 79 = .ok (.lsub, 1) := by decide +kernel
theorem dRun_worthIn_80 : decode prog_9_method_22_code 80 = .ok (.lreturn, 1) := by decide +kernel
theorem dRun_carryingCost_0 : decode prog_9_method_23_code 0 = .ok (.bipush 10, 2) := by decide +kernel
theorem dRun_carryingCost_2 : decode prog_9_method_23_code 2 = .ok (.aload_n 0, 1) := by decide +kernel
theorem dRun_carryingCost_3 : decode prog_9_method_23_code 3 = .ok (.getfield 12, 3) := by decide +kernel
theorem dRun_carryingCost_6 : decode prog_9_method_23_code 6 = .ok (.getfield 397, 3) := by decide +kernel
theorem dRun_carryingCost_9 : decode prog_9_method_23_code 9 = .ok (.iload_n 1, 1) := by decide +kernel
theorem dRun_carryingCost_10 : decode prog_9_method_23_code 10 = .ok (.iaload, 1) := by decide +kernel
theorem dRun_carryingCost_11 : decode prog_9_method_23_code 11 = .ok (.imul, 1) := by decide +kernel
theorem dRun_carryingCost_12 : decode prog_9_method_23_code 12 = .ok (.iload_n 2, 1) := by decide +kernel
theorem dRun_carryingCost_13 : decode prog_9_method_23_code 13 = .ok (.aload_n 0, 1) := by decide +kernel
theorem dRun_carryingCost_14 : decode prog_9_method_23_code 14 = .ok (.getfield 21, 3) := by decide +kernel
theorem dRun_carryingCost_17 : decode prog_9_method_23_code 17 = .ok (.getfield 364, 3) := by decide +kernel
theorem dRun_carryingCost_20 : decode prog_9_method_23_code 20 = .ok (.imul, 1) := by decide +kernel
theorem dRun_carryingCost_21 : decode prog_9_method_23_code 21 = .ok (.iadd, 1) := by decide +kernel
theorem dRun_carryingCost_22 : decode prog_9_method_23_code 22 = .ok (.ireturn, 1) := by decide +kernel
theorem dRun_hasFarm_0 : decode prog_9_method_24_code 0 = .ok (.aload_n 0, 1) := by decide +kernel
theorem dRun_hasFarm_1 : decode prog_9_method_24_code 1 = .ok (.getfield 78, 3) := by decide +kernel
theorem dRun_hasFarm_4 : decode prog_9_method_24_code 4 = .ok (.iload_n 1, 1) := by decide +kernel
theorem dRun_hasFarm_5 : decode prog_9_method_24_code 5 = .ok (.iconst 3, 1) := by decide +kernel
theorem dRun_hasFarm_6 : decode prog_9_method_24_code 6 = .ok (.imul, 1) := by decide +kernel
theorem dRun_hasFarm_7 : decode prog_9_method_24_code 7 = .ok (.iload_n 2, 1) := by decide +kernel
theorem dRun_hasFarm_8 : decode prog_9_method_24_code 8 = .ok (.iadd, 1) := by decide +kernel
theorem dRun_hasFarm_9 : decode prog_9_method_24_code 9 = .ok (.iaload, 1) := by decide +kernel
theorem dRun_hasFarm_10 : decode prog_9_method_24_code 10 = .ok (.iconst (-1), 1) := by decide +kernel
theorem dRun_hasFarm_11 : decode prog_9_method_24_code 11 = .ok (.if_icmp .eq 7, 3) := by decide +kernel
theorem dRun_hasFarm_14 : decode prog_9_method_24_code 14 = .ok (.iconst 1, 1) := by decide +kernel
theorem dRun_hasFarm_15 : decode prog_9_method_24_code 15 = .ok (.goto 4, 3) := by decide +kernel
theorem dRun_hasFarm_18 : decode prog_9_method_24_code 18 = .ok (.iconst 0, 1) := by decide +kernel
theorem dRun_hasFarm_19 : decode prog_9_method_24_code 19 = .ok (.ireturn, 1) := by decide +kernel
theorem dRun_hasRipeFarm_0 : decode prog_9_method_25_code 0 = .ok (.aload_n 0, 1) := by decide +kernel
theorem dRun_hasRipeFarm_1 : decode prog_9_method_25_code 1 = .ok (.iload_n 1, 1) := by decide +kernel
theorem dRun_hasRipeFarm_2 : decode prog_9_method_25_code 2 = .ok (.iload_n 2, 1) := by decide +kernel
theorem dRun_hasRipeFarm_3 : decode prog_9_method_25_code 3 = .ok (.invokevirtual 400, 3) := by decide +kernel
theorem dRun_hasRipeFarm_6 : decode prog_9_method_25_code 6 = .ok (.ifCond .eq 27, 3) := by decide +kernel
theorem dRun_hasRipeFarm_9 : decode prog_9_method_25_code 9 = .ok (.aload_n 0, 1) := by decide +kernel
theorem dRun_hasRipeFarm_10 : decode prog_9_method_25_code 10 = .ok (.getfield 98, 3) := by decide +kernel
theorem dRun_hasRipeFarm_13 : decode prog_9_method_25_code 13 = .ok (.aload_n 0, 1) := by decide +kernel
theorem dRun_hasRipeFarm_14 : decode prog_9_method_25_code 14 = .ok (.getfield 78, 3) := by decide +kernel
theorem dRun_hasRipeFarm_17 : decode prog_9_method_25_code 17 = .ok (.iload_n 1, 1) := by decide +kernel
theorem dRun_hasRipeFarm_18 : decode prog_9_method_25_code 18 = .ok (.iconst 3, 1) := by decide +kernel
theorem dRun_hasRipeFarm_19 : decode prog_9_method_25_code 19 = .ok (.imul, 1) := by decide +kernel
theorem dRun_hasRipeFarm_20 : decode prog_9_method_25_code 20 = .ok (.iload_n 2, 1) := by decide +kernel
theorem dRun_hasRipeFarm_21 : decode prog_9_method_25_code 21 = .ok (.iadd, 1) := by decide +kernel
theorem dRun_hasRipeFarm_22 : decode prog_9_method_25_code 22 = .ok (.iaload, 1) := by decide +kernel
theorem dRun_hasRipeFarm_23 : decode prog_9_method_25_code 23 = .ok (.isub, 1) := by decide +kernel
theorem dRun_hasRipeFarm_24 : decode prog_9_method_25_code 24 = .ok (.bipush 12, 2) := by decide +kernel
theorem dRun_hasRipeFarm_26 : decode prog_9_method_25_code 26 = .ok (.if_icmp .lt 7, 3) := by decide +kernel
theorem dRun_hasRipeFarm_29 : decode prog_9_method_25_code 29 = .ok (.iconst 1, 1) := by decide +kernel
theorem dRun_hasRipeFarm_30 : decode prog_9_method_25_code 30 = .ok (.goto 4, 3) := by decide +kernel
theorem dRun_hasRipeFarm_33 : decode prog_9_method_25_code 33 = .ok (.iconst 0, 1) := by decide +kernel
theorem dRun_hasRipeFarm_34 : decode prog_9_method_25_code 34 = .ok (.ireturn, 1) := by decide +kernel
theorem dRun_takeWays_0 : decode prog_9_method_26_code 0 = .ok (.iconst 0, 1) := by decide +kernel
theorem dRun_takeWays_1 : decode prog_9_method_26_code 1 = .ok (.istore_n 1, 1) := by decide +kernel
theorem dRun_takeWays_2 : decode prog_9_method_26_code 2 = .ok (.iload_n 1, 1) := by decide +kernel
theorem dRun_takeWays_3 : decode prog_9_method_26_code 3 = .ok (.aload_n 0, 1) := by decide +kernel
theorem dRun_takeWays_4 : decode prog_9_method_26_code 4 = .ok (.getfield 21, 3) := by decide +kernel
theorem dRun_takeWays_7 : decode prog_9_method_26_code 7 = .ok (.getfield 174, 3) := by decide +kernel
theorem dRun_takeWays_10 : decode prog_9_method_26_code 10 = .ok (.if_icmp .ge 86, 3) := by decide +kernel
theorem dRun_takeWays_13 : decode prog_9_method_26_code 13 = .ok (.aload_n 0, 1) := by decide +kernel
theorem dRun_takeWays_14 : decode prog_9_method_26_code 14 = .ok (.iload_n 1, 1) := by decide +kernel
theorem dRun_takeWays_15 : decode prog_9_method_26_code 15 = .ok (.invokevirtual 212, 3) := by decide +kernel
theorem dRun_takeWays_18 : decode prog_9_method_26_code 18 = .ok (.ifCond .eq 26, 3) := by decide +kernel
theorem dRun_takeWays_21 : decode prog_9_method_26_code 21 = .ok (.aload_n 0, 1) := by decide +kernel
theorem dRun_takeWays_22 : decode prog_9_method_26_code 22 = .ok (.getfield 56, 3) := by decide +kernel
theorem dRun_takeWays_25 : decode prog_9_method_26_code 25 = .ok (.iload_n 1, 1) := by decide +kernel
theorem dRun_takeWays_26 : decode prog_9_method_26_code 26 = .ok (.aload_n 0, 1) := by decide +kernel
theorem dRun_takeWays_27 : decode prog_9_method_26_code 27 = .ok (.getfield 98, 3) := by decide +kernel
theorem dRun_takeWays_30 : decode prog_9_method_26_code 30 = .ok (.aload_n 0, 1) := by decide +kernel
theorem dRun_takeWays_31 : decode prog_9_method_26_code 31 = .ok (.getfield 74, 3) := by decide +kernel
theorem dRun_takeWays_34 : decode prog_9_method_26_code 34 = .ok (.iload_n 1, 1) := by decide +kernel
theorem dRun_takeWays_35 : decode prog_9_method_26_code 35 = .ok (.laload, 1) := by decide +kernel
theorem dRun_takeWays_36 : decode prog_9_method_26_code 36 = .ok (.iconst (-1), 1) := by decide +kernel
theorem dRun_takeWays_37 : decode prog_9_method_26_code 37 = .ok (.lconst 0, 1) := by decide +kernel
theorem dRun_takeWays_38 : decode prog_9_method_26_code 38 = .ok (.invokevirtual 403, 3) := by decide +kernel
theorem dRun_takeWays_41 : decode prog_9_method_26_code 41 = .ok (.goto 49, 3) := by decide +kernel
theorem dRun_takeWays_44 : decode prog_9_method_26_code 44 = .ok (.aload_n 0, 1) := by decide +kernel
theorem dRun_takeWays_45 : decode prog_9_method_26_code 45 = .ok (.getfield 63, 3) := by decide +kernel
theorem dRun_takeWays_48 : decode prog_9_method_26_code 48 = .ok (.aload_n 0, 1) := by decide +kernel
theorem dRun_takeWays_49 : decode prog_9_method_26_code 49 = .ok (.iload_n 1, 1) := by decide +kernel
theorem dRun_takeWays_50 : decode prog_9_method_26_code 50 = .ok (.invokevirtual 407, 3) := by decide +kernel
theorem dRun_takeWays_53 : decode prog_9_method_26_code 53 = .ok (.aload_n 0, 1) := by decide +kernel
theorem dRun_takeWays_54 : decode prog_9_method_26_code 54 = .ok (.iload_n 1, 1) := by decide +kernel
theorem dRun_takeWays_55 : decode prog_9_method_26_code 55 = .ok (.invokevirtual 411, 3) := by decide +kernel
theorem dRun_takeWays_58 : decode prog_9_method_26_code 58 = .ok (.aload_n 0, 1) := by decide +kernel
theorem dRun_takeWays_59 : decode prog_9_method_26_code 59 = .ok (.getfield 56, 3) := by decide +kernel
theorem dRun_takeWays_62 : decode prog_9_method_26_code 62 = .ok (.iload_n 1, 1) := by decide +kernel
theorem dRun_takeWays_63 : decode prog_9_method_26_code 63 = .ok (.aload_n 0, 1) := by decide +kernel
theorem dRun_takeWays_64 : decode prog_9_method_26_code 64 = .ok (.getfield 98, 3) := by decide +kernel
theorem dRun_takeWays_67 : decode prog_9_method_26_code 67 = .ok (.aload_n 0, 1) := by decide +kernel
theorem dRun_takeWays_68 : decode prog_9_method_26_code 68 = .ok (.getfield 74, 3) := by decide +kernel
theorem dRun_takeWays_71 : decode prog_9_method_26_code 71 = .ok (.iload_n 1, 1) := by decide +kernel
theorem dRun_takeWays_72 : decode prog_9_method_26_code 72 = .ok (.laload, 1) := by decide +kernel
theorem dRun_takeWays_73 : decode prog_9_method_26_code 73 = .ok (.aload_n 0, 1) := by decide +kernel
theorem dRun_takeWays_74 : decode prog_9_method_26_code 74 = .ok (.getfield 63, 3) := by decide +kernel
theorem dRun_takeWays_77 : decode prog_9_method_26_code 77 = .ok (.getfield 414, 3) := by decide +kernel
theorem dRun_takeWays_80 : decode prog_9_method_26_code 80 = .ok (.aload_n 0, 1) := by decide +kernel
theorem dRun_takeWays_81 : decode prog_9_method_26_code 81 = .ok (.getfield 63, 3) := by decide +kernel
theorem dRun_takeWays_84 : decode prog_9_method_26_code 84 = .ok (.getfield 417, 3) := by decide +kernel
theorem dRun_takeWays_87 : decode prog_9_method_26_code 87 = .ok (.invokevirtual 403, 3) := by decide +kernel
theorem dRun_takeWays_90 : decode prog_9_method_26_code 90 = .ok (.iinc 1 1, 3) := by decide +kernel
theorem dRun_takeWays_93 : decode prog_9_method_26_code 93 = .ok (.goto (-91), 3) := by decide +kernel
theorem dRun_takeWays_96 : decode prog_9_method_26_code 96 = .ok (.return_, 1) := by decide +kernel
theorem dRun_takeWay_0 : decode prog_9_method_27_code 0 = .ok (.aload_n 0, 1) := by decide +kernel
theorem dRun_takeWay_1 : decode prog_9_method_27_code 1 = .ok (.getfield 63, 3) := by decide +kernel
theorem dRun_takeWay_4 : decode prog_9_method_27_code 4 = .ok (.getfield 414, 3) := by decide +kernel
theorem dRun_takeWay_7 : decode prog_9_method_27_code 7 = .ok (.tableswitch 256 1 4 #[29, 37, 132, 172], 29) := by decide +kernel
theorem dRun_takeWay_36 : decode prog_9_method_27_code 36 = .ok (.aload_n 0, 1) := by decide +kernel
theorem dRun_takeWay_37 : decode prog_9_method_27_code 37 = .ok (.iload_n 1, 1) := by decide +kernel
theorem dRun_takeWay_38 : decode prog_9_method_27_code 38 = .ok (.invokevirtual 420, 3) := by decide +kernel
theorem dRun_takeWay_41 : decode prog_9_method_27_code 41 = .ok (.goto 222, 3) := by decide +kernel
theorem dRun_takeWay_44 : decode prog_9_method_27_code 44 = .ok (.aload_n 0, 1) := by decide +kernel
theorem dRun_takeWay_45 : decode prog_9_method_27_code 45 = .ok (.getfield 74, 3) := by decide +kernel
theorem dRun_takeWay_48 : decode prog_9_method_27_code 48 = .ok (.iload_n 1, 1) := by decide +kernel
theorem dRun_takeWay_49 : decode prog_9_method_27_code 49 = .ok (.dup2, 1) := by decide +kernel
theorem dRun_takeWay_50 : decode prog_9_method_27_code 50 = .ok (.laload, 1) := by decide +kernel
theorem dRun_takeWay_51 : decode prog_9_method_27_code 51 = .ok (.aload_n 0, 1) := by decide +kernel
theorem dRun_takeWay_52 : decode prog_9_method_27_code 52 = .ok (.getfield 63, 3) := by decide +kernel
theorem dRun_takeWay_55 : decode prog_9_method_27_code 55 = .ok (.getfield 423, 3) := by decide +kernel
theorem dRun_takeWay_58 : decode prog_9_method_27_code 58 = .ok (.i2l, 1) := by decide +kernel
theorem dRun_takeWay_59 : decode prog_9_method_27_code 59 = .ok (.aload_n 0, 1) := by decide +kernel
theorem dRun_takeWay_60 : decode prog_9_method_27_code 60 = .ok (.getfield 21, 3) := by decide +kernel
theorem dRun_takeWay_63 : decode prog_9_method_27_code 63 = .ok (.getfield 426, 3) := by decide +kernel
theorem dRun_takeWay_66 : decode prog_9_method_27_code 66 = .ok (.i2l, 1) := by decide +kernel
theorem dRun_takeWay_67 : decode prog_9_method_27_code 67 = .ok (.lmul, 1) := by decide +kernel
theorem dRun_takeWay_68 : decode prog_9_method_27_code 68 = .ok (.lsub, 1) := by decide +kernel
theorem dRun_takeWay_69 : decode prog_9_method_27_code 69 = .ok (.lastore, 1) := by decide +kernel
theorem dRun_takeWay_70 : decode prog_9_method_27_code 70 = .ok (.aload_n 0, 1) := by decide +kernel
theorem dRun_takeWay_71 : decode prog_9_method_27_code 71 = .ok (.getfield 35, 3) := by decide +kernel
theorem dRun_takeWay_74 : decode prog_9_method_27_code 74 = .ok (.getfield 264, 3) := by decide +kernel
theorem dRun_takeWay_77 : decode prog_9_method_27_code 77 = .ok (.aload_n 0, 1) := by decide +kernel
theorem dRun_takeWay_78 : decode prog_9_method_27_code 78 = .ok (.getfield 63, 3) := by decide +kernel
theorem dRun_takeWay_81 : decode prog_9_method_27_code 81 = .ok (.getfield 429, 3) := by decide +kernel
theorem dRun_takeWay_84 : decode prog_9_method_27_code 84 = .ok (.dup2, 1) := by decide +kernel
theorem dRun_takeWay_85 : decode prog_9_method_27_code 85 = .ok (.iaload, 1) := by decide +kernel
theorem dRun_takeWay_86 : decode prog_9_method_27_code 86 = .ok (.aload_n 0, 1) := by decide +kernel
theorem dRun_takeWay_87 : decode prog_9_method_27_code 87 = .ok (.getfield 63, 3) := by decide +kernel
theorem dRun_takeWay_90 : decode prog_9_method_27_code 90 = .ok (.getfield 423, 3) := by decide +kernel
theorem dRun_takeWay_93 : decode prog_9_method_27_code 93 = .ok (.bipush 10, 2) := by decide +kernel
theorem dRun_takeWay_95 : decode prog_9_method_27_code 95 = .ok (.imul, 1) := by decide +kernel
theorem dRun_takeWay_96 : decode prog_9_method_27_code 96 = .ok (.iadd, 1) := by decide +kernel
theorem dRun_takeWay_97 : decode prog_9_method_27_code 97 = .ok (.iastore, 1) := by decide +kernel
theorem dRun_takeWay_98 : decode prog_9_method_27_code 98 = .ok (.aload_n 0, 1) := by decide +kernel
theorem dRun_takeWay_99 : decode prog_9_method_27_code 99 = .ok (.getfield 63, 3) := by decide +kernel
theorem dRun_takeWay_102 : decode prog_9_method_27_code 102 = .ok (.getfield 432, 3) := by decide +kernel
theorem dRun_takeWay_105 : decode prog_9_method_27_code 105 = .ok (.ifCond .le 158, 3) := by decide +kernel
theorem dRun_takeWay_108 : decode prog_9_method_27_code 108 = .ok (.aload_n 0, 1) := by decide +kernel
theorem dRun_takeWay_109 : decode prog_9_method_27_code 109 = .ok (.getfield 42, 3) := by decide +kernel
theorem dRun_takeWay_112 : decode prog_9_method_27_code 112 = .ok (.iload_n 1, 1) := by decide +kernel
theorem dRun_takeWay_113 : decode prog_9_method_27_code 113 = .ok (.aload_n 0, 1) := by decide +kernel
theorem dRun_takeWay_114 : decode prog_9_method_27_code 114 = .ok (.getfield 63, 3) := by decide +kernel
theorem dRun_takeWay_117 : decode prog_9_method_27_code 117 = .ok (.getfield 434, 3) := by decide +kernel
theorem dRun_takeWay_120 : decode prog_9_method_27_code 120 = .ok (.aload_n 0, 1) := by decide +kernel
theorem dRun_takeWay_121 : decode prog_9_method_27_code 121 = .ok (.getfield 63, 3) := by decide +kernel
theorem dRun_takeWay_124 : decode prog_9_method_27_code 124 = .ok (.getfield 432, 3) := by decide +kernel
theorem dRun_takeWay_127 : decode prog_9_method_27_code 127 = .ok (.aload_n 0, 1) := by decide +kernel
theorem dRun_takeWay_128 : decode prog_9_method_27_code 128 = .ok (.getfield 98, 3) := by decide +kernel
theorem dRun_takeWay_131 : decode prog_9_method_27_code 131 = .ok (.iconst 0, 1) := by decide +kernel
theorem dRun_takeWay_132 : decode prog_9_method_27_code 132 = .ok (.iconst 0, 1) := by decide +kernel
theorem dRun_takeWay_133 : decode prog_9_method_27_code 133 = .ok (.invokevirtual 303, 3) := by decide +kernel
theorem dRun_takeWay_136 : decode prog_9_method_27_code 136 = .ok (.goto 127, 3) := by decide +kernel
theorem dRun_takeWay_139 : decode prog_9_method_27_code 139 = .ok (.aload_n 0, 1) := by decide +kernel
theorem dRun_takeWay_140 : decode prog_9_method_27_code 140 = .ok (.getfield 74, 3) := by decide +kernel
theorem dRun_takeWay_143 : decode prog_9_method_27_code 143 = .ok (.iload_n 1, 1) := by decide +kernel
theorem dRun_takeWay_144 : decode prog_9_method_27_code 144 = .ok (.dup2, 1) := by decide +kernel
theorem dRun_takeWay_145 : decode prog_9_method_27_code 145 = .ok (.laload, 1) := by decide +kernel
theorem dRun_takeWay_146 : decode prog_9_method_27_code 146 = .ok (.aload_n 0, 1) := by decide +kernel
theorem dRun_takeWay_147 : decode prog_9_method_27_code 147 = .ok (.getfield 21, 3) := by decide +kernel
theorem dRun_takeWay_150 : decode prog_9_method_27_code 150 = .ok (.getfield 437, 3) := by decide +kernel
theorem dRun_takeWay_153 : decode prog_9_method_27_code 153 = .ok (.i2l, 1) := by decide +kernel
theorem dRun_takeWay_154 : decode prog_9_method_27_code 154 = .ok (.lsub, 1) := by decide +kernel
theorem dRun_takeWay_155 : decode prog_9_method_27_code 155 = .ok (.lastore, 1) := by decide +kernel
theorem dRun_takeWay_156 : decode prog_9_method_27_code 156 = .ok (.aload_n 0, 1) := by decide +kernel
theorem dRun_takeWay_157 : decode prog_9_method_27_code 157 = .ok (.getfield 78, 3) := by decide +kernel
theorem dRun_takeWay_160 : decode prog_9_method_27_code 160 = .ok (.iload_n 1, 1) := by decide +kernel
theorem dRun_takeWay_161 : decode prog_9_method_27_code 161 = .ok (.iconst 3, 1) := by decide +kernel
theorem dRun_takeWay_162 : decode prog_9_method_27_code 162 = .ok (.imul, 1) := by decide +kernel
theorem dRun_takeWay_163 : decode prog_9_method_27_code 163 = .ok (.aload_n 0, 1) := by decide +kernel
theorem dRun_takeWay_164 : decode prog_9_method_27_code 164 = .ok (.getfield 63, 3) := by decide +kernel
theorem dRun_takeWay_167 : decode prog_9_method_27_code 167 = .ok (.getfield 429, 3) := by decide +kernel
theorem dRun_takeWay_170 : decode prog_9_method_27_code 170 = .ok (.iadd, 1) := by decide +kernel
theorem dRun_takeWay_171 : decode prog_9_method_27_code 171 = .ok (.aload_n 0, 1) := by decide +kernel
theorem dRun_takeWay_172 : decode prog_9_method_27_code 172 = .ok (.getfield 98, 3) := by decide +kernel
theorem dRun_takeWay_175 : decode prog_9_method_27_code 175 = .ok (.iastore, 1) := by decide +kernel
theorem dRun_takeWay_176 : decode prog_9_method_27_code 176 = .ok (.goto 87, 3) := by decide +kernel
theorem dRun_takeWay_179 : decode prog_9_method_27_code 179 = .ok (.aload_n 0, 1) := by decide +kernel
theorem dRun_takeWay_180 : decode prog_9_method_27_code 180 = .ok (.getfield 63, 3) := by decide +kernel
theorem dRun_takeWay_183 : decode prog_9_method_27_code 183 = .ok (.getfield 432, 3) := by decide +kernel
theorem dRun_takeWay_186 : decode prog_9_method_27_code 186 = .ok (.i2l, 1) := by decide +kernel
theorem dRun_takeWay_187 : decode prog_9_method_27_code 187 = .ok (.aload_n 0, 1) := by decide +kernel
theorem dRun_takeWay_188 : decode prog_9_method_27_code 188 = .ok (.getfield 71, 3) := by decide +kernel
theorem dRun_takeWay_191 : decode prog_9_method_27_code 191 = .ok (.iconst 2, 1) := by decide +kernel
theorem dRun_takeWay_192 : decode prog_9_method_27_code 192 = .ok (.iaload, 1) := by decide +kernel
theorem dRun_takeWay_193 : decode prog_9_method_27_code 193 = .ok (.i2l, 1) := by decide +kernel
theorem dRun_takeWay_194 : decode prog_9_method_27_code 194 = .ok (.lmul, 1) := by decide +kernel
theorem dRun_takeWay_195 : decode prog_9_method_27_code 195 = .ok (.lstore_n 2, 1) := by decide +kernel
theorem dRun_takeWay_196 : decode prog_9_method_27_code 196 = .ok (.aload_n 0, 1) := by decide +kernel
theorem dRun_takeWay_197 : decode prog_9_method_27_code 197 = .ok (.getfield 74, 3) := by decide +kernel
theorem dRun_takeWay_200 : decode prog_9_method_27_code 200 = .ok (.iload_n 1, 1) := by decide +kernel
theorem dRun_takeWay_201 : decode prog_9_method_27_code 201 = .ok (.dup2, 1) := by decide +kernel
theorem dRun_takeWay_202 : decode prog_9_method_27_code 202 = .ok (.laload, 1) := by decide +kernel
theorem dRun_takeWay_203 : decode prog_9_method_27_code 203 = .ok (.lload_n 2, 1) := by decide +kernel
theorem dRun_takeWay_204 : decode prog_9_method_27_code 204 = .ok (.lsub, 1) := by decide +kernel
theorem dRun_takeWay_205 : decode prog_9_method_27_code 205 = .ok (.lastore, 1) := by decide +kernel
theorem dRun_takeWay_206 : decode prog_9_method_27_code 206 = .ok (.aload_n 0, 1) := by decide +kernel
theorem dRun_takeWay_207 : decode prog_9_method_27_code 207 = .ok (.getfield 87, 3) := by decide +kernel
theorem dRun_takeWay_210 : decode prog_9_method_27_code 210 = .ok (.iconst 2, 1) := by decide +kernel
theorem dRun_takeWay_211 : decode prog_9_method_27_code 211 = .ok (.dup2, 1) := by decide +kernel
theorem dRun_takeWay_212 : decode prog_9_method_27_code 212 = .ok (.laload, 1) := by decide +kernel
theorem dRun_takeWay_213 : decode prog_9_method_27_code 213 = .ok (.lload_n 2, 1) := by decide +kernel
theorem dRun_takeWay_214 : decode prog_9_method_27_code 214 = .ok (.ladd, 1) := by decide +kernel
theorem dRun_takeWay_215 : decode prog_9_method_27_code 215 = .ok (.lastore, 1) := by decide +kernel
theorem dRun_takeWay_216 : decode prog_9_method_27_code 216 = .ok (.aload_n 0, 1) := by decide +kernel
theorem dRun_takeWay_217 : decode prog_9_method_27_code 217 = .ok (.dup, 1) := by decide +kernel
theorem dRun_takeWay_218 : decode prog_9_method_27_code 218 = .ok (.getfield 101, 3) := by decide +kernel
theorem dRun_takeWay_221 : decode prog_9_method_27_code 221 = .ok (.aload_n 0, 1) := by decide +kernel
theorem dRun_takeWay_222 : decode prog_9_method_27_code 222 = .ok (.getfield 63, 3) := by decide +kernel
theorem dRun_takeWay_225 : decode prog_9_method_27_code 225 = .ok (.getfield 432, 3) := by decide +kernel
theorem dRun_takeWay_228 : decode prog_9_method_27_code 228 = .ok (.isub, 1) := by decide +kernel
theorem dRun_takeWay_229 : decode prog_9_method_27_code 229 = .ok (.putfield 101, 3) := by decide +kernel
theorem dRun_takeWay_232 : decode prog_9_method_27_code 232 = .ok (.aload_n 0, 1) := by decide +kernel
theorem dRun_takeWay_233 : decode prog_9_method_27_code 233 = .ok (.getfield 42, 3) := by decide +kernel
theorem dRun_takeWay_236 : decode prog_9_method_27_code 236 = .ok (.iload_n 1, 1) := by decide +kernel
theorem dRun_takeWay_237 : decode prog_9_method_27_code 237 = .ok (.aload_n 0, 1) := by decide +kernel
theorem dRun_takeWay_238 : decode prog_9_method_27_code 238 = .ok (.getfield 63, 3) := by decide +kernel
theorem dRun_takeWay_241 : decode prog_9_method_27_code 241 = .ok (.getfield 434, 3) := by decide +kernel
theorem dRun_takeWay_244 : decode prog_9_method_27_code 244 = .ok (.aload_n 0, 1) := by decide +kernel
theorem dRun_takeWay_245 : decode prog_9_method_27_code 245 = .ok (.getfield 63, 3) := by decide +kernel
theorem dRun_takeWay_248 : decode prog_9_method_27_code 248 = .ok (.getfield 432, 3) := by decide +kernel
theorem dRun_takeWay_251 : decode prog_9_method_27_code 251 = .ok (.aload_n 0, 1) := by decide +kernel
theorem dRun_takeWay_252 : decode prog_9_method_27_code 252 = .ok (.getfield 98, 3) := by decide +kernel
theorem dRun_takeWay_255 : decode prog_9_method_27_code 255 = .ok (.iconst 0, 1) := by decide +kernel
theorem dRun_takeWay_256 : decode prog_9_method_27_code 256 = .ok (.iconst 1, 1) := by decide +kernel
theorem dRun_takeWay_257 : decode prog_9_method_27_code 257 = .ok (.invokevirtual 303, 3) := by decide +kernel
theorem dRun_takeWay_260 : decode prog_9_method_27_code 260 = .ok (.goto 3, 3) := by decide +kernel
theorem dRun_takeWay_263 : decode prog_9_method_27_code 263 = .ok (.return_, 1) := by decide +kernel
theorem dRun_carryGrain_0 : decode prog_9_method_28_code 0 = .ok (.aload_n 0, 1) := by decide +kernel
theorem dRun_carryGrain_1 : decode prog_9_method_28_code 1 = .ok (.getfield 12, 3) := by decide +kernel
theorem dRun_carryGrain_4 : decode prog_9_method_28_code 4 = .ok (.aload_n 0, 1) := by decide +kernel
theorem dRun_carryGrain_5 : decode prog_9_method_28_code 5 = .ok (.getfield 12, 3) := by decide +kernel
theorem dRun_carryGrain_8 : decode prog_9_method_28_code 8 = .ok (.getfield 358, 3) := by decide +kernel
theorem dRun_carryGrain_11 : decode prog_9_method_28_code 11 = .ok (.aload_n 0, 1) := by decide +kernel
theorem dRun_carryGrain_12 : decode prog_9_method_28_code 12 = .ok (.getfield 63, 3) := by decide +kernel
theorem dRun_carryGrain_15 : decode prog_9_method_28_code 15 = .ok (.getfield 440, 3) := by decide +kernel
theorem dRun_carryGrain_18 : decode prog_9_method_28_code 18 = .ok (.iaload, 1) := by decide +kernel
theorem dRun_carryGrain_19 : decode prog_9_method_28_code 19 = .ok (.aload_n 0, 1) := by decide +kernel
theorem dRun_carryGrain_20 : decode prog_9_method_28_code 20 = .ok (.getfield 12, 3) := by decide +kernel
theorem dRun_carryGrain_23 : decode prog_9_method_28_code 23 = .ok (.getfield 443, 3) := by decide +kernel
theorem dRun_carryGrain_26 : decode prog_9_method_28_code 26 = .ok (.aload_n 0, 1) := by decide +kernel
theorem dRun_carryGrain_27 : decode prog_9_method_28_code 27 = .ok (.getfield 63, 3) := by decide +kernel
theorem dRun_carryGrain_30 : decode prog_9_method_28_code 30 = .ok (.getfield 429, 3) := by decide +kernel
theorem dRun_carryGrain_33 : decode prog_9_method_28_code 33 = .ok (.iaload, 1) := by decide +kernel
theorem dRun_carryGrain_34 : decode prog_9_method_28_code 34 = .ok (.invokevirtual 361, 3) := by decide +kernel
theorem dRun_carryGrain_37 : decode prog_9_method_28_code 37 = .ok (.istore_n 2, 1) := by decide +kernel
theorem dRun_carryGrain_38 : decode prog_9_method_28_code 38 = .ok (.aload_n 0, 1) := by decide +kernel
theorem dRun_carryGrain_39 : decode prog_9_method_28_code 39 = .ok (.getfield 74, 3) := by decide +kernel
theorem dRun_carryGrain_42 : decode prog_9_method_28_code 42 = .ok (.iload_n 1, 1) := by decide +kernel
theorem dRun_carryGrain_43 : decode prog_9_method_28_code 43 = .ok (.dup2, 1) := by decide +kernel
theorem dRun_carryGrain_44 : decode prog_9_method_28_code 44 = .ok (.laload, 1) := by decide +kernel
theorem dRun_carryGrain_45 : decode prog_9_method_28_code 45 = .ok (.aload_n 0, 1) := by decide +kernel
theorem dRun_carryGrain_46 : decode prog_9_method_28_code 46 = .ok (.getfield 63, 3) := by decide +kernel
theorem dRun_carryGrain_49 : decode prog_9_method_28_code 49 = .ok (.getfield 423, 3) := by decide +kernel
theorem dRun_carryGrain_52 : decode prog_9_method_28_code 52 = .ok (.i2l, 1) := by decide +kernel
theorem dRun_carryGrain_53 : decode prog_9_method_28_code 53 = .ok (.aload_n 0, 1) := by decide +kernel
theorem dRun_carryGrain_54 : decode prog_9_method_28_code 54 = .ok (.aload_n 0, 1) := by decide +kernel
theorem dRun_carryGrain_55 : decode prog_9_method_28_code 55 = .ok (.getfield 63, 3) := by decide +kernel
theorem dRun_carryGrain_58 : decode prog_9_method_28_code 58 = .ok (.getfield 440, 3) := by decide +kernel
theorem dRun_carryGrain_61 : decode prog_9_method_28_code 61 = .ok (.iload_n 2, 1) := by decide +kernel
theorem dRun_carryGrain_62 : decode prog_9_method_28_code 62 = .ok (.invokevirtual 446, 3) := by decide +kernel
theorem dRun_carryGrain_65 : decode prog_9_method_28_code 65 = .ok (.i2l, 1) := by decide +kernel
theorem dRun_carryGrain_66 : decode prog_9_method_28_code 66 = .ok (.lmul, 1) := by decide +kernel
theorem dRun_carryGrain_67 : decode prog_9_method_28_code 67 = .ok (.lsub, 1) := by decide +kernel
theorem dRun_carryGrain_68 : decode prog_9_method_28_code 68 = .ok (.lastore, 1) := by decide +kernel
theorem dRun_carryGrain_69 : decode prog_9_method_28_code 69 = .ok (.aload_n 0, 1) := by decide +kernel
theorem dRun_carryGrain_70 : decode prog_9_method_28_code 70 = .ok (.getfield 35, 3) := by decide +kernel
theorem dRun_carryGrain_73 : decode prog_9_method_28_code 73 = .ok (.getfield 449, 3) := by decide +kernel
theorem dRun_carryGrain_76 : decode prog_9_method_28_code 76 = .ok (.aload_n 0, 1) := by decide +kernel
theorem dRun_carryGrain_77 : decode prog_9_method_28_code 77 = .ok (.getfield 63, 3) := by decide +kernel
theorem dRun_carryGrain_80 : decode prog_9_method_28_code 80 = .ok (.getfield 440, 3) := by decide +kernel
theorem dRun_carryGrain_83 : decode prog_9_method_28_code 83 = .ok (.dup2, 1) := by decide +kernel
theorem dRun_carryGrain_84 : decode prog_9_method_28_code 84 = .ok (.iaload, 1) := by decide +kernel
theorem dRun_carryGrain_85 : decode prog_9_method_28_code 85 = .ok (.aload_n 0, 1) := by decide +kernel
theorem dRun_carryGrain_86 : decode prog_9_method_28_code 86 = .ok (.getfield 63, 3) := by decide +kernel
theorem dRun_carryGrain_89 : decode prog_9_method_28_code 89 = .ok (.getfield 423, 3) := by decide +kernel
theorem dRun_carryGrain_92 : decode prog_9_method_28_code 92 = .ok (.bipush 10, 2) := by decide +kernel
theorem dRun_carryGrain_94 : decode prog_9_method_28_code 94 = .ok (.imul, 1) := by decide +kernel
theorem dRun_carryGrain_95 : decode prog_9_method_28_code 95 = .ok (.isub, 1) := by decide +kernel
theorem dRun_carryGrain_96 : decode prog_9_method_28_code 96 = .ok (.iastore, 1) := by decide +kernel
theorem dRun_carryGrain_97 : decode prog_9_method_28_code 97 = .ok (.aload_n 0, 1) := by decide +kernel
theorem dRun_carryGrain_98 : decode prog_9_method_28_code 98 = .ok (.getfield 49, 3) := by decide +kernel
theorem dRun_carryGrain_101 : decode prog_9_method_28_code 101 = .ok (.iload_n 1, 1) := by decide +kernel
theorem dRun_carryGrain_102 : decode prog_9_method_28_code 102 = .ok (.aload_n 0, 1) := by decide +kernel
theorem dRun_carryGrain_103 : decode prog_9_method_28_code 103 = .ok (.getfield 63, 3) := by decide +kernel
theorem dRun_carryGrain_106 : decode prog_9_method_28_code 106 = .ok (.aload_n 0, 1) := by decide +kernel
theorem dRun_carryGrain_107 : decode prog_9_method_28_code 107 = .ok (.getfield 98, 3) := by decide +kernel
theorem dRun_carryGrain_110 : decode prog_9_method_28_code 110 = .ok (.iload_n 2, 1) := by decide +kernel
theorem dRun_carryGrain_111 : decode prog_9_method_28_code 111 = .ok (.invokevirtual 452, 3) := by decide +kernel
theorem dRun_carryGrain_114 : decode prog_9_method_28_code 114 = .ok (.return_, 1) := by decide +kernel
theorem dRun_smuggleAll_0 : decode prog_9_method_29_code 0 = .ok (.aload_n 0, 1) := by decide +kernel
theorem dRun_smuggleAll_1 : decode prog_9_method_29_code 1 = .ok (.getfield 35, 3) := by decide +kernel
theorem dRun_smuggleAll_4 : decode prog_9_method_29_code 4 = .ok (.getfield 456, 3) := by decide +kernel
theorem dRun_smuggleAll_7 : decode prog_9_method_29_code 7 = .ok (.iconst 0, 1) := by decide +kernel
theorem dRun_smuggleAll_8 : decode prog_9_method_29_code 8 = .ok (.invokestatic 171, 3) := by decide +kernel
theorem dRun_smuggleAll_11 : decode prog_9_method_29_code 11 = .ok (.iconst 0, 1) := by decide +kernel
theorem dRun_smuggleAll_12 : decode prog_9_method_29_code 12 = .ok (.istore_n 1, 1) := by decide +kernel
theorem dRun_smuggleAll_13 : decode prog_9_method_29_code 13 = .ok (.iload_n 1, 1) := by decide +kernel
theorem dRun_smuggleAll_14 : decode prog_9_method_29_code 14 = .ok (.aload_n 0, 1) := by decide +kernel
theorem dRun_smuggleAll_15 : decode prog_9_method_29_code 15 = .ok (.getfield 12, 3) := by decide +kernel
theorem dRun_smuggleAll_18 : decode prog_9_method_29_code 18 = .ok (.getfield 374, 3) := by decide +kernel
theorem dRun_smuggleAll_21 : decode prog_9_method_29_code 21 = .ok (.if_icmp .ge 57, 3) := by decide +kernel
theorem dRun_smuggleAll_24 : decode prog_9_method_29_code 24 = .ok (.iload_n 1, 1) := by decide +kernel
theorem dRun_smuggleAll_25 : decode prog_9_method_29_code 25 = .ok (.iconst 1, 1) := by decide +kernel
theorem dRun_smuggleAll_26 : decode prog_9_method_29_code 26 = .ok (.iadd, 1) := by decide +kernel
theorem dRun_smuggleAll_27 : decode prog_9_method_29_code 27 = .ok (.istore_n 2, 1) := by decide +kernel
theorem dRun_smuggleAll_28 : decode prog_9_method_29_code 28 = .ok (.iload_n 2, 1) := by decide +kernel
theorem dRun_smuggleAll_29 : decode prog_9_method_29_code 29 = .ok (.aload_n 0, 1) := by decide +kernel
theorem dRun_smuggleAll_30 : decode prog_9_method_29_code 30 = .ok (.getfield 12, 3) := by decide +kernel
theorem dRun_smuggleAll_33 : decode prog_9_method_29_code 33 = .ok (.getfield 374, 3) := by decide +kernel
theorem dRun_smuggleAll_36 : decode prog_9_method_29_code 36 = .ok (.if_icmp .ge 36, 3) := by decide +kernel
theorem dRun_smuggleAll_39 : decode prog_9_method_29_code 39 = .ok (.aload_n 0, 1) := by decide +kernel
theorem dRun_smuggleAll_40 : decode prog_9_method_29_code 40 = .ok (.getfield 12, 3) := by decide +kernel
theorem dRun_smuggleAll_43 : decode prog_9_method_29_code 43 = .ok (.getfield 377, 3) := by decide +kernel
theorem dRun_smuggleAll_46 : decode prog_9_method_29_code 46 = .ok (.iload_n 1, 1) := by decide +kernel
theorem dRun_smuggleAll_47 : decode prog_9_method_29_code 47 = .ok (.iaload, 1) := by decide +kernel
theorem dRun_smuggleAll_48 : decode prog_9_method_29_code 48 = .ok (.aload_n 0, 1) := by decide +kernel
theorem dRun_smuggleAll_49 : decode prog_9_method_29_code 49 = .ok (.getfield 12, 3) := by decide +kernel
theorem dRun_smuggleAll_52 : decode prog_9_method_29_code 52 = .ok (.getfield 377, 3) := by decide +kernel
theorem dRun_smuggleAll_55 : decode prog_9_method_29_code 55 = .ok (.iload_n 2, 1) := by decide +kernel
theorem dRun_smuggleAll_56 : decode prog_9_method_29_code 56 = .ok (.iaload, 1) := by decide +kernel
theorem dRun_smuggleAll_57 : decode prog_9_method_29_code 57 = .ok (.if_icmp .eq 9, 3) := by decide +kernel
theorem dRun_smuggleAll_60 : decode prog_9_method_29_code 60 = .ok (.aload_n 0, 1) := by decide +kernel
theorem dRun_smuggleAll_61 : decode prog_9_method_29_code 61 = .ok (.iload_n 1, 1) := by decide +kernel
theorem dRun_smuggleAll_62 : decode prog_9_method_29_code 62 = .ok (.iload_n 2, 1) := by decide +kernel
theorem dRun_smuggleAll_63 : decode prog_9_method_29_code 63 = .ok (.invokevirtual 459, 3) := by decide +kernel
theorem dRun_smuggleAll_66 : decode prog_9_method_29_code 66 = .ok (.iinc 2 1, 3) := by decide +kernel
theorem dRun_smuggleAll_69 : decode prog_9_method_29_code 69 = .ok (.goto (-41), 3) := by decide +kernel
theorem dRun_smuggleAll_72 : decode prog_9_method_29_code 72 = .ok (.iinc 1 1, 3) := by decide +kernel
theorem dRun_smuggleAll_75 : decode prog_9_method_29_code 75 = .ok (.goto (-62), 3) := by decide +kernel
theorem dRun_smuggleAll_78 : decode prog_9_method_29_code 78 = .ok (.return_, 1) := by decide +kernel
theorem dRun_smuggleBetween_0 : decode prog_9_method_30_code 0 = .ok (.aload_n 0, 1) := by decide +kernel
theorem dRun_smuggleBetween_1 : decode prog_9_method_30_code 1 = .ok (.getfield 35, 3) := by decide +kernel
theorem dRun_smuggleBetween_4 : decode prog_9_method_30_code 4 = .ok (.aload_n 0, 1) := by decide +kernel
theorem dRun_smuggleBetween_5 : decode prog_9_method_30_code 5 = .ok (.getfield 12, 3) := by decide +kernel
theorem dRun_smuggleBetween_8 : decode prog_9_method_30_code 8 = .ok (.iload_n 1, 1) := by decide +kernel
theorem dRun_smuggleBetween_9 : decode prog_9_method_30_code 9 = .ok (.invokevirtual 307, 3) := by decide +kernel
theorem dRun_smuggleBetween_12 : decode prog_9_method_30_code 12 = .ok (.istore_n 3, 1) := by decide +kernel
theorem dRun_smuggleBetween_13 : decode prog_9_method_30_code 13 = .ok (.aload_n 0, 1) := by decide +kernel
theorem dRun_smuggleBetween_14 : decode prog_9_method_30_code 14 = .ok (.getfield 35, 3) := by decide +kernel
theorem dRun_smuggleBetween_17 : decode prog_9_method_30_code 17 = .ok (.aload_n 0, 1) := by decide +kernel
theorem dRun_smuggleBetween_18 : decode prog_9_method_30_code 18 = .ok (.getfield 12, 3) := by decide +kernel
theorem dRun_smuggleBetween_21 : decode prog_9_method_30_code 21 = .ok (.iload_n 2, 1) := by decide +kernel
theorem dRun_smuggleBetween_22 : decode prog_9_method_30_code 22 = .ok (.invokevirtual 307, 3) := by decide +kernel
theorem dRun_smuggleBetween_25 : decode prog_9_method_30_code 25 = .ok (.istore 4, 2) := by decide +kernel
theorem dRun_smuggleBetween_27 : decode prog_9_method_30_code 27 = .ok (.aload_n 0, 1) := by decide +kernel
theorem dRun_smuggleBetween_28 : decode prog_9_method_30_code 28 = .ok (.getfield 12, 3) := by decide +kernel
theorem dRun_smuggleBetween_31 : decode prog_9_method_30_code 31 = .ok (.aload_n 0, 1) := by decide +kernel
theorem dRun_smuggleBetween_32 : decode prog_9_method_30_code 32 = .ok (.getfield 12, 3) := by decide +kernel
theorem dRun_smuggleBetween_35 : decode prog_9_method_30_code 35 = .ok (.getfield 358, 3) := by decide +kernel
theorem dRun_smuggleBetween_38 : decode prog_9_method_30_code 38 = .ok (.iload_n 1, 1) := by decide +kernel
theorem dRun_smuggleBetween_39 : decode prog_9_method_30_code 39 = .ok (.iaload, 1) := by decide +kernel
theorem dRun_smuggleBetween_40 : decode prog_9_method_30_code 40 = .ok (.aload_n 0, 1) := by decide +kernel
theorem dRun_smuggleBetween_41 : decode prog_9_method_30_code 41 = .ok (.getfield 12, 3) := by decide +kernel
theorem dRun_smuggleBetween_44 : decode prog_9_method_30_code 44 = .ok (.getfield 358, 3) := by decide +kernel
theorem dRun_smuggleBetween_47 : decode prog_9_method_30_code 47 = .ok (.iload_n 2, 1) := by decide +kernel
theorem dRun_smuggleBetween_48 : decode prog_9_method_30_code 48 = .ok (.iaload, 1) := by decide +kernel
theorem dRun_smuggleBetween_49 : decode prog_9_method_30_code 49 = .ok (.invokevirtual 361, 3) := by decide +kernel
theorem dRun_smuggleBetween_52 : decode prog_9_method_30_code 52 = .ok (.istore 5, 2) := by decide +kernel
theorem dRun_smuggleBetween_54 : decode prog_9_method_30_code 54 = .ok (.iload 5, 2) := by decide +kernel
theorem dRun_smuggleBetween_56 : decode prog_9_method_30_code 56 = .ok (.iconst (-1), 1) := by decide +kernel
theorem dRun_smuggleBetween_57 : decode prog_9_method_30_code 57 = .ok (.if_icmp .eq 15, 3) := by decide +kernel
theorem dRun_smuggleBetween_60 : decode prog_9_method_30_code 60 = .ok (.iload_n 3, 1) := by decide +kernel
theorem dRun_smuggleBetween_61 : decode prog_9_method_30_code 61 = .ok (.iload 4, 2) := by decide +kernel
theorem dRun_smuggleBetween_63 : decode prog_9_method_30_code 63 = .ok (.isub, 1) := by decide +kernel
theorem dRun_smuggleBetween_64 : decode prog_9_method_30_code 64 = .ok (.invokestatic 462, 3) := by decide +kernel
theorem dRun_smuggleBetween_67 : decode prog_9_method_30_code 67 = .ok (.iload 5, 2) := by decide +kernel
theorem dRun_smuggleBetween_69 : decode prog_9_method_30_code 69 = .ok (.if_icmp .gt 4, 3) := by decide +kernel
theorem dRun_smuggleBetween_72 : decode prog_9_method_30_code 72 = .ok (.return_, 1) := by decide +kernel
theorem dRun_smuggleBetween_73 : decode prog_9_method_30_code 73 = .ok (.iload_n 3, 1) := by decide +kernel
theorem dRun_smuggleBetween_74 : decode prog_9_method_30_code 74 = .ok (.iload 4, 2) := by decide +kernel
theorem dRun_smuggleBetween_76 : decode prog_9_method_30_code 76 = .ok (.if_icmp .ge 7, 3) := by decide +kernel
theorem dRun_smuggleBetween_79 : decode prog_9_method_30_code 79 = .ok (.iload_n 1, 1) := by decide +kernel
theorem dRun_smuggleBetween_80 : decode prog_9_method_30_code 80 = .ok (.goto 4, 3) := by decide +kernel
theorem dRun_smuggleBetween_83 : decode prog_9_method_30_code 83 = .ok (.iload_n 2, 1) := by decide +kernel
theorem dRun_smuggleBetween_84 : decode prog_9_method_30_code 84 = .ok (.istore 6, 2) := by decide +kernel
theorem dRun_smuggleBetween_86 : decode prog_9_method_30_code 86 = .ok (.iload_n 3, 1) := by decide +kernel
theorem dRun_smuggleBetween_87 : decode prog_9_method_30_code 87 = .ok (.iload 4, 2) := by decide +kernel
theorem dRun_smuggleBetween_89 : decode prog_9_method_30_code 89 = .ok (.if_icmp .ge 7, 3) := by decide +kernel
theorem dRun_smuggleBetween_92 : decode prog_9_method_30_code 92 = .ok (.iload_n 2, 1) := by decide +kernel
theorem dRun_smuggleBetween_93 : decode prog_9_method_30_code 93 = .ok (.goto 4, 3) := by decide +kernel
theorem dRun_smuggleBetween_96 : decode prog_9_method_30_code 96 = .ok (.iload_n 1, 1) := by decide +kernel
theorem dRun_smuggleBetween_97 : decode prog_9_method_30_code 97 = .ok (.istore 7, 2) := by decide +kernel
theorem dRun_smuggleBetween_99 : decode prog_9_method_30_code 99 = .ok (.aload_n 0, 1) := by decide +kernel
theorem dRun_smuggleBetween_100 : decode prog_9_method_30_code 100 = .ok (.getfield 35, 3) := by decide +kernel
theorem dRun_smuggleBetween_103 : decode prog_9_method_30_code 103 = .ok (.getfield 311, 3) := by decide +kernel
theorem dRun_smuggleBetween_106 : decode prog_9_method_30_code 106 = .ok (.iload 6, 2) := by decide +kernel
theorem dRun_smuggleBetween_108 : decode prog_9_method_30_code 108 = .ok (.iaload, 1) := by decide +kernel
theorem dRun_smuggleBetween_109 : decode prog_9_method_30_code 109 = .ok (.bipush 10, 2) := by decide +kernel
theorem dRun_smuggleBetween_111 : decode prog_9_method_30_code 111 = .ok (.idiv, 1) := by decide +kernel
theorem dRun_smuggleBetween_112 : decode prog_9_method_30_code 112 = .ok (.aload_n 0, 1) := by decide +kernel
theorem dRun_smuggleBetween_113 : decode prog_9_method_30_code 113 = .ok (.getfield 12, 3) := by decide +kernel
theorem dRun_smuggleBetween_116 : decode prog_9_method_30_code 116 = .ok (.getfield 465, 3) := by decide +kernel
theorem dRun_smuggleBetween_119 : decode prog_9_method_30_code 119 = .ok (.iload 7, 2) := by decide +kernel
theorem dRun_smuggleBetween_121 : decode prog_9_method_30_code 121 = .ok (.iaload, 1) := by decide +kernel
theorem dRun_smuggleBetween_122 : decode prog_9_method_30_code 122 = .ok (.invokestatic 245, 3) := by decide +kernel
theorem dRun_smuggleBetween_125 : decode prog_9_method_30_code 125 = .ok (.istore 8, 2) := by decide +kernel
theorem dRun_smuggleBetween_127 : decode prog_9_method_30_code 127 = .ok (.iload 8, 2) := by decide +kernel
theorem dRun_smuggleBetween_129 : decode prog_9_method_30_code 129 = .ok (.aload_n 0, 1) := by decide +kernel
