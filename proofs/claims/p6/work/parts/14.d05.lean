/-! Decode rows: by program. -/
theorem dModel_classes_15 : decode prog_14_method_81_code 15 = .ok (.ifCond .ne 6, 3) := by decide +kernel
theorem dModel_classes_18 : decode prog_14_method_81_code 18 = .ok (.goto 98, 3) := by decide +kernel
theorem dModel_classes_21 : decode prog_14_method_81_code 21 = .ok (.aload_n 0, 1) := by decide +kernel
theorem dModel_classes_22 : decode prog_14_method_81_code 22 = .ok (.aload_n 0, 1) := by decide +kernel
theorem dModel_classes_23 : decode prog_14_method_81_code 23 = .ok (.getfield 348, 3) := by decide +kernel
theorem dModel_classes_26 : decode prog_14_method_81_code 26 = .ok (.aload_n 0, 1) := by decide +kernel
theorem dModel_classes_27 : decode prog_14_method_81_code 27 = .ok (.getfield 528, 3) := by decide +kernel
theorem dModel_classes_30 : decode prog_14_method_81_code 30 = .ok (.iload_n 1, 1) := by decide +kernel
theorem dModel_classes_31 : decode prog_14_method_81_code 31 = .ok (.iaload, 1) := by decide +kernel
theorem dModel_classes_32 : decode prog_14_method_81_code 32 = .ok (.isub, 1) := by decide +kernel
theorem dModel_classes_33 : decode prog_14_method_81_code 33 = .ok (.putfield 366, 3) := by decide +kernel
theorem dModel_classes_36 : decode prog_14_method_81_code 36 = .ok (.aload_n 0, 1) := by decide +kernel
theorem dModel_classes_37 : decode prog_14_method_81_code 37 = .ok (.aload_n 0, 1) := by decide +kernel
theorem dModel_classes_38 : decode prog_14_method_81_code 38 = .ok (.getfield 463, 3) := by decide +kernel
theorem dModel_classes_41 : decode prog_14_method_81_code 41 = .ok (.iload_n 1, 1) := by decide +kernel
theorem dModel_classes_42 : decode prog_14_method_81_code 42 = .ok (.iaload, 1) := by decide +kernel
theorem dModel_classes_43 : decode prog_14_method_81_code 43 = .ok (.putfield 369, 3) := by decide +kernel
theorem dModel_classes_46 : decode prog_14_method_81_code 46 = .ok (.aload_n 0, 1) := by decide +kernel
theorem dModel_classes_47 : decode prog_14_method_81_code 47 = .ok (.aload_n 0, 1) := by decide +kernel
theorem dModel_classes_48 : decode prog_14_method_81_code 48 = .ok (.getfield 534, 3) := by decide +kernel
theorem dModel_classes_51 : decode prog_14_method_81_code 51 = .ok (.iload_n 1, 1) := by decide +kernel
theorem dModel_classes_52 : decode prog_14_method_81_code 52 = .ok (.baload, 1) := by decide +kernel
theorem dModel_classes_53 : decode prog_14_method_81_code 53 = .ok (.ifCond .eq 7, 3) := by decide +kernel
theorem dModel_classes_56 : decode prog_14_method_81_code 56 = .ok (.iconst 1, 1) := by decide +kernel
theorem dModel_classes_57 : decode prog_14_method_81_code 57 = .ok (.goto 4, 3) := by decide +kernel
theorem dModel_classes_60 : decode prog_14_method_81_code 60 = .ok (.iconst 0, 1) := by decide +kernel
theorem dModel_classes_61 : decode prog_14_method_81_code 61 = .ok (.putfield 372, 3) := by decide +kernel
theorem dModel_classes_64 : decode prog_14_method_81_code 64 = .ok (.aload_n 0, 1) := by decide +kernel
theorem dModel_classes_65 : decode prog_14_method_81_code 65 = .ok (.aload_n 0, 1) := by decide +kernel
theorem dModel_classes_66 : decode prog_14_method_81_code 66 = .ok (.getfield 531, 3) := by decide +kernel
theorem dModel_classes_69 : decode prog_14_method_81_code 69 = .ok (.iload_n 1, 1) := by decide +kernel
theorem dModel_classes_70 : decode prog_14_method_81_code 70 = .ok (.iaload, 1) := by decide +kernel
theorem dModel_classes_71 : decode prog_14_method_81_code 71 = .ok (.putfield 363, 3) := by decide +kernel
theorem dModel_classes_74 : decode prog_14_method_81_code 74 = .ok (.iconst 0, 1) := by decide +kernel
theorem dModel_classes_75 : decode prog_14_method_81_code 75 = .ok (.istore_n 2, 1) := by decide +kernel
theorem dModel_classes_76 : decode prog_14_method_81_code 76 = .ok (.iload_n 2, 1) := by decide +kernel
theorem dModel_classes_77 : decode prog_14_method_81_code 77 = .ok (.aload_n 0, 1) := by decide +kernel
theorem dModel_classes_78 : decode prog_14_method_81_code 78 = .ok (.getfield 279, 3) := by decide +kernel
theorem dModel_classes_81 : decode prog_14_method_81_code 81 = .ok (.aload_n 0, 1) := by decide +kernel
theorem dModel_classes_82 : decode prog_14_method_81_code 82 = .ok (.getfield 516, 3) := by decide +kernel
theorem dModel_classes_85 : decode prog_14_method_81_code 85 = .ok (.iaload, 1) := by decide +kernel
theorem dModel_classes_86 : decode prog_14_method_81_code 86 = .ok (.if_icmp .ge 23, 3) := by decide +kernel
theorem dModel_classes_89 : decode prog_14_method_81_code 89 = .ok (.aload_n 0, 1) := by decide +kernel
theorem dModel_classes_90 : decode prog_14_method_81_code 90 = .ok (.aload_n 0, 1) := by decide +kernel
theorem dModel_classes_91 : decode prog_14_method_81_code 91 = .ok (.getfield 516, 3) := by decide +kernel
theorem dModel_classes_94 : decode prog_14_method_81_code 94 = .ok (.iconst 5, 1) := by decide +kernel
theorem dModel_classes_95 : decode prog_14_method_81_code 95 = .ok (.iload_n 2, 1) := by decide +kernel
theorem dModel_classes_96 : decode prog_14_method_81_code 96 = .ok (.iadd, 1) := by decide +kernel
theorem dModel_classes_97 : decode prog_14_method_81_code 97 = .ok (.invokevirtual 384, 3) := by decide +kernel
theorem dModel_classes_100 : decode prog_14_method_81_code 100 = .ok (.ifCond .ne 9, 3) := by decide +kernel
theorem dModel_classes_103 : decode prog_14_method_81_code 103 = .ok (.iinc 2 1, 3) := by decide +kernel
theorem dModel_classes_106 : decode prog_14_method_81_code 106 = .ok (.goto (-30), 3) := by decide +kernel
theorem dModel_classes_109 : decode prog_14_method_81_code 109 = .ok (.aload_n 0, 1) := by decide +kernel
theorem dModel_classes_110 : decode prog_14_method_81_code 110 = .ok (.getfield 604, 3) := by decide +kernel
theorem dModel_classes_113 : decode prog_14_method_81_code 113 = .ok (.iload_n 1, 1) := by decide +kernel
theorem dModel_classes_114 : decode prog_14_method_81_code 114 = .ok (.iload_n 2, 1) := by decide +kernel
theorem dModel_classes_115 : decode prog_14_method_81_code 115 = .ok (.iastore, 1) := by decide +kernel
theorem dModel_classes_116 : decode prog_14_method_81_code 116 = .ok (.iinc 1 1, 3) := by decide +kernel
theorem dModel_classes_119 : decode prog_14_method_81_code 119 = .ok (.goto (-117), 3) := by decide +kernel
theorem dModel_classes_122 : decode prog_14_method_81_code 122 = .ok (.return_, 1) := by decide +kernel
theorem dModel_draw_0 : decode prog_14_method_82_code 0 = .ok (.aload_n 0, 1) := by decide +kernel
theorem dModel_draw_1 : decode prog_14_method_82_code 1 = .ok (.iload_n 1, 1) := by decide +kernel
theorem dModel_draw_2 : decode prog_14_method_82_code 2 = .ok (.invokevirtual 509, 3) := by decide +kernel
theorem dModel_draw_5 : decode prog_14_method_82_code 5 = .ok (.pop2, 1) := by decide +kernel
theorem dModel_draw_6 : decode prog_14_method_82_code 6 = .ok (.aload_n 0, 1) := by decide +kernel
theorem dModel_draw_7 : decode prog_14_method_82_code 7 = .ok (.getfield 480, 3) := by decide +kernel
theorem dModel_draw_10 : decode prog_14_method_82_code 10 = .ok (.istore_n 2, 1) := by decide +kernel
theorem dModel_draw_11 : decode prog_14_method_82_code 11 = .ok (.iconst 1, 1) := by decide +kernel
theorem dModel_draw_12 : decode prog_14_method_82_code 12 = .ok (.istore_n 3, 1) := by decide +kernel
theorem dModel_draw_13 : decode prog_14_method_82_code 13 = .ok (.iconst 0, 1) := by decide +kernel
theorem dModel_draw_14 : decode prog_14_method_82_code 14 = .ok (.istore 4, 2) := by decide +kernel
theorem dModel_draw_16 : decode prog_14_method_82_code 16 = .ok (.iload 4, 2) := by decide +kernel
theorem dModel_draw_18 : decode prog_14_method_82_code 18 = .ok (.iconst 5, 1) := by decide +kernel
theorem dModel_draw_19 : decode prog_14_method_82_code 19 = .ok (.if_icmp .gt 104, 3) := by decide +kernel
theorem dModel_draw_22 : decode prog_14_method_82_code 22 = .ok (.iload_n 3, 1) := by decide +kernel
theorem dModel_draw_23 : decode prog_14_method_82_code 23 = .ok (.ifCond .eq 100, 3) := by decide +kernel
theorem dModel_draw_26 : decode prog_14_method_82_code 26 = .ok (.iconst 0, 1) := by decide +kernel
theorem dModel_draw_27 : decode prog_14_method_82_code 27 = .ok (.istore 5, 2) := by decide +kernel
theorem dModel_draw_29 : decode prog_14_method_82_code 29 = .ok (.iload 5, 2) := by decide +kernel
theorem dModel_draw_31 : decode prog_14_method_82_code 31 = .ok (.aload_n 0, 1) := by decide +kernel
theorem dModel_draw_32 : decode prog_14_method_82_code 32 = .ok (.getfield 454, 3) := by decide +kernel
theorem dModel_draw_35 : decode prog_14_method_82_code 35 = .ok (.if_icmp .ge 82, 3) := by decide +kernel
theorem dModel_draw_38 : decode prog_14_method_82_code 38 = .ok (.iload_n 3, 1) := by decide +kernel
theorem dModel_draw_39 : decode prog_14_method_82_code 39 = .ok (.ifCond .eq 78, 3) := by decide +kernel
theorem dModel_draw_42 : decode prog_14_method_82_code 42 = .ok (.aload_n 0, 1) := by decide +kernel
theorem dModel_draw_43 : decode prog_14_method_82_code 43 = .ok (.getfield 457, 3) := by decide +kernel
theorem dModel_draw_46 : decode prog_14_method_82_code 46 = .ok (.iload 5, 2) := by decide +kernel
theorem dModel_draw_48 : decode prog_14_method_82_code 48 = .ok (.iaload, 1) := by decide +kernel
theorem dModel_draw_49 : decode prog_14_method_82_code 49 = .ok (.iload_n 1, 1) := by decide +kernel
theorem dModel_draw_50 : decode prog_14_method_82_code 50 = .ok (.if_icmp .ne 61, 3) := by decide +kernel
theorem dModel_draw_53 : decode prog_14_method_82_code 53 = .ok (.aload_n 0, 1) := by decide +kernel
theorem dModel_draw_54 : decode prog_14_method_82_code 54 = .ok (.iload 5, 2) := by decide +kernel
theorem dModel_draw_56 : decode prog_14_method_82_code 56 = .ok (.invokevirtual 460, 3) := by decide +kernel
theorem dModel_draw_59 : decode prog_14_method_82_code 59 = .ok (.ifCond .eq 52, 3) := by decide +kernel
theorem dModel_draw_62 : decode prog_14_method_82_code 62 = .ok (.aload_n 0, 1) := by decide +kernel
theorem dModel_draw_63 : decode prog_14_method_82_code 63 = .ok (.getfield 604, 3) := by decide +kernel
theorem dModel_draw_66 : decode prog_14_method_82_code 66 = .ok (.iload 5, 2) := by decide +kernel
theorem dModel_draw_68 : decode prog_14_method_82_code 68 = .ok (.iaload, 1) := by decide +kernel
theorem dModel_draw_69 : decode prog_14_method_82_code 69 = .ok (.iload 4, 2) := by decide +kernel
theorem dModel_draw_71 : decode prog_14_method_82_code 71 = .ok (.if_icmp .eq 6, 3) := by decide +kernel
theorem dModel_draw_74 : decode prog_14_method_82_code 74 = .ok (.goto 37, 3) := by decide +kernel
theorem dModel_draw_77 : decode prog_14_method_82_code 77 = .ok (.aload_n 0, 1) := by decide +kernel
theorem dModel_draw_78 : decode prog_14_method_82_code 78 = .ok (.getfield 469, 3) := by decide +kernel
theorem dModel_draw_81 : decode prog_14_method_82_code 81 = .ok (.iload_n 1, 1) := by decide +kernel
theorem dModel_draw_82 : decode prog_14_method_82_code 82 = .ok (.iaload, 1) := by decide +kernel
theorem dModel_draw_83 : decode prog_14_method_82_code 83 = .ok (.aload_n 0, 1) := by decide +kernel
theorem dModel_draw_84 : decode prog_14_method_82_code 84 = .ok (.getfield 463, 3) := by decide +kernel
theorem dModel_draw_87 : decode prog_14_method_82_code 87 = .ok (.iload 5, 2) := by decide +kernel
theorem dModel_draw_89 : decode prog_14_method_82_code 89 = .ok (.iaload, 1) := by decide +kernel
theorem dModel_draw_90 : decode prog_14_method_82_code 90 = .ok (.if_icmp .lt 7, 3) := by decide +kernel
theorem dModel_draw_93 : decode prog_14_method_82_code 93 = .ok (.iconst 1, 1) := by decide +kernel
theorem dModel_draw_94 : decode prog_14_method_82_code 94 = .ok (.goto 4, 3) := by decide +kernel
theorem dModel_draw_97 : decode prog_14_method_82_code 97 = .ok (.iconst 0, 1) := by decide +kernel
theorem dModel_draw_98 : decode prog_14_method_82_code 98 = .ok (.istore_n 3, 1) := by decide +kernel
theorem dModel_draw_99 : decode prog_14_method_82_code 99 = .ok (.iload_n 3, 1) := by decide +kernel
theorem dModel_draw_100 : decode prog_14_method_82_code 100 = .ok (.ifCond .eq 11, 3) := by decide +kernel
theorem dModel_draw_103 : decode prog_14_method_82_code 103 = .ok (.aload_n 0, 1) := by decide +kernel
theorem dModel_draw_104 : decode prog_14_method_82_code 104 = .ok (.iload 5, 2) := by decide +kernel
theorem dModel_draw_106 : decode prog_14_method_82_code 106 = .ok (.iload_n 1, 1) := by decide +kernel
theorem dModel_draw_107 : decode prog_14_method_82_code 107 = .ok (.iload_n 2, 1) := by decide +kernel
theorem dModel_draw_108 : decode prog_14_method_82_code 108 = .ok (.invokevirtual 607, 3) := by decide +kernel
theorem dModel_draw_111 : decode prog_14_method_82_code 111 = .ok (.iinc 5 1, 3) := by decide +kernel
theorem dModel_draw_114 : decode prog_14_method_82_code 114 = .ok (.goto (-85), 3) := by decide +kernel
theorem dModel_draw_117 : decode prog_14_method_82_code 117 = .ok (.iinc 4 1, 3) := by decide +kernel
theorem dModel_draw_120 : decode prog_14_method_82_code 120 = .ok (.goto (-104), 3) := by decide +kernel
theorem dModel_draw_123 : decode prog_14_method_82_code 123 = .ok (.return_, 1) := by decide +kernel
theorem dModel_drawOne_0 : decode prog_14_method_83_code 0 = .ok (.aload_n 0, 1) := by decide +kernel
theorem dModel_drawOne_1 : decode prog_14_method_83_code 1 = .ok (.getfield 469, 3) := by decide +kernel
theorem dModel_drawOne_4 : decode prog_14_method_83_code 4 = .ok (.iload_n 2, 1) := by decide +kernel
theorem dModel_drawOne_5 : decode prog_14_method_83_code 5 = .ok (.dup2, 1) := by decide +kernel
theorem dModel_drawOne_6 : decode prog_14_method_83_code 6 = .ok (.iaload, 1) := by decide +kernel
theorem dModel_drawOne_7 : decode prog_14_method_83_code 7 = .ok (.aload_n 0, 1) := by decide +kernel
theorem dModel_drawOne_8 : decode prog_14_method_83_code 8 = .ok (.getfield 463, 3) := by decide +kernel
theorem dModel_drawOne_11 : decode prog_14_method_83_code 11 = .ok (.iload_n 1, 1) := by decide +kernel
theorem dModel_drawOne_12 : decode prog_14_method_83_code 12 = .ok (.iaload, 1) := by decide +kernel
theorem dModel_drawOne_13 : decode prog_14_method_83_code 13 = .ok (.isub, 1) := by decide +kernel
theorem dModel_drawOne_14 : decode prog_14_method_83_code 14 = .ok (.iastore, 1) := by decide +kernel
theorem dModel_drawOne_15 : decode prog_14_method_83_code 15 = .ok (.aload_n 0, 1) := by decide +kernel
theorem dModel_drawOne_16 : decode prog_14_method_83_code 16 = .ok (.getfield 447, 3) := by decide +kernel
theorem dModel_drawOne_19 : decode prog_14_method_83_code 19 = .ok (.iload_n 1, 1) := by decide +kernel
theorem dModel_drawOne_20 : decode prog_14_method_83_code 20 = .ok (.aload_n 0, 1) := by decide +kernel
theorem dModel_drawOne_21 : decode prog_14_method_83_code 21 = .ok (.getfield 348, 3) := by decide +kernel
theorem dModel_drawOne_24 : decode prog_14_method_83_code 24 = .ok (.iastore, 1) := by decide +kernel
theorem dModel_drawOne_25 : decode prog_14_method_83_code 25 = .ok (.aload_n 0, 1) := by decide +kernel
theorem dModel_drawOne_26 : decode prog_14_method_83_code 26 = .ok (.dup, 1) := by decide +kernel
theorem dModel_drawOne_27 : decode prog_14_method_83_code 27 = .ok (.getfield 611, 3) := by decide +kernel
theorem dModel_drawOne_30 : decode prog_14_method_83_code 30 = .ok (.lconst 1, 1) := by decide +kernel
theorem dModel_drawOne_31 : decode prog_14_method_83_code 31 = .ok (.ladd, 1) := by decide +kernel
theorem dModel_drawOne_32 : decode prog_14_method_83_code 32 = .ok (.putfield 611, 3) := by decide +kernel
theorem dModel_drawOne_35 : decode prog_14_method_83_code 35 = .ok (.aload_n 0, 1) := by decide +kernel
theorem dModel_drawOne_36 : decode prog_14_method_83_code 36 = .ok (.dup, 1) := by decide +kernel
theorem dModel_drawOne_37 : decode prog_14_method_83_code 37 = .ok (.getfield 614, 3) := by decide +kernel
theorem dModel_drawOne_40 : decode prog_14_method_83_code 40 = .ok (.aload_n 0, 1) := by decide +kernel
theorem dModel_drawOne_41 : decode prog_14_method_83_code 41 = .ok (.getfield 348, 3) := by decide +kernel
theorem dModel_drawOne_44 : decode prog_14_method_83_code 44 = .ok (.aload_n 0, 1) := by decide +kernel
theorem dModel_drawOne_45 : decode prog_14_method_83_code 45 = .ok (.getfield 528, 3) := by decide +kernel
theorem dModel_drawOne_48 : decode prog_14_method_83_code 48 = .ok (.iload_n 1, 1) := by decide +kernel
theorem dModel_drawOne_49 : decode prog_14_method_83_code 49 = .ok (.iaload, 1) := by decide +kernel
theorem dModel_drawOne_50 : decode prog_14_method_83_code 50 = .ok (.isub, 1) := by decide +kernel
theorem dModel_drawOne_51 : decode prog_14_method_83_code 51 = .ok (.i2l, 1) := by decide +kernel
theorem dModel_drawOne_52 : decode prog_14_method_83_code 52 = .ok (.ladd, 1) := by decide +kernel
theorem dModel_drawOne_53 : decode prog_14_method_83_code 53 = .ok (.putfield 614, 3) := by decide +kernel
theorem dModel_drawOne_56 : decode prog_14_method_83_code 56 = .ok (.iload_n 3, 1) := by decide +kernel
theorem dModel_drawOne_57 : decode prog_14_method_83_code 57 = .ok (.ifCond .ge 20, 3) := by decide +kernel
theorem dModel_drawOne_60 : decode prog_14_method_83_code 60 = .ok (.aload_n 0, 1) := by decide +kernel
theorem dModel_drawOne_61 : decode prog_14_method_83_code 61 = .ok (.dup, 1) := by decide +kernel
theorem dModel_drawOne_62 : decode prog_14_method_83_code 62 = .ok (.getfield 617, 3) := by decide +kernel
theorem dModel_drawOne_65 : decode prog_14_method_83_code 65 = .ok (.aload_n 0, 1) := by decide +kernel
theorem dModel_drawOne_66 : decode prog_14_method_83_code 66 = .ok (.getfield 463, 3) := by decide +kernel
theorem dModel_drawOne_69 : decode prog_14_method_83_code 69 = .ok (.iload_n 1, 1) := by decide +kernel
theorem dModel_drawOne_70 : decode prog_14_method_83_code 70 = .ok (.iaload, 1) := by decide +kernel
theorem dModel_drawOne_71 : decode prog_14_method_83_code 71 = .ok (.i2l, 1) := by decide +kernel
theorem dModel_drawOne_72 : decode prog_14_method_83_code 72 = .ok (.ladd, 1) := by decide +kernel
theorem dModel_drawOne_73 : decode prog_14_method_83_code 73 = .ok (.putfield 617, 3) := by decide +kernel
theorem dModel_drawOne_76 : decode prog_14_method_83_code 76 = .ok (.return_, 1) := by decide +kernel
theorem dModel_drawOne_77 : decode prog_14_method_83_code 77 = .ok (.aload_n 0, 1) := by decide +kernel
theorem dModel_drawOne_78 : decode prog_14_method_83_code 78 = .ok (.getfield 269, 3) := by decide +kernel
theorem dModel_drawOne_81 : decode prog_14_method_83_code 81 = .ok (.bipush 16, 2) := by decide +kernel
theorem dModel_drawOne_83 : decode prog_14_method_83_code 83 = .ok (.aload_n 0, 1) := by decide +kernel
theorem dModel_drawOne_84 : decode prog_14_method_83_code 84 = .ok (.iload_n 2, 1) := by decide +kernel
theorem dModel_drawOne_85 : decode prog_14_method_83_code 85 = .ok (.invokevirtual 491, 3) := by decide +kernel
theorem dModel_drawOne_88 : decode prog_14_method_83_code 88 = .ok (.imul, 1) := by decide +kernel
theorem dModel_drawOne_89 : decode prog_14_method_83_code 89 = .ok (.aload_n 0, 1) := by decide +kernel
theorem dModel_drawOne_90 : decode prog_14_method_83_code 90 = .ok (.iload_n 3, 1) := by decide +kernel
theorem dModel_drawOne_91 : decode prog_14_method_83_code 91 = .ok (.invokevirtual 494, 3) := by decide +kernel
theorem dModel_drawOne_94 : decode prog_14_method_83_code 94 = .ok (.iadd, 1) := by decide +kernel
theorem dModel_drawOne_95 : decode prog_14_method_83_code 95 = .ok (.iaload, 1) := by decide +kernel
theorem dModel_drawOne_96 : decode prog_14_method_83_code 96 = .ok (.istore 4, 2) := by decide +kernel
theorem dModel_drawOne_98 : decode prog_14_method_83_code 98 = .ok (.iload 4, 2) := by decide +kernel
theorem dModel_drawOne_100 : decode prog_14_method_83_code 100 = .ok (.aload_n 0, 1) := by decide +kernel
theorem dModel_drawOne_101 : decode prog_14_method_83_code 101 = .ok (.getfield 397, 3) := by decide +kernel
theorem dModel_drawOne_104 : decode prog_14_method_83_code 104 = .ok (.imul, 1) := by decide +kernel
theorem dModel_drawOne_105 : decode prog_14_method_83_code 105 = .ok (.bipush 10, 2) := by decide +kernel
theorem dModel_drawOne_107 : decode prog_14_method_83_code 107 = .ok (.idiv, 1) := by decide +kernel
theorem dModel_drawOne_108 : decode prog_14_method_83_code 108 = .ok (.i2l, 1) := by decide +kernel
theorem dModel_drawOne_109 : decode prog_14_method_83_code 109 = .ok (.aload_n 0, 1) := by decide +kernel
theorem dModel_drawOne_110 : decode prog_14_method_83_code 110 = .ok (.getfield 463, 3) := by decide +kernel
theorem dModel_drawOne_113 : decode prog_14_method_83_code 113 = .ok (.iload_n 1, 1) := by decide +kernel
theorem dModel_drawOne_114 : decode prog_14_method_83_code 114 = .ok (.iaload, 1) := by decide +kernel
theorem dModel_drawOne_115 : decode prog_14_method_83_code 115 = .ok (.i2l, 1) := by decide +kernel
theorem dModel_drawOne_116 : decode prog_14_method_83_code 116 = .ok (.lmul, 1) := by decide +kernel
theorem dModel_drawOne_117 : decode prog_14_method_83_code 117 = .ok (.lstore 5, 2) := by decide +kernel
theorem dModel_drawOne_119 : decode prog_14_method_83_code 119 = .ok (.aload_n 0, 1) := by decide +kernel
theorem dModel_drawOne_120 : decode prog_14_method_83_code 120 = .ok (.getfield 578, 3) := by decide +kernel
theorem dModel_drawOne_123 : decode prog_14_method_83_code 123 = .ok (.aload_n 0, 1) := by decide +kernel
theorem dModel_drawOne_124 : decode prog_14_method_83_code 124 = .ok (.getfield 525, 3) := by decide +kernel
theorem dModel_drawOne_127 : decode prog_14_method_83_code 127 = .ok (.iload_n 1, 1) := by decide +kernel
theorem dModel_drawOne_128 : decode prog_14_method_83_code 128 = .ok (.iaload, 1) := by decide +kernel
theorem dModel_drawOne_129 : decode prog_14_method_83_code 129 = .ok (.dup2, 1) := by decide +kernel
theorem dModel_drawOne_130 : decode prog_14_method_83_code 130 = .ok (.laload, 1) := by decide +kernel
theorem dModel_drawOne_131 : decode prog_14_method_83_code 131 = .ok (.lload 5, 2) := by decide +kernel
theorem dModel_drawOne_133 : decode prog_14_method_83_code 133 = .ok (.aload_n 0, 1) := by decide +kernel
theorem dModel_drawOne_134 : decode prog_14_method_83_code 134 = .ok (.getfield 578, 3) := by decide +kernel
theorem dModel_drawOne_137 : decode prog_14_method_83_code 137 = .ok (.aload_n 0, 1) := by decide +kernel
theorem dModel_drawOne_138 : decode prog_14_method_83_code 138 = .ok (.getfield 525, 3) := by decide +kernel
theorem dModel_drawOne_141 : decode prog_14_method_83_code 141 = .ok (.iload_n 1, 1) := by decide +kernel
theorem dModel_drawOne_142 : decode prog_14_method_83_code 142 = .ok (.iaload, 1) := by decide +kernel
theorem dModel_drawOne_143 : decode prog_14_method_83_code 143 = .ok (.laload, 1) := by decide +kernel
theorem dModel_drawOne_144 : decode prog_14_method_83_code 144 = .ok (.lcmp, 1) := by decide +kernel
theorem dModel_drawOne_145 : decode prog_14_method_83_code 145 = .ok (.ifCond .ge 8, 3) := by decide +kernel
theorem dModel_drawOne_148 : decode prog_14_method_83_code 148 = .ok (.lload 5, 2) := by decide +kernel
theorem dModel_drawOne_150 : decode prog_14_method_83_code 150 = .ok (.goto 14, 3) := by decide +kernel
theorem dModel_drawOne_153 : decode prog_14_method_83_code 153 = .ok (.aload_n 0, 1) := by decide +kernel
theorem dModel_drawOne_154 : decode prog_14_method_83_code 154 = .ok (.getfield 578, 3) := by decide +kernel
theorem dModel_drawOne_157 : decode prog_14_method_83_code 157 = .ok (.aload_n 0, 1) := by decide +kernel
theorem dModel_drawOne_158 : decode prog_14_method_83_code 158 = .ok (.getfield 525, 3) := by decide +kernel
theorem dModel_drawOne_161 : decode prog_14_method_83_code 161 = .ok (.iload_n 1, 1) := by decide +kernel
theorem dModel_drawOne_162 : decode prog_14_method_83_code 162 = .ok (.iaload, 1) := by decide +kernel
theorem dModel_drawOne_163 : decode prog_14_method_83_code 163 = .ok (.laload, 1) := by decide +kernel
theorem dModel_drawOne_164 : decode prog_14_method_83_code 164 = .ok (.lsub, 1) := by decide +kernel
theorem dModel_drawOne_165 : decode prog_14_method_83_code 165 = .ok (.lastore, 1) := by decide +kernel
theorem dModel_drawOne_166 : decode prog_14_method_83_code 166 = .ok (.aload_n 0, 1) := by decide +kernel
theorem dModel_drawOne_167 : decode prog_14_method_83_code 167 = .ok (.aload_n 0, 1) := by decide +kernel
theorem dModel_drawOne_168 : decode prog_14_method_83_code 168 = .ok (.getfield 525, 3) := by decide +kernel
theorem dModel_drawOne_171 : decode prog_14_method_83_code 171 = .ok (.iload_n 1, 1) := by decide +kernel
theorem dModel_drawOne_172 : decode prog_14_method_83_code 172 = .ok (.iaload, 1) := by decide +kernel
theorem dModel_drawOne_173 : decode prog_14_method_83_code 173 = .ok (.iload 4, 2) := by decide +kernel
theorem dModel_drawOne_175 : decode prog_14_method_83_code 175 = .ok (.iconst 1, 1) := by decide +kernel
theorem dModel_drawOne_176 : decode prog_14_method_83_code 176 = .ok (.iload_n 3, 1) := by decide +kernel
theorem dModel_drawOne_177 : decode prog_14_method_83_code 177 = .ok (.aload_n 0, 1) := by decide +kernel
theorem dModel_drawOne_178 : decode prog_14_method_83_code 178 = .ok (.getfield 463, 3) := by decide +kernel
theorem dModel_drawOne_181 : decode prog_14_method_83_code 181 = .ok (.iload_n 1, 1) := by decide +kernel
theorem dModel_drawOne_182 : decode prog_14_method_83_code 182 = .ok (.iaload, 1) := by decide +kernel
theorem dModel_drawOne_183 : decode prog_14_method_83_code 183 = .ok (.iconst 0, 1) := by decide +kernel
theorem dModel_drawOne_184 : decode prog_14_method_83_code 184 = .ok (.iconst (-1), 1) := by decide +kernel
theorem dModel_drawOne_185 : decode prog_14_method_83_code 185 = .ok (.invokevirtual 620, 3) := by decide +kernel
theorem dModel_drawOne_188 : decode prog_14_method_83_code 188 = .ok (.return_, 1) := by decide +kernel
theorem dModel_eat_0 : decode prog_14_method_84_code 0 = .ok (.iconst 0, 1) := by decide +kernel
theorem dModel_eat_1 : decode prog_14_method_84_code 1 = .ok (.istore_n 1, 1) := by decide +kernel
theorem dModel_eat_2 : decode prog_14_method_84_code 2 = .ok (.iload_n 1, 1) := by decide +kernel
theorem dModel_eat_3 : decode prog_14_method_84_code 3 = .ok (.aload_n 0, 1) := by decide +kernel
theorem dModel_eat_4 : decode prog_14_method_84_code 4 = .ok (.invokevirtual 624, 3) := by decide +kernel
theorem dModel_eat_7 : decode prog_14_method_84_code 7 = .ok (.if_icmp .ge 95, 3) := by decide +kernel
theorem dModel_eat_10 : decode prog_14_method_84_code 10 = .ok (.aload_n 0, 1) := by decide +kernel
theorem dModel_eat_11 : decode prog_14_method_84_code 11 = .ok (.getfield 236, 3) := by decide +kernel
theorem dModel_eat_14 : decode prog_14_method_84_code 14 = .ok (.iconst 3, 1) := by decide +kernel
theorem dModel_eat_15 : decode prog_14_method_84_code 15 = .ok (.aload_n 0, 1) := by decide +kernel
theorem dModel_eat_16 : decode prog_14_method_84_code 16 = .ok (.getfield 147, 3) := by decide +kernel
theorem dModel_eat_19 : decode prog_14_method_84_code 19 = .ok (.imul, 1) := by decide +kernel
theorem dModel_eat_20 : decode prog_14_method_84_code 20 = .ok (.iload_n 1, 1) := by decide +kernel
theorem dModel_eat_21 : decode prog_14_method_84_code 21 = .ok (.iadd, 1) := by decide +kernel
theorem dModel_eat_22 : decode prog_14_method_84_code 22 = .ok (.iaload, 1) := by decide +kernel
theorem dModel_eat_23 : decode prog_14_method_84_code 23 = .ok (.istore_n 2, 1) := by decide +kernel
theorem dModel_eat_24 : decode prog_14_method_84_code 24 = .ok (.aload_n 0, 1) := by decide +kernel
theorem dModel_eat_25 : decode prog_14_method_84_code 25 = .ok (.getfield 627, 3) := by decide +kernel
theorem dModel_eat_28 : decode prog_14_method_84_code 28 = .ok (.iload_n 1, 1) := by decide +kernel
theorem dModel_eat_29 : decode prog_14_method_84_code 29 = .ok (.iload_n 2, 1) := by decide +kernel
theorem dModel_eat_30 : decode prog_14_method_84_code 30 = .ok (.aload_n 0, 1) := by decide +kernel
theorem dModel_eat_31 : decode prog_14_method_84_code 31 = .ok (.getfield 513, 3) := by decide +kernel
theorem dModel_eat_34 : decode prog_14_method_84_code 34 = .ok (.iload_n 1, 1) := by decide +kernel
theorem dModel_eat_35 : decode prog_14_method_84_code 35 = .ok (.iaload, 1) := by decide +kernel
theorem dModel_eat_36 : decode prog_14_method_84_code 36 = .ok (.if_icmp .le 14, 3) := by decide +kernel
theorem dModel_eat_39 : decode prog_14_method_84_code 39 = .ok (.iload_n 2, 1) := by decide +kernel
theorem dModel_eat_40 : decode prog_14_method_84_code 40 = .ok (.aload_n 0, 1) := by decide +kernel
theorem dModel_eat_41 : decode prog_14_method_84_code 41 = .ok (.getfield 513, 3) := by decide +kernel
theorem dModel_eat_44 : decode prog_14_method_84_code 44 = .ok (.iload_n 1, 1) := by decide +kernel
theorem dModel_eat_45 : decode prog_14_method_84_code 45 = .ok (.iaload, 1) := by decide +kernel
theorem dModel_eat_46 : decode prog_14_method_84_code 46 = .ok (.isub, 1) := by decide +kernel
theorem dModel_eat_47 : decode prog_14_method_84_code 47 = .ok (.goto 4, 3) := by decide +kernel
theorem dModel_eat_50 : decode prog_14_method_84_code 50 = .ok (.iconst 0, 1) := by decide +kernel
theorem dModel_eat_51 : decode prog_14_method_84_code 51 = .ok (.iastore, 1) := by decide +kernel
theorem dModel_eat_52 : decode prog_14_method_84_code 52 = .ok (.aload_n 0, 1) := by decide +kernel
theorem dModel_eat_53 : decode prog_14_method_84_code 53 = .ok (.getfield 513, 3) := by decide +kernel
theorem dModel_eat_56 : decode prog_14_method_84_code 56 = .ok (.iload_n 1, 1) := by decide +kernel
theorem dModel_eat_57 : decode prog_14_method_84_code 57 = .ok (.iload_n 2, 1) := by decide +kernel
theorem dModel_eat_58 : decode prog_14_method_84_code 58 = .ok (.aload_n 0, 1) := by decide +kernel
theorem dModel_eat_59 : decode prog_14_method_84_code 59 = .ok (.getfield 513, 3) := by decide +kernel
theorem dModel_eat_62 : decode prog_14_method_84_code 62 = .ok (.iload_n 1, 1) := by decide +kernel
theorem dModel_eat_63 : decode prog_14_method_84_code 63 = .ok (.iaload, 1) := by decide +kernel
theorem dModel_eat_64 : decode prog_14_method_84_code 64 = .ok (.if_icmp .le 7, 3) := by decide +kernel
theorem dModel_eat_67 : decode prog_14_method_84_code 67 = .ok (.iconst 0, 1) := by decide +kernel
theorem dModel_eat_68 : decode prog_14_method_84_code 68 = .ok (.goto 11, 3) := by decide +kernel
theorem dModel_eat_71 : decode prog_14_method_84_code 71 = .ok (.aload_n 0, 1) := by decide +kernel
theorem dModel_eat_72 : decode prog_14_method_84_code 72 = .ok (.getfield 513, 3) := by decide +kernel
theorem dModel_eat_75 : decode prog_14_method_84_code 75 = .ok (.iload_n 1, 1) := by decide +kernel
theorem dModel_eat_76 : decode prog_14_method_84_code 76 = .ok (.iaload, 1) := by decide +kernel
theorem dModel_eat_77 : decode prog_14_method_84_code 77 = .ok (.iload_n 2, 1) := by decide +kernel
theorem dModel_eat_78 : decode prog_14_method_84_code 78 = .ok (.isub, 1) := by decide +kernel
theorem dModel_eat_79 : decode prog_14_method_84_code 79 = .ok (.iastore, 1) := by decide +kernel
theorem dModel_eat_80 : decode prog_14_method_84_code 80 = .ok (.aload_n 0, 1) := by decide +kernel
theorem dModel_eat_81 : decode prog_14_method_84_code 81 = .ok (.dup, 1) := by decide +kernel
theorem dModel_eat_82 : decode prog_14_method_84_code 82 = .ok (.getfield 630, 3) := by decide +kernel
theorem dModel_eat_85 : decode prog_14_method_84_code 85 = .ok (.aload_n 0, 1) := by decide +kernel
theorem dModel_eat_86 : decode prog_14_method_84_code 86 = .ok (.getfield 627, 3) := by decide +kernel
theorem dModel_eat_89 : decode prog_14_method_84_code 89 = .ok (.iload_n 1, 1) := by decide +kernel
theorem dModel_eat_90 : decode prog_14_method_84_code 90 = .ok (.iaload, 1) := by decide +kernel
theorem dModel_eat_91 : decode prog_14_method_84_code 91 = .ok (.i2l, 1) := by decide +kernel
theorem dModel_eat_92 : decode prog_14_method_84_code 92 = .ok (.ladd, 1) := by decide +kernel
theorem dModel_eat_93 : decode prog_14_method_84_code 93 = .ok (.putfield 630, 3) := by decide +kernel
theorem dModel_eat_96 : decode prog_14_method_84_code 96 = .ok (.iinc 1 1, 3) := by decide +kernel
theorem dModel_eat_99 : decode prog_14_method_84_code 99 = .ok (.goto (-97), 3) := by decide +kernel
theorem dModel_eat_102 : decode prog_14_method_84_code 102 = .ok (.iconst 0, 1) := by decide +kernel
theorem dModel_eat_103 : decode prog_14_method_84_code 103 = .ok (.istore_n 1, 1) := by decide +kernel
theorem dModel_eat_104 : decode prog_14_method_84_code 104 = .ok (.iload_n 1, 1) := by decide +kernel
theorem dModel_eat_105 : decode prog_14_method_84_code 105 = .ok (.aload_n 0, 1) := by decide +kernel
theorem dModel_eat_106 : decode prog_14_method_84_code 106 = .ok (.invokevirtual 488, 3) := by decide +kernel
theorem dModel_eat_109 : decode prog_14_method_84_code 109 = .ok (.if_icmp .ge 52, 3) := by decide +kernel
theorem dModel_eat_112 : decode prog_14_method_84_code 112 = .ok (.aload_n 0, 1) := by decide +kernel
theorem dModel_eat_113 : decode prog_14_method_84_code 113 = .ok (.getfield 257, 3) := by decide +kernel
theorem dModel_eat_116 : decode prog_14_method_84_code 116 = .ok (.iconst 5, 1) := by decide +kernel
theorem dModel_eat_117 : decode prog_14_method_84_code 117 = .ok (.aload_n 0, 1) := by decide +kernel
theorem dModel_eat_118 : decode prog_14_method_84_code 118 = .ok (.getfield 147, 3) := by decide +kernel
theorem dModel_eat_121 : decode prog_14_method_84_code 121 = .ok (.imul, 1) := by decide +kernel
theorem dModel_eat_122 : decode prog_14_method_84_code 122 = .ok (.iload_n 1, 1) := by decide +kernel
theorem dModel_eat_123 : decode prog_14_method_84_code 123 = .ok (.iadd, 1) := by decide +kernel
theorem dModel_eat_124 : decode prog_14_method_84_code 124 = .ok (.iaload, 1) := by decide +kernel
theorem dModel_eat_125 : decode prog_14_method_84_code 125 = .ok (.istore_n 2, 1) := by decide +kernel
theorem dModel_eat_126 : decode prog_14_method_84_code 126 = .ok (.aload_n 0, 1) := by decide +kernel
theorem dModel_eat_127 : decode prog_14_method_84_code 127 = .ok (.getfield 474, 3) := by decide +kernel
theorem dModel_eat_130 : decode prog_14_method_84_code 130 = .ok (.iload_n 1, 1) := by decide +kernel
theorem dModel_eat_131 : decode prog_14_method_84_code 131 = .ok (.dup2, 1) := by decide +kernel
theorem dModel_eat_132 : decode prog_14_method_84_code 132 = .ok (.iaload, 1) := by decide +kernel
theorem dModel_eat_133 : decode prog_14_method_84_code 133 = .ok (.aload_n 0, 1) := by decide +kernel
theorem dModel_eat_134 : decode prog_14_method_84_code 134 = .ok (.getfield 474, 3) := by decide +kernel
theorem dModel_eat_137 : decode prog_14_method_84_code 137 = .ok (.iload_n 1, 1) := by decide +kernel
theorem dModel_eat_138 : decode prog_14_method_84_code 138 = .ok (.iaload, 1) := by decide +kernel
theorem dModel_eat_139 : decode prog_14_method_84_code 139 = .ok (.iload_n 2, 1) := by decide +kernel
theorem dModel_eat_140 : decode prog_14_method_84_code 140 = .ok (.if_icmp .ge 12, 3) := by decide +kernel
theorem dModel_eat_143 : decode prog_14_method_84_code 143 = .ok (.aload_n 0, 1) := by decide +kernel
theorem dModel_eat_144 : decode prog_14_method_84_code 144 = .ok (.getfield 474, 3) := by decide +kernel
theorem dModel_eat_147 : decode prog_14_method_84_code 147 = .ok (.iload_n 1, 1) := by decide +kernel
theorem dModel_eat_148 : decode prog_14_method_84_code 148 = .ok (.iaload, 1) := by decide +kernel
theorem dModel_eat_149 : decode prog_14_method_84_code 149 = .ok (.goto 4, 3) := by decide +kernel
theorem dModel_eat_152 : decode prog_14_method_84_code 152 = .ok (.iload_n 2, 1) := by decide +kernel
theorem dModel_eat_153 : decode prog_14_method_84_code 153 = .ok (.isub, 1) := by decide +kernel
theorem dModel_eat_154 : decode prog_14_method_84_code 154 = .ok (.iastore, 1) := by decide +kernel
theorem dModel_eat_155 : decode prog_14_method_84_code 155 = .ok (.iinc 1 1, 3) := by decide +kernel
theorem dModel_eat_158 : decode prog_14_method_84_code 158 = .ok (.goto (-54), 3) := by decide +kernel
theorem dModel_eat_161 : decode prog_14_method_84_code 161 = .ok (.return_, 1) := by decide +kernel
theorem dModel_weigh_0 : decode prog_14_method_85_code 0 = .ok (.iload 4, 2) := by decide +kernel
theorem dModel_weigh_2 : decode prog_14_method_85_code 2 = .ok (.ifCond .eq 13, 3) := by decide +kernel
theorem dModel_weigh_5 : decode prog_14_method_85_code 5 = .ok (.lload 6, 2) := by decide +kernel
theorem dModel_weigh_7 : decode prog_14_method_85_code 7 = .ok (.aload_n 0, 1) := by decide +kernel
theorem dModel_weigh_8 : decode prog_14_method_85_code 8 = .ok (.getfield 633, 3) := by decide +kernel
theorem dModel_weigh_11 : decode prog_14_method_85_code 11 = .ok (.lcmp, 1) := by decide +kernel
theorem dModel_weigh_12 : decode prog_14_method_85_code 12 = .ok (.ifCond .gt 4, 3) := by decide +kernel
theorem dModel_weigh_15 : decode prog_14_method_85_code 15 = .ok (.return_, 1) := by decide +kernel
theorem dModel_weigh_16 : decode prog_14_method_85_code 16 = .ok (.aload_n 0, 1) := by decide +kernel
theorem dModel_weigh_17 : decode prog_14_method_85_code 17 = .ok (.iload_n 1, 1) := by decide +kernel
theorem dModel_weigh_18 : decode prog_14_method_85_code 18 = .ok (.putfield 636, 3) := by decide +kernel
theorem dModel_weigh_21 : decode prog_14_method_85_code 21 = .ok (.aload_n 0, 1) := by decide +kernel
theorem dModel_weigh_22 : decode prog_14_method_85_code 22 = .ok (.iload_n 2, 1) := by decide +kernel
theorem dModel_weigh_23 : decode prog_14_method_85_code 23 = .ok (.putfield 639, 3) := by decide +kernel
theorem dModel_weigh_26 : decode prog_14_method_85_code 26 = .ok (.aload_n 0, 1) := by decide +kernel
theorem dModel_weigh_27 : decode prog_14_method_85_code 27 = .ok (.iload_n 3, 1) := by decide +kernel
theorem dModel_weigh_28 : decode prog_14_method_85_code 28 = .ok (.putfield 642, 3) := by decide +kernel
theorem dModel_weigh_31 : decode prog_14_method_85_code 31 = .ok (.aload_n 0, 1) := by decide +kernel
theorem dModel_weigh_32 : decode prog_14_method_85_code 32 = .ok (.iload 4, 2) := by decide +kernel
theorem dModel_weigh_34 : decode prog_14_method_85_code 34 = .ok (.putfield 645, 3) := by decide +kernel
theorem dModel_weigh_37 : decode prog_14_method_85_code 37 = .ok (.aload_n 0, 1) := by decide +kernel
theorem dModel_weigh_38 : decode prog_14_method_85_code 38 = .ok (.iload 5, 2) := by decide +kernel
theorem dModel_weigh_40 : decode prog_14_method_85_code 40 = .ok (.putfield 648, 3) := by decide +kernel
theorem dModel_weigh_43 : decode prog_14_method_85_code 43 = .ok (.aload_n 0, 1) := by decide +kernel
theorem dModel_weigh_44 : decode prog_14_method_85_code 44 = .ok (.lload 6, 2) := by decide +kernel
theorem dModel_weigh_46 : decode prog_14_method_85_code 46 = .ok (.putfield 633, 3) := by decide +kernel
theorem dModel_weigh_49 : decode prog_14_method_85_code 49 = .ok (.return_, 1) := by decide +kernel
theorem dModel_least_0 : decode prog_14_method_86_code 0 = .ok (.lload_n 1, 1) := by decide +kernel
theorem dModel_least_1 : decode prog_14_method_86_code 1 = .ok (.iload_n 0, 1) := by decide +kernel
theorem dModel_least_2 : decode prog_14_method_86_code 2 = .ok (.i2l, 1) := by decide +kernel
theorem dModel_least_3 : decode prog_14_method_86_code 3 = .ok (.lcmp, 1) := by decide +kernel
theorem dModel_least_4 : decode prog_14_method_86_code 4 = .ok (.ifCond .ge 8, 3) := by decide +kernel
theorem dModel_least_7 : decode prog_14_method_86_code 7 = .ok (.lload_n 1, 1) := by decide +kernel
theorem dModel_least_8 : decode prog_14_method_86_code 8 = .ok (.l2i, 1) := by decide +kernel
theorem dModel_least_9 : decode prog_14_method_86_code 9 = .ok (.goto 4, 3) := by decide +kernel
theorem dModel_least_12 : decode prog_14_method_86_code 12 = .ok (.iload_n 0, 1) := by decide +kernel
theorem dModel_least_13 : decode prog_14_method_86_code 13 = .ok (.ireturn, 1) := by decide +kernel
theorem dModel_affordable_0 : decode prog_14_method_87_code 0 = .ok (.iload 4, 2) := by decide +kernel
theorem dModel_affordable_2 : decode prog_14_method_87_code 2 = .ok (.ifCond .ne 7, 3) := by decide +kernel
theorem dModel_affordable_5 : decode prog_14_method_87_code 5 = .ok (.iload_n 1, 1) := by decide +kernel
theorem dModel_affordable_6 : decode prog_14_method_87_code 6 = .ok (.goto 12, 3) := by decide +kernel
theorem dModel_affordable_9 : decode prog_14_method_87_code 9 = .ok (.iload_n 1, 1) := by decide +kernel
theorem dModel_affordable_10 : decode prog_14_method_87_code 10 = .ok (.lload_n 2, 1) := by decide +kernel
theorem dModel_affordable_11 : decode prog_14_method_87_code 11 = .ok (.iload 4, 2) := by decide +kernel
theorem dModel_affordable_13 : decode prog_14_method_87_code 13 = .ok (.i2l, 1) := by decide +kernel
theorem dModel_affordable_14 : decode prog_14_method_87_code 14 = .ok (.ldiv, 1) := by decide +kernel
theorem dModel_affordable_15 : decode prog_14_method_87_code 15 = .ok (.invokestatic 651, 3) := by decide +kernel
theorem dModel_affordable_18 : decode prog_14_method_87_code 18 = .ok (.ireturn, 1) := by decide +kernel
theorem dModel_choose_0 : decode prog_14_method_88_code 0 = .ok (.aload_n 0, 1) := by decide +kernel
theorem dModel_choose_1 : decode prog_14_method_88_code 1 = .ok (.iconst 0, 1) := by decide +kernel
theorem dModel_choose_2 : decode prog_14_method_88_code 2 = .ok (.putfield 636, 3) := by decide +kernel
theorem dModel_choose_5 : decode prog_14_method_88_code 5 = .ok (.aload_n 0, 1) := by decide +kernel
theorem dModel_choose_6 : decode prog_14_method_88_code 6 = .ok (.iconst (-1), 1) := by decide +kernel
theorem dModel_choose_7 : decode prog_14_method_88_code 7 = .ok (.putfield 639, 3) := by decide +kernel
theorem dModel_choose_10 : decode prog_14_method_88_code 10 = .ok (.aload_n 0, 1) := by decide +kernel
theorem dModel_choose_11 : decode prog_14_method_88_code 11 = .ok (.iconst (-1), 1) := by decide +kernel
theorem dModel_choose_12 : decode prog_14_method_88_code 12 = .ok (.putfield 642, 3) := by decide +kernel
theorem dModel_choose_15 : decode prog_14_method_88_code 15 = .ok (.aload_n 0, 1) := by decide +kernel
theorem dModel_choose_16 : decode prog_14_method_88_code 16 = .ok (.iconst 0, 1) := by decide +kernel
theorem dModel_choose_17 : decode prog_14_method_88_code 17 = .ok (.putfield 645, 3) := by decide +kernel
theorem dModel_choose_20 : decode prog_14_method_88_code 20 = .ok (.aload_n 0, 1) := by decide +kernel
theorem dModel_choose_21 : decode prog_14_method_88_code 21 = .ok (.lconst 0, 1) := by decide +kernel
theorem dModel_choose_22 : decode prog_14_method_88_code 22 = .ok (.putfield 633, 3) := by decide +kernel
theorem dModel_choose_25 : decode prog_14_method_88_code 25 = .ok (.aload_n 0, 1) := by decide +kernel
theorem dModel_choose_26 : decode prog_14_method_88_code 26 = .ok (.aload_n 0, 1) := by decide +kernel
theorem dModel_choose_27 : decode prog_14_method_88_code 27 = .ok (.invokevirtual 655, 3) := by decide +kernel
theorem dModel_choose_30 : decode prog_14_method_88_code 30 = .ok (.putfield 658, 3) := by decide +kernel
theorem dModel_choose_33 : decode prog_14_method_88_code 33 = .ok (.aload_n 0, 1) := by decide +kernel
theorem dModel_choose_34 : decode prog_14_method_88_code 34 = .ok (.getfield 658, 3) := by decide +kernel
theorem dModel_choose_37 : decode prog_14_method_88_code 37 = .ok (.ifCond .ge 4, 3) := by decide +kernel
theorem dModel_choose_40 : decode prog_14_method_88_code 40 = .ok (.return_, 1) := by decide +kernel
theorem dModel_choose_41 : decode prog_14_method_88_code 41 = .ok (.iconst 0, 1) := by decide +kernel
theorem dModel_choose_42 : decode prog_14_method_88_code 42 = .ok (.istore_n 2, 1) := by decide +kernel
theorem dModel_choose_43 : decode prog_14_method_88_code 43 = .ok (.iload_n 2, 1) := by decide +kernel
theorem dModel_choose_44 : decode prog_14_method_88_code 44 = .ok (.aload_n 0, 1) := by decide +kernel
theorem dModel_choose_45 : decode prog_14_method_88_code 45 = .ok (.invokevirtual 624, 3) := by decide +kernel
theorem dModel_choose_48 : decode prog_14_method_88_code 48 = .ok (.if_icmp .ge 150, 3) := by decide +kernel
theorem dModel_choose_51 : decode prog_14_method_88_code 51 = .ok (.iconst 0, 1) := by decide +kernel
theorem dModel_choose_52 : decode prog_14_method_88_code 52 = .ok (.istore_n 3, 1) := by decide +kernel
theorem dModel_choose_53 : decode prog_14_method_88_code 53 = .ok (.iload_n 3, 1) := by decide +kernel
theorem dModel_choose_54 : decode prog_14_method_88_code 54 = .ok (.aload_n 0, 1) := by decide +kernel
theorem dModel_choose_55 : decode prog_14_method_88_code 55 = .ok (.invokevirtual 488, 3) := by decide +kernel
theorem dModel_choose_58 : decode prog_14_method_88_code 58 = .ok (.if_icmp .ge 134, 3) := by decide +kernel
theorem dModel_choose_61 : decode prog_14_method_88_code 61 = .ok (.aload_n 0, 1) := by decide +kernel
theorem dModel_choose_62 : decode prog_14_method_88_code 62 = .ok (.getfield 269, 3) := by decide +kernel
theorem dModel_choose_65 : decode prog_14_method_88_code 65 = .ok (.bipush 16, 2) := by decide +kernel
theorem dModel_choose_67 : decode prog_14_method_88_code 67 = .ok (.aload_n 0, 1) := by decide +kernel
theorem dModel_choose_68 : decode prog_14_method_88_code 68 = .ok (.iload_n 3, 1) := by decide +kernel
theorem dModel_choose_69 : decode prog_14_method_88_code 69 = .ok (.invokevirtual 494, 3) := by decide +kernel
theorem dModel_choose_72 : decode prog_14_method_88_code 72 = .ok (.imul, 1) := by decide +kernel
theorem dModel_choose_73 : decode prog_14_method_88_code 73 = .ok (.aload_n 0, 1) := by decide +kernel
theorem dModel_choose_74 : decode prog_14_method_88_code 74 = .ok (.iload_n 2, 1) := by decide +kernel
theorem dModel_choose_75 : decode prog_14_method_88_code 75 = .ok (.invokevirtual 661, 3) := by decide +kernel
theorem dModel_choose_78 : decode prog_14_method_88_code 78 = .ok (.iadd, 1) := by decide +kernel
theorem dModel_choose_79 : decode prog_14_method_88_code 79 = .ok (.iaload, 1) := by decide +kernel
theorem dModel_choose_80 : decode prog_14_method_88_code 80 = .ok (.istore 4, 2) := by decide +kernel
theorem dModel_choose_82 : decode prog_14_method_88_code 82 = .ok (.iload 4, 2) := by decide +kernel
theorem dModel_choose_84 : decode prog_14_method_88_code 84 = .ok (.ldc_w 272, 3) := by decide +kernel
theorem dModel_choose_87 : decode prog_14_method_88_code 87 = .ok (.if_icmp .lt 6, 3) := by decide +kernel
theorem dModel_choose_90 : decode prog_14_method_88_code 90 = .ok (.goto 96, 3) := by decide +kernel
theorem dModel_choose_93 : decode prog_14_method_88_code 93 = .ok (.bipush 10, 2) := by decide +kernel
theorem dModel_choose_95 : decode prog_14_method_88_code 95 = .ok (.aload_n 0, 1) := by decide +kernel
theorem dModel_choose_96 : decode prog_14_method_88_code 96 = .ok (.getfield 266, 3) := by decide +kernel
theorem dModel_choose_99 : decode prog_14_method_88_code 99 = .ok (.iconst 5, 1) := by decide +kernel
theorem dModel_choose_100 : decode prog_14_method_88_code 100 = .ok (.aload_n 0, 1) := by decide +kernel
theorem dModel_choose_101 : decode prog_14_method_88_code 101 = .ok (.getfield 147, 3) := by decide +kernel
theorem dModel_choose_104 : decode prog_14_method_88_code 104 = .ok (.imul, 1) := by decide +kernel
theorem dModel_choose_105 : decode prog_14_method_88_code 105 = .ok (.iload_n 3, 1) := by decide +kernel
theorem dModel_choose_106 : decode prog_14_method_88_code 106 = .ok (.iadd, 1) := by decide +kernel
theorem dModel_choose_107 : decode prog_14_method_88_code 107 = .ok (.iaload, 1) := by decide +kernel
theorem dModel_choose_108 : decode prog_14_method_88_code 108 = .ok (.imul, 1) := by decide +kernel
theorem dModel_choose_109 : decode prog_14_method_88_code 109 = .ok (.iload 4, 2) := by decide +kernel
theorem dModel_choose_111 : decode prog_14_method_88_code 111 = .ok (.aload_n 0, 1) := by decide +kernel
theorem dModel_choose_112 : decode prog_14_method_88_code 112 = .ok (.getfield 397, 3) := by decide +kernel
theorem dModel_choose_115 : decode prog_14_method_88_code 115 = .ok (.imul, 1) := by decide +kernel
theorem dModel_choose_116 : decode prog_14_method_88_code 116 = .ok (.iadd, 1) := by decide +kernel
theorem dModel_choose_117 : decode prog_14_method_88_code 117 = .ok (.istore 5, 2) := by decide +kernel
theorem dModel_choose_119 : decode prog_14_method_88_code 119 = .ok (.aload_n 0, 1) := by decide +kernel
theorem dModel_choose_120 : decode prog_14_method_88_code 120 = .ok (.aload_n 0, 1) := by decide +kernel
theorem dModel_choose_121 : decode prog_14_method_88_code 121 = .ok (.getfield 400, 3) := by decide +kernel
theorem dModel_choose_124 : decode prog_14_method_88_code 124 = .ok (.aload_n 0, 1) := by decide +kernel
theorem dModel_choose_125 : decode prog_14_method_88_code 125 = .ok (.getfield 664, 3) := by decide +kernel
theorem dModel_choose_128 : decode prog_14_method_88_code 128 = .ok (.iload_n 3, 1) := by decide +kernel
theorem dModel_choose_129 : decode prog_14_method_88_code 129 = .ok (.iaload, 1) := by decide +kernel
theorem dModel_choose_130 : decode prog_14_method_88_code 130 = .ok (.bipush 10, 2) := by decide +kernel
theorem dModel_choose_132 : decode prog_14_method_88_code 132 = .ok (.idiv, 1) := by decide +kernel
theorem dModel_choose_133 : decode prog_14_method_88_code 133 = .ok (.i2l, 1) := by decide +kernel
theorem dModel_choose_134 : decode prog_14_method_88_code 134 = .ok (.invokestatic 651, 3) := by decide +kernel
theorem dModel_choose_137 : decode prog_14_method_88_code 137 = .ok (.aload_n 0, 1) := by decide +kernel
theorem dModel_choose_138 : decode prog_14_method_88_code 138 = .ok (.getfield 578, 3) := by decide +kernel
theorem dModel_choose_141 : decode prog_14_method_88_code 141 = .ok (.iload_n 1, 1) := by decide +kernel
theorem dModel_choose_142 : decode prog_14_method_88_code 142 = .ok (.laload, 1) := by decide +kernel
theorem dModel_choose_143 : decode prog_14_method_88_code 143 = .ok (.iload 5, 2) := by decide +kernel
theorem dModel_choose_145 : decode prog_14_method_88_code 145 = .ok (.invokevirtual 667, 3) := by decide +kernel
theorem dModel_choose_148 : decode prog_14_method_88_code 148 = .ok (.istore 6, 2) := by decide +kernel
theorem dModel_choose_150 : decode prog_14_method_88_code 150 = .ok (.aload_n 0, 1) := by decide +kernel
theorem dModel_choose_151 : decode prog_14_method_88_code 151 = .ok (.iload_n 2, 1) := by decide +kernel
theorem dModel_choose_152 : decode prog_14_method_88_code 152 = .ok (.iload 4, 2) := by decide +kernel
theorem dModel_choose_154 : decode prog_14_method_88_code 154 = .ok (.invokevirtual 671, 3) := by decide +kernel
theorem dModel_choose_157 : decode prog_14_method_88_code 157 = .ok (.istore 7, 2) := by decide +kernel
theorem dModel_choose_159 : decode prog_14_method_88_code 159 = .ok (.aload_n 0, 1) := by decide +kernel
theorem dModel_choose_160 : decode prog_14_method_88_code 160 = .ok (.iconst 1, 1) := by decide +kernel
theorem dModel_choose_161 : decode prog_14_method_88_code 161 = .ok (.iload_n 2, 1) := by decide +kernel
theorem dModel_choose_162 : decode prog_14_method_88_code 162 = .ok (.iload_n 3, 1) := by decide +kernel
theorem dModel_choose_163 : decode prog_14_method_88_code 163 = .ok (.iload 6, 2) := by decide +kernel
theorem dModel_choose_165 : decode prog_14_method_88_code 165 = .ok (.iload 7, 2) := by decide +kernel
theorem dModel_choose_167 : decode prog_14_method_88_code 167 = .ok (.iload 6, 2) := by decide +kernel
theorem dModel_choose_169 : decode prog_14_method_88_code 169 = .ok (.i2l, 1) := by decide +kernel
theorem dModel_choose_170 : decode prog_14_method_88_code 170 = .ok (.iload 7, 2) := by decide +kernel
theorem dModel_choose_172 : decode prog_14_method_88_code 172 = .ok (.i2l, 1) := by decide +kernel
theorem dModel_choose_173 : decode prog_14_method_88_code 173 = .ok (.aload_n 0, 1) := by decide +kernel
theorem dModel_choose_174 : decode prog_14_method_88_code 174 = .ok (.getfield 506, 3) := by decide +kernel
theorem dModel_choose_177 : decode prog_14_method_88_code 177 = .ok (.lmul, 1) := by decide +kernel
theorem dModel_choose_178 : decode prog_14_method_88_code 178 = .ok (.iload 5, 2) := by decide +kernel
theorem dModel_choose_180 : decode prog_14_method_88_code 180 = .ok (.i2l, 1) := by decide +kernel
theorem dModel_choose_181 : decode prog_14_method_88_code 181 = .ok (.lsub, 1) := by decide +kernel
theorem dModel_choose_182 : decode prog_14_method_88_code 182 = .ok (.lmul, 1) := by decide +kernel
theorem dModel_choose_183 : decode prog_14_method_88_code 183 = .ok (.invokevirtual 674, 3) := by decide +kernel
theorem dModel_choose_186 : decode prog_14_method_88_code 186 = .ok (.iinc 3 1, 3) := by decide +kernel
theorem dModel_choose_189 : decode prog_14_method_88_code 189 = .ok (.goto (-136), 3) := by decide +kernel
theorem dModel_choose_192 : decode prog_14_method_88_code 192 = .ok (.iinc 2 1, 3) := by decide +kernel
theorem dModel_choose_195 : decode prog_14_method_88_code 195 = .ok (.goto (-152), 3) := by decide +kernel
theorem dModel_choose_198 : decode prog_14_method_88_code 198 = .ok (.iconst 0, 1) := by decide +kernel
theorem dModel_choose_199 : decode prog_14_method_88_code 199 = .ok (.istore_n 2, 1) := by decide +kernel
theorem dModel_choose_200 : decode prog_14_method_88_code 200 = .ok (.iload_n 2, 1) := by decide +kernel
theorem dModel_choose_201 : decode prog_14_method_88_code 201 = .ok (.aload_n 0, 1) := by decide +kernel
theorem dModel_choose_202 : decode prog_14_method_88_code 202 = .ok (.invokevirtual 624, 3) := by decide +kernel
theorem dModel_choose_205 : decode prog_14_method_88_code 205 = .ok (.if_icmp .ge 95, 3) := by decide +kernel
theorem dModel_choose_208 : decode prog_14_method_88_code 208 = .ok (.aload_n 0, 1) := by decide +kernel
theorem dModel_choose_209 : decode prog_14_method_88_code 209 = .ok (.getfield 584, 3) := by decide +kernel
theorem dModel_choose_212 : decode prog_14_method_88_code 212 = .ok (.iconst 3, 1) := by decide +kernel
theorem dModel_choose_213 : decode prog_14_method_88_code 213 = .ok (.iload_n 1, 1) := by decide +kernel
theorem dModel_choose_214 : decode prog_14_method_88_code 214 = .ok (.imul, 1) := by decide +kernel
theorem dModel_choose_215 : decode prog_14_method_88_code 215 = .ok (.iload_n 2, 1) := by decide +kernel
theorem dModel_choose_216 : decode prog_14_method_88_code 216 = .ok (.iadd, 1) := by decide +kernel
theorem dModel_choose_217 : decode prog_14_method_88_code 217 = .ok (.iaload, 1) := by decide +kernel
theorem dModel_choose_218 : decode prog_14_method_88_code 218 = .ok (.istore_n 3, 1) := by decide +kernel
theorem dModel_choose_219 : decode prog_14_method_88_code 219 = .ok (.iload_n 3, 1) := by decide +kernel
theorem dModel_choose_220 : decode prog_14_method_88_code 220 = .ok (.ifCond .lt 74, 3) := by decide +kernel
theorem dModel_choose_223 : decode prog_14_method_88_code 223 = .ok (.aload_n 0, 1) := by decide +kernel
theorem dModel_choose_224 : decode prog_14_method_88_code 224 = .ok (.getfield 348, 3) := by decide +kernel
theorem dModel_choose_227 : decode prog_14_method_88_code 227 = .ok (.iload_n 3, 1) := by decide +kernel
theorem dModel_choose_228 : decode prog_14_method_88_code 228 = .ok (.isub, 1) := by decide +kernel
theorem dModel_choose_229 : decode prog_14_method_88_code 229 = .ok (.bipush 12, 2) := by decide +kernel
theorem dModel_choose_231 : decode prog_14_method_88_code 231 = .ok (.if_icmp .ge 6, 3) := by decide +kernel
theorem dModel_choose_234 : decode prog_14_method_88_code 234 = .ok (.goto 60, 3) := by decide +kernel
theorem dModel_choose_237 : decode prog_14_method_88_code 237 = .ok (.aload_n 0, 1) := by decide +kernel
theorem dModel_choose_238 : decode prog_14_method_88_code 238 = .ok (.aload_n 0, 1) := by decide +kernel
theorem dModel_choose_239 : decode prog_14_method_88_code 239 = .ok (.getfield 400, 3) := by decide +kernel
theorem dModel_choose_242 : decode prog_14_method_88_code 242 = .ok (.aload_n 0, 1) := by decide +kernel
theorem dModel_choose_243 : decode prog_14_method_88_code 243 = .ok (.getfield 578, 3) := by decide +kernel
theorem dModel_choose_246 : decode prog_14_method_88_code 246 = .ok (.iload_n 1, 1) := by decide +kernel
theorem dModel_choose_247 : decode prog_14_method_88_code 247 = .ok (.laload, 1) := by decide +kernel
theorem dModel_choose_248 : decode prog_14_method_88_code 248 = .ok (.aload_n 0, 1) := by decide +kernel
theorem dModel_choose_249 : decode prog_14_method_88_code 249 = .ok (.getfield 409, 3) := by decide +kernel
theorem dModel_choose_252 : decode prog_14_method_88_code 252 = .ok (.invokevirtual 667, 3) := by decide +kernel
theorem dModel_choose_255 : decode prog_14_method_88_code 255 = .ok (.istore 4, 2) := by decide +kernel
theorem dModel_choose_257 : decode prog_14_method_88_code 257 = .ok (.aload_n 0, 1) := by decide +kernel
theorem dModel_choose_258 : decode prog_14_method_88_code 258 = .ok (.iload_n 2, 1) := by decide +kernel
theorem dModel_choose_259 : decode prog_14_method_88_code 259 = .ok (.iconst 0, 1) := by decide +kernel
theorem dModel_choose_260 : decode prog_14_method_88_code 260 = .ok (.invokevirtual 671, 3) := by decide +kernel
theorem dModel_choose_263 : decode prog_14_method_88_code 263 = .ok (.istore 5, 2) := by decide +kernel
theorem dModel_choose_265 : decode prog_14_method_88_code 265 = .ok (.aload_n 0, 1) := by decide +kernel
theorem dModel_choose_266 : decode prog_14_method_88_code 266 = .ok (.iconst 2, 1) := by decide +kernel
theorem dModel_choose_267 : decode prog_14_method_88_code 267 = .ok (.iload_n 2, 1) := by decide +kernel
theorem dModel_choose_268 : decode prog_14_method_88_code 268 = .ok (.iconst (-1), 1) := by decide +kernel
theorem dModel_choose_269 : decode prog_14_method_88_code 269 = .ok (.iload 4, 2) := by decide +kernel
theorem dModel_choose_271 : decode prog_14_method_88_code 271 = .ok (.iload 5, 2) := by decide +kernel
theorem dModel_choose_273 : decode prog_14_method_88_code 273 = .ok (.iload 4, 2) := by decide +kernel
theorem dModel_choose_275 : decode prog_14_method_88_code 275 = .ok (.i2l, 1) := by decide +kernel
theorem dModel_choose_276 : decode prog_14_method_88_code 276 = .ok (.iload 5, 2) := by decide +kernel
theorem dModel_choose_278 : decode prog_14_method_88_code 278 = .ok (.i2l, 1) := by decide +kernel
theorem dModel_choose_279 : decode prog_14_method_88_code 279 = .ok (.aload_n 0, 1) := by decide +kernel
theorem dModel_choose_280 : decode prog_14_method_88_code 280 = .ok (.getfield 506, 3) := by decide +kernel
theorem dModel_choose_283 : decode prog_14_method_88_code 283 = .ok (.lmul, 1) := by decide +kernel
theorem dModel_choose_284 : decode prog_14_method_88_code 284 = .ok (.aload_n 0, 1) := by decide +kernel
theorem dModel_choose_285 : decode prog_14_method_88_code 285 = .ok (.getfield 409, 3) := by decide +kernel
theorem dModel_choose_288 : decode prog_14_method_88_code 288 = .ok (.i2l, 1) := by decide +kernel
theorem dModel_choose_289 : decode prog_14_method_88_code 289 = .ok (.lsub, 1) := by decide +kernel
theorem dModel_choose_290 : decode prog_14_method_88_code 290 = .ok (.lmul, 1) := by decide +kernel
theorem dModel_choose_291 : decode prog_14_method_88_code 291 = .ok (.invokevirtual 674, 3) := by decide +kernel
theorem dModel_choose_294 : decode prog_14_method_88_code 294 = .ok (.iinc 2 1, 3) := by decide +kernel
theorem dModel_choose_297 : decode prog_14_method_88_code 297 = .ok (.goto (-97), 3) := by decide +kernel
theorem dModel_choose_300 : decode prog_14_method_88_code 300 = .ok (.iconst 0, 1) := by decide +kernel
theorem dModel_choose_301 : decode prog_14_method_88_code 301 = .ok (.istore_n 2, 1) := by decide +kernel
theorem dModel_choose_302 : decode prog_14_method_88_code 302 = .ok (.iload_n 2, 1) := by decide +kernel
theorem dModel_choose_303 : decode prog_14_method_88_code 303 = .ok (.aload_n 0, 1) := by decide +kernel
theorem dModel_choose_304 : decode prog_14_method_88_code 304 = .ok (.invokevirtual 624, 3) := by decide +kernel
theorem dModel_choose_307 : decode prog_14_method_88_code 307 = .ok (.if_icmp .ge 81, 3) := by decide +kernel
theorem dModel_choose_310 : decode prog_14_method_88_code 310 = .ok (.aload_n 0, 1) := by decide +kernel
theorem dModel_choose_311 : decode prog_14_method_88_code 311 = .ok (.getfield 584, 3) := by decide +kernel
theorem dModel_choose_314 : decode prog_14_method_88_code 314 = .ok (.iconst 3, 1) := by decide +kernel
theorem dModel_choose_315 : decode prog_14_method_88_code 315 = .ok (.iload_n 1, 1) := by decide +kernel
theorem dModel_choose_316 : decode prog_14_method_88_code 316 = .ok (.imul, 1) := by decide +kernel
theorem dModel_choose_317 : decode prog_14_method_88_code 317 = .ok (.iload_n 2, 1) := by decide +kernel
theorem dModel_choose_318 : decode prog_14_method_88_code 318 = .ok (.iadd, 1) := by decide +kernel
theorem dModel_choose_319 : decode prog_14_method_88_code 319 = .ok (.iaload, 1) := by decide +kernel
theorem dModel_choose_320 : decode prog_14_method_88_code 320 = .ok (.ifCond .ge 62, 3) := by decide +kernel
theorem dModel_choose_323 : decode prog_14_method_88_code 323 = .ok (.aload_n 0, 1) := by decide +kernel
theorem dModel_choose_324 : decode prog_14_method_88_code 324 = .ok (.getfield 578, 3) := by decide +kernel
theorem dModel_choose_327 : decode prog_14_method_88_code 327 = .ok (.iload_n 1, 1) := by decide +kernel
theorem dModel_choose_328 : decode prog_14_method_88_code 328 = .ok (.laload, 1) := by decide +kernel
theorem dModel_choose_329 : decode prog_14_method_88_code 329 = .ok (.aload_n 0, 1) := by decide +kernel
theorem dModel_choose_330 : decode prog_14_method_88_code 330 = .ok (.getfield 406, 3) := by decide +kernel
theorem dModel_choose_333 : decode prog_14_method_88_code 333 = .ok (.i2l, 1) := by decide +kernel
theorem dModel_choose_334 : decode prog_14_method_88_code 334 = .ok (.lcmp, 1) := by decide +kernel
theorem dModel_choose_335 : decode prog_14_method_88_code 335 = .ok (.ifCond .ge 6, 3) := by decide +kernel
theorem dModel_choose_338 : decode prog_14_method_88_code 338 = .ok (.goto 44, 3) := by decide +kernel
theorem dModel_choose_341 : decode prog_14_method_88_code 341 = .ok (.aload_n 0, 1) := by decide +kernel
theorem dModel_choose_342 : decode prog_14_method_88_code 342 = .ok (.iconst 3, 1) := by decide +kernel
theorem dModel_choose_343 : decode prog_14_method_88_code 343 = .ok (.iload_n 2, 1) := by decide +kernel
theorem dModel_choose_344 : decode prog_14_method_88_code 344 = .ok (.iconst (-1), 1) := by decide +kernel
theorem dModel_choose_345 : decode prog_14_method_88_code 345 = .ok (.iconst 1, 1) := by decide +kernel
theorem dModel_choose_346 : decode prog_14_method_88_code 346 = .ok (.iconst 0, 1) := by decide +kernel
theorem dModel_choose_347 : decode prog_14_method_88_code 347 = .ok (.ldc2_w 678, 3) := by decide +kernel
theorem dModel_choose_350 : decode prog_14_method_88_code 350 = .ok (.aload_n 0, 1) := by decide +kernel
theorem dModel_choose_351 : decode prog_14_method_88_code 351 = .ok (.iload_n 2, 1) := by decide +kernel
theorem dModel_choose_352 : decode prog_14_method_88_code 352 = .ok (.iconst 0, 1) := by decide +kernel
theorem dModel_choose_353 : decode prog_14_method_88_code 353 = .ok (.invokevirtual 671, 3) := by decide +kernel
theorem dModel_choose_356 : decode prog_14_method_88_code 356 = .ok (.i2l, 1) := by decide +kernel
theorem dModel_choose_357 : decode prog_14_method_88_code 357 = .ok (.aload_n 0, 1) := by decide +kernel
theorem dModel_choose_358 : decode prog_14_method_88_code 358 = .ok (.getfield 506, 3) := by decide +kernel
theorem dModel_choose_361 : decode prog_14_method_88_code 361 = .ok (.lmul, 1) := by decide +kernel
theorem dModel_choose_362 : decode prog_14_method_88_code 362 = .ok (.aload_n 0, 1) := by decide +kernel
theorem dModel_choose_363 : decode prog_14_method_88_code 363 = .ok (.getfield 409, 3) := by decide +kernel
theorem dModel_choose_366 : decode prog_14_method_88_code 366 = .ok (.i2l, 1) := by decide +kernel
theorem dModel_choose_367 : decode prog_14_method_88_code 367 = .ok (.lsub, 1) := by decide +kernel
theorem dModel_choose_368 : decode prog_14_method_88_code 368 = .ok (.lmul, 1) := by decide +kernel
theorem dModel_choose_369 : decode prog_14_method_88_code 369 = .ok (.aload_n 0, 1) := by decide +kernel
theorem dModel_choose_370 : decode prog_14_method_88_code 370 = .ok (.getfield 406, 3) := by decide +kernel
theorem dModel_choose_373 : decode prog_14_method_88_code 373 = .ok (.i2l, 1) := by decide +kernel
theorem dModel_choose_374 : decode prog_14_method_88_code 374 = .ok (.lsub, 1) := by decide +kernel
theorem dModel_choose_375 : decode prog_14_method_88_code 375 = .ok (.ldc2_w 678, 3) := by decide +kernel
theorem dModel_choose_378 : decode prog_14_method_88_code 378 = .ok (.ldiv, 1) := by decide +kernel
theorem dModel_choose_379 : decode prog_14_method_88_code 379 = .ok (.invokevirtual 674, 3) := by decide +kernel
theorem dModel_choose_382 : decode prog_14_method_88_code 382 = .ok (.iinc 2 1, 3) := by decide +kernel
theorem dModel_choose_385 : decode prog_14_method_88_code 385 = .ok (.goto (-83), 3) := by decide +kernel
theorem dModel_choose_388 : decode prog_14_method_88_code 388 = .ok (.aload_n 0, 1) := by decide +kernel
theorem dModel_choose_389 : decode prog_14_method_88_code 389 = .ok (.getfield 588, 3) := by decide +kernel
theorem dModel_choose_392 : decode prog_14_method_88_code 392 = .ok (.ifCond .le 62, 3) := by decide +kernel
theorem dModel_choose_395 : decode prog_14_method_88_code 395 = .ok (.aload_n 0, 1) := by decide +kernel
theorem dModel_choose_396 : decode prog_14_method_88_code 396 = .ok (.aload_n 0, 1) := by decide +kernel
theorem dModel_choose_397 : decode prog_14_method_88_code 397 = .ok (.getfield 400, 3) := by decide +kernel
theorem dModel_choose_400 : decode prog_14_method_88_code 400 = .ok (.aload_n 0, 1) := by decide +kernel
theorem dModel_choose_401 : decode prog_14_method_88_code 401 = .ok (.getfield 680, 3) := by decide +kernel
theorem dModel_choose_404 : decode prog_14_method_88_code 404 = .ok (.bipush 10, 2) := by decide +kernel
theorem dModel_choose_406 : decode prog_14_method_88_code 406 = .ok (.idiv, 1) := by decide +kernel
theorem dModel_choose_407 : decode prog_14_method_88_code 407 = .ok (.i2l, 1) := by decide +kernel
theorem dModel_choose_408 : decode prog_14_method_88_code 408 = .ok (.invokestatic 651, 3) := by decide +kernel
theorem dModel_choose_411 : decode prog_14_method_88_code 411 = .ok (.aload_n 0, 1) := by decide +kernel
theorem dModel_choose_412 : decode prog_14_method_88_code 412 = .ok (.getfield 578, 3) := by decide +kernel
theorem dModel_choose_415 : decode prog_14_method_88_code 415 = .ok (.iload_n 1, 1) := by decide +kernel
theorem dModel_choose_416 : decode prog_14_method_88_code 416 = .ok (.laload, 1) := by decide +kernel
theorem dModel_choose_417 : decode prog_14_method_88_code 417 = .ok (.bipush 10, 2) := by decide +kernel
theorem dModel_choose_419 : decode prog_14_method_88_code 419 = .ok (.aload_n 0, 1) := by decide +kernel
theorem dModel_choose_420 : decode prog_14_method_88_code 420 = .ok (.getfield 588, 3) := by decide +kernel
theorem dModel_choose_423 : decode prog_14_method_88_code 423 = .ok (.imul, 1) := by decide +kernel
theorem dModel_choose_424 : decode prog_14_method_88_code 424 = .ok (.invokevirtual 667, 3) := by decide +kernel
theorem dModel_choose_427 : decode prog_14_method_88_code 427 = .ok (.istore_n 2, 1) := by decide +kernel
theorem dModel_choose_428 : decode prog_14_method_88_code 428 = .ok (.aload_n 0, 1) := by decide +kernel
theorem dModel_choose_429 : decode prog_14_method_88_code 429 = .ok (.iconst 4, 1) := by decide +kernel
theorem dModel_choose_430 : decode prog_14_method_88_code 430 = .ok (.iconst (-1), 1) := by decide +kernel
theorem dModel_choose_431 : decode prog_14_method_88_code 431 = .ok (.iconst (-1), 1) := by decide +kernel
theorem dModel_choose_432 : decode prog_14_method_88_code 432 = .ok (.iload_n 2, 1) := by decide +kernel
theorem dModel_choose_433 : decode prog_14_method_88_code 433 = .ok (.iconst 0, 1) := by decide +kernel
theorem dModel_choose_434 : decode prog_14_method_88_code 434 = .ok (.iload_n 2, 1) := by decide +kernel
theorem dModel_choose_435 : decode prog_14_method_88_code 435 = .ok (.i2l, 1) := by decide +kernel
theorem dModel_choose_436 : decode prog_14_method_88_code 436 = .ok (.ldc2_w 683, 3) := by decide +kernel
theorem dModel_choose_439 : decode prog_14_method_88_code 439 = .ok (.lmul, 1) := by decide +kernel
theorem dModel_choose_440 : decode prog_14_method_88_code 440 = .ok (.aload_n 0, 1) := by decide +kernel
theorem dModel_choose_441 : decode prog_14_method_88_code 441 = .ok (.getfield 506, 3) := by decide +kernel
theorem dModel_choose_444 : decode prog_14_method_88_code 444 = .ok (.aload_n 0, 1) := by decide +kernel
theorem dModel_choose_445 : decode prog_14_method_88_code 445 = .ok (.getfield 588, 3) := by decide +kernel
theorem dModel_choose_448 : decode prog_14_method_88_code 448 = .ok (.i2l, 1) := by decide +kernel
theorem dModel_choose_449 : decode prog_14_method_88_code 449 = .ok (.lsub, 1) := by decide +kernel
theorem dModel_choose_450 : decode prog_14_method_88_code 450 = .ok (.lmul, 1) := by decide +kernel
theorem dModel_choose_451 : decode prog_14_method_88_code 451 = .ok (.invokevirtual 674, 3) := by decide +kernel
theorem dModel_choose_454 : decode prog_14_method_88_code 454 = .ok (.return_, 1) := by decide +kernel
theorem dModel_act_0 : decode prog_14_method_89_code 0 = .ok (.aload_n 0, 1) := by decide +kernel
theorem dModel_act_1 : decode prog_14_method_89_code 1 = .ok (.iload_n 1, 1) := by decide +kernel
theorem dModel_act_2 : decode prog_14_method_89_code 2 = .ok (.invokevirtual 685, 3) := by decide +kernel
theorem dModel_act_5 : decode prog_14_method_89_code 5 = .ok (.aload_n 0, 1) := by decide +kernel
theorem dModel_act_6 : decode prog_14_method_89_code 6 = .ok (.getfield 688, 3) := by decide +kernel
theorem dModel_act_9 : decode prog_14_method_89_code 9 = .ok (.iload_n 1, 1) := by decide +kernel
theorem dModel_act_10 : decode prog_14_method_89_code 10 = .ok (.aload_n 0, 1) := by decide +kernel
theorem dModel_act_11 : decode prog_14_method_89_code 11 = .ok (.getfield 636, 3) := by decide +kernel
theorem dModel_act_14 : decode prog_14_method_89_code 14 = .ok (.iastore, 1) := by decide +kernel
theorem dModel_act_15 : decode prog_14_method_89_code 15 = .ok (.aload_n 0, 1) := by decide +kernel
theorem dModel_act_16 : decode prog_14_method_89_code 16 = .ok (.getfield 691, 3) := by decide +kernel
theorem dModel_act_19 : decode prog_14_method_89_code 19 = .ok (.iload_n 1, 1) := by decide +kernel
theorem dModel_act_20 : decode prog_14_method_89_code 20 = .ok (.aload_n 0, 1) := by decide +kernel
theorem dModel_act_21 : decode prog_14_method_89_code 21 = .ok (.getfield 633, 3) := by decide +kernel
theorem dModel_act_24 : decode prog_14_method_89_code 24 = .ok (.lastore, 1) := by decide +kernel
theorem dModel_act_25 : decode prog_14_method_89_code 25 = .ok (.aload_n 0, 1) := by decide +kernel
theorem dModel_act_26 : decode prog_14_method_89_code 26 = .ok (.getfield 636, 3) := by decide +kernel
theorem dModel_act_29 : decode prog_14_method_89_code 29 = .ok (.tableswitch 330 1 4 #[31, 149, 211, 245], 31) := by decide +kernel
theorem dModel_act_60 : decode prog_14_method_89_code 60 = .ok (.aload_n 0, 1) := by decide +kernel
theorem dModel_act_61 : decode prog_14_method_89_code 61 = .ok (.getfield 269, 3) := by decide +kernel
theorem dModel_act_64 : decode prog_14_method_89_code 64 = .ok (.bipush 16, 2) := by decide +kernel
theorem dModel_act_66 : decode prog_14_method_89_code 66 = .ok (.aload_n 0, 1) := by decide +kernel
theorem dModel_act_67 : decode prog_14_method_89_code 67 = .ok (.aload_n 0, 1) := by decide +kernel
theorem dModel_act_68 : decode prog_14_method_89_code 68 = .ok (.getfield 642, 3) := by decide +kernel
theorem dModel_act_71 : decode prog_14_method_89_code 71 = .ok (.invokevirtual 494, 3) := by decide +kernel
theorem dModel_act_74 : decode prog_14_method_89_code 74 = .ok (.imul, 1) := by decide +kernel
theorem dModel_act_75 : decode prog_14_method_89_code 75 = .ok (.aload_n 0, 1) := by decide +kernel
theorem dModel_act_76 : decode prog_14_method_89_code 76 = .ok (.aload_n 0, 1) := by decide +kernel
theorem dModel_act_77 : decode prog_14_method_89_code 77 = .ok (.getfield 639, 3) := by decide +kernel
theorem dModel_act_80 : decode prog_14_method_89_code 80 = .ok (.invokevirtual 661, 3) := by decide +kernel
theorem dModel_act_83 : decode prog_14_method_89_code 83 = .ok (.iadd, 1) := by decide +kernel
theorem dModel_act_84 : decode prog_14_method_89_code 84 = .ok (.iaload, 1) := by decide +kernel
theorem dModel_act_85 : decode prog_14_method_89_code 85 = .ok (.istore_n 2, 1) := by decide +kernel
theorem dModel_act_86 : decode prog_14_method_89_code 86 = .ok (.aload_n 0, 1) := by decide +kernel
theorem dModel_act_87 : decode prog_14_method_89_code 87 = .ok (.getfield 578, 3) := by decide +kernel
theorem dModel_act_90 : decode prog_14_method_89_code 90 = .ok (.iload_n 1, 1) := by decide +kernel
theorem dModel_act_91 : decode prog_14_method_89_code 91 = .ok (.dup2, 1) := by decide +kernel
theorem dModel_act_92 : decode prog_14_method_89_code 92 = .ok (.laload, 1) := by decide +kernel
theorem dModel_act_93 : decode prog_14_method_89_code 93 = .ok (.aload_n 0, 1) := by decide +kernel
theorem dModel_act_94 : decode prog_14_method_89_code 94 = .ok (.getfield 645, 3) := by decide +kernel
theorem dModel_act_97 : decode prog_14_method_89_code 97 = .ok (.i2l, 1) := by decide +kernel
theorem dModel_act_98 : decode prog_14_method_89_code 98 = .ok (.bipush 10, 2) := by decide +kernel
theorem dModel_act_100 : decode prog_14_method_89_code 100 = .ok (.aload_n 0, 1) := by decide +kernel
theorem dModel_act_101 : decode prog_14_method_89_code 101 = .ok (.getfield 266, 3) := by decide +kernel
theorem dModel_act_104 : decode prog_14_method_89_code 104 = .ok (.iconst 5, 1) := by decide +kernel
theorem dModel_act_105 : decode prog_14_method_89_code 105 = .ok (.aload_n 0, 1) := by decide +kernel
theorem dModel_act_106 : decode prog_14_method_89_code 106 = .ok (.getfield 147, 3) := by decide +kernel
theorem dModel_act_109 : decode prog_14_method_89_code 109 = .ok (.imul, 1) := by decide +kernel
theorem dModel_act_110 : decode prog_14_method_89_code 110 = .ok (.aload_n 0, 1) := by decide +kernel
theorem dModel_act_111 : decode prog_14_method_89_code 111 = .ok (.getfield 642, 3) := by decide +kernel
theorem dModel_act_114 : decode prog_14_method_89_code 114 = .ok (.iadd, 1) := by decide +kernel
theorem dModel_act_115 : decode prog_14_method_89_code 115 = .ok (.iaload, 1) := by decide +kernel
theorem dModel_act_116 : decode prog_14_method_89_code 116 = .ok (.imul, 1) := by decide +kernel
theorem dModel_act_117 : decode prog_14_method_89_code 117 = .ok (.iload_n 2, 1) := by decide +kernel
theorem dModel_act_118 : decode prog_14_method_89_code 118 = .ok (.aload_n 0, 1) := by decide +kernel
theorem dModel_act_119 : decode prog_14_method_89_code 119 = .ok (.getfield 397, 3) := by decide +kernel
theorem dModel_act_122 : decode prog_14_method_89_code 122 = .ok (.imul, 1) := by decide +kernel
theorem dModel_act_123 : decode prog_14_method_89_code 123 = .ok (.iadd, 1) := by decide +kernel
theorem dModel_act_124 : decode prog_14_method_89_code 124 = .ok (.i2l, 1) := by decide +kernel
theorem dModel_act_125 : decode prog_14_method_89_code 125 = .ok (.lmul, 1) := by decide +kernel
theorem dModel_act_126 : decode prog_14_method_89_code 126 = .ok (.lsub, 1) := by decide +kernel
theorem dModel_act_127 : decode prog_14_method_89_code 127 = .ok (.lastore, 1) := by decide +kernel
theorem dModel_act_128 : decode prog_14_method_89_code 128 = .ok (.aload_n 0, 1) := by decide +kernel
theorem dModel_act_129 : decode prog_14_method_89_code 129 = .ok (.getfield 664, 3) := by decide +kernel
theorem dModel_act_132 : decode prog_14_method_89_code 132 = .ok (.aload_n 0, 1) := by decide +kernel
theorem dModel_act_133 : decode prog_14_method_89_code 133 = .ok (.getfield 642, 3) := by decide +kernel
theorem dModel_act_136 : decode prog_14_method_89_code 136 = .ok (.dup2, 1) := by decide +kernel
theorem dModel_act_137 : decode prog_14_method_89_code 137 = .ok (.iaload, 1) := by decide +kernel
theorem dModel_act_138 : decode prog_14_method_89_code 138 = .ok (.bipush 10, 2) := by decide +kernel
theorem dModel_act_140 : decode prog_14_method_89_code 140 = .ok (.aload_n 0, 1) := by decide +kernel
theorem dModel_act_141 : decode prog_14_method_89_code 141 = .ok (.getfield 645, 3) := by decide +kernel
theorem dModel_act_144 : decode prog_14_method_89_code 144 = .ok (.imul, 1) := by decide +kernel
theorem dModel_act_145 : decode prog_14_method_89_code 145 = .ok (.isub, 1) := by decide +kernel
theorem dModel_act_146 : decode prog_14_method_89_code 146 = .ok (.iastore, 1) := by decide +kernel
theorem dModel_act_147 : decode prog_14_method_89_code 147 = .ok (.aload_n 0, 1) := by decide +kernel
theorem dModel_act_148 : decode prog_14_method_89_code 148 = .ok (.iload_n 1, 1) := by decide +kernel
theorem dModel_act_149 : decode prog_14_method_89_code 149 = .ok (.iload_n 2, 1) := by decide +kernel
theorem dModel_act_150 : decode prog_14_method_89_code 150 = .ok (.iconst 0, 1) := by decide +kernel
theorem dModel_act_151 : decode prog_14_method_89_code 151 = .ok (.aload_n 0, 1) := by decide +kernel
theorem dModel_act_152 : decode prog_14_method_89_code 152 = .ok (.getfield 639, 3) := by decide +kernel
theorem dModel_act_155 : decode prog_14_method_89_code 155 = .ok (.aload_n 0, 1) := by decide +kernel
theorem dModel_act_156 : decode prog_14_method_89_code 156 = .ok (.getfield 645, 3) := by decide +kernel
theorem dModel_act_159 : decode prog_14_method_89_code 159 = .ok (.aload_n 0, 1) := by decide +kernel
theorem dModel_act_160 : decode prog_14_method_89_code 160 = .ok (.getfield 645, 3) := by decide +kernel
theorem dModel_act_163 : decode prog_14_method_89_code 163 = .ok (.aload_n 0, 1) := by decide +kernel
theorem dModel_act_164 : decode prog_14_method_89_code 164 = .ok (.getfield 648, 3) := by decide +kernel
theorem dModel_act_167 : decode prog_14_method_89_code 167 = .ok (.imul, 1) := by decide +kernel
theorem dModel_act_168 : decode prog_14_method_89_code 168 = .ok (.aload_n 0, 1) := by decide +kernel
theorem dModel_act_169 : decode prog_14_method_89_code 169 = .ok (.getfield 658, 3) := by decide +kernel
theorem dModel_act_172 : decode prog_14_method_89_code 172 = .ok (.invokevirtual 620, 3) := by decide +kernel
theorem dModel_act_175 : decode prog_14_method_89_code 175 = .ok (.goto 184, 3) := by decide +kernel
theorem dModel_act_178 : decode prog_14_method_89_code 178 = .ok (.aload_n 0, 1) := by decide +kernel
theorem dModel_act_179 : decode prog_14_method_89_code 179 = .ok (.getfield 578, 3) := by decide +kernel
theorem dModel_act_182 : decode prog_14_method_89_code 182 = .ok (.iload_n 1, 1) := by decide +kernel
theorem dModel_act_183 : decode prog_14_method_89_code 183 = .ok (.dup2, 1) := by decide +kernel
theorem dModel_act_184 : decode prog_14_method_89_code 184 = .ok (.laload, 1) := by decide +kernel
theorem dModel_act_185 : decode prog_14_method_89_code 185 = .ok (.aload_n 0, 1) := by decide +kernel
theorem dModel_act_186 : decode prog_14_method_89_code 186 = .ok (.getfield 645, 3) := by decide +kernel
theorem dModel_act_189 : decode prog_14_method_89_code 189 = .ok (.i2l, 1) := by decide +kernel
theorem dModel_act_190 : decode prog_14_method_89_code 190 = .ok (.aload_n 0, 1) := by decide +kernel
theorem dModel_act_191 : decode prog_14_method_89_code 191 = .ok (.getfield 409, 3) := by decide +kernel
theorem dModel_act_194 : decode prog_14_method_89_code 194 = .ok (.i2l, 1) := by decide +kernel
theorem dModel_act_195 : decode prog_14_method_89_code 195 = .ok (.lmul, 1) := by decide +kernel
theorem dModel_act_196 : decode prog_14_method_89_code 196 = .ok (.lsub, 1) := by decide +kernel
theorem dModel_act_197 : decode prog_14_method_89_code 197 = .ok (.lastore, 1) := by decide +kernel
theorem dModel_act_198 : decode prog_14_method_89_code 198 = .ok (.aload_n 0, 1) := by decide +kernel
theorem dModel_act_199 : decode prog_14_method_89_code 199 = .ok (.getfield 513, 3) := by decide +kernel
theorem dModel_act_202 : decode prog_14_method_89_code 202 = .ok (.aload_n 0, 1) := by decide +kernel
theorem dModel_act_203 : decode prog_14_method_89_code 203 = .ok (.getfield 639, 3) := by decide +kernel
theorem dModel_act_206 : decode prog_14_method_89_code 206 = .ok (.dup2, 1) := by decide +kernel
theorem dModel_act_207 : decode prog_14_method_89_code 207 = .ok (.iaload, 1) := by decide +kernel
theorem dModel_act_208 : decode prog_14_method_89_code 208 = .ok (.bipush 10, 2) := by decide +kernel
theorem dModel_act_210 : decode prog_14_method_89_code 210 = .ok (.aload_n 0, 1) := by decide +kernel
theorem dModel_act_211 : decode prog_14_method_89_code 211 = .ok (.getfield 645, 3) := by decide +kernel
theorem dModel_act_214 : decode prog_14_method_89_code 214 = .ok (.imul, 1) := by decide +kernel
theorem dModel_act_215 : decode prog_14_method_89_code 215 = .ok (.iadd, 1) := by decide +kernel
theorem dModel_act_216 : decode prog_14_method_89_code 216 = .ok (.iastore, 1) := by decide +kernel
theorem dModel_act_217 : decode prog_14_method_89_code 217 = .ok (.aload_n 0, 1) := by decide +kernel
theorem dModel_act_218 : decode prog_14_method_89_code 218 = .ok (.iload_n 1, 1) := by decide +kernel
theorem dModel_act_219 : decode prog_14_method_89_code 219 = .ok (.aload_n 0, 1) := by decide +kernel
theorem dModel_act_220 : decode prog_14_method_89_code 220 = .ok (.getfield 658, 3) := by decide +kernel
theorem dModel_act_223 : decode prog_14_method_89_code 223 = .ok (.aload_n 0, 1) := by decide +kernel
theorem dModel_act_224 : decode prog_14_method_89_code 224 = .ok (.getfield 645, 3) := by decide +kernel
theorem dModel_act_227 : decode prog_14_method_89_code 227 = .ok (.aload_n 0, 1) := by decide +kernel
theorem dModel_act_228 : decode prog_14_method_89_code 228 = .ok (.getfield 648, 3) := by decide +kernel
theorem dModel_act_231 : decode prog_14_method_89_code 231 = .ok (.imul, 1) := by decide +kernel
theorem dModel_act_232 : decode prog_14_method_89_code 232 = .ok (.iconst 0, 1) := by decide +kernel
theorem dModel_act_233 : decode prog_14_method_89_code 233 = .ok (.iconst 0, 1) := by decide +kernel
theorem dModel_act_234 : decode prog_14_method_89_code 234 = .ok (.invokevirtual 600, 3) := by decide +kernel
theorem dModel_act_237 : decode prog_14_method_89_code 237 = .ok (.goto 122, 3) := by decide +kernel
theorem dModel_act_240 : decode prog_14_method_89_code 240 = .ok (.aload_n 0, 1) := by decide +kernel
theorem dModel_act_241 : decode prog_14_method_89_code 241 = .ok (.getfield 578, 3) := by decide +kernel
theorem dModel_act_244 : decode prog_14_method_89_code 244 = .ok (.iload_n 1, 1) := by decide +kernel
theorem dModel_act_245 : decode prog_14_method_89_code 245 = .ok (.dup2, 1) := by decide +kernel
theorem dModel_act_246 : decode prog_14_method_89_code 246 = .ok (.laload, 1) := by decide +kernel
theorem dModel_act_247 : decode prog_14_method_89_code 247 = .ok (.aload_n 0, 1) := by decide +kernel
theorem dModel_act_248 : decode prog_14_method_89_code 248 = .ok (.getfield 406, 3) := by decide +kernel
theorem dModel_act_251 : decode prog_14_method_89_code 251 = .ok (.i2l, 1) := by decide +kernel
theorem dModel_act_252 : decode prog_14_method_89_code 252 = .ok (.lsub, 1) := by decide +kernel
theorem dModel_act_253 : decode prog_14_method_89_code 253 = .ok (.lastore, 1) := by decide +kernel
theorem dModel_act_254 : decode prog_14_method_89_code 254 = .ok (.aload_n 0, 1) := by decide +kernel
theorem dModel_act_255 : decode prog_14_method_89_code 255 = .ok (.getfield 584, 3) := by decide +kernel
theorem dModel_act_258 : decode prog_14_method_89_code 258 = .ok (.iconst 3, 1) := by decide +kernel
theorem dModel_act_259 : decode prog_14_method_89_code 259 = .ok (.iload_n 1, 1) := by decide +kernel
theorem dModel_act_260 : decode prog_14_method_89_code 260 = .ok (.imul, 1) := by decide +kernel
theorem dModel_act_261 : decode prog_14_method_89_code 261 = .ok (.aload_n 0, 1) := by decide +kernel
theorem dModel_act_262 : decode prog_14_method_89_code 262 = .ok (.getfield 639, 3) := by decide +kernel
theorem dModel_act_265 : decode prog_14_method_89_code 265 = .ok (.iadd, 1) := by decide +kernel
theorem dModel_act_266 : decode prog_14_method_89_code 266 = .ok (.aload_n 0, 1) := by decide +kernel
theorem dModel_act_267 : decode prog_14_method_89_code 267 = .ok (.getfield 348, 3) := by decide +kernel
theorem dModel_act_270 : decode prog_14_method_89_code 270 = .ok (.iastore, 1) := by decide +kernel
theorem dModel_act_271 : decode prog_14_method_89_code 271 = .ok (.goto 88, 3) := by decide +kernel
theorem dModel_act_274 : decode prog_14_method_89_code 274 = .ok (.aload_n 0, 1) := by decide +kernel
theorem dModel_act_275 : decode prog_14_method_89_code 275 = .ok (.getfield 578, 3) := by decide +kernel
theorem dModel_act_278 : decode prog_14_method_89_code 278 = .ok (.iload_n 1, 1) := by decide +kernel
theorem dModel_act_279 : decode prog_14_method_89_code 279 = .ok (.dup2, 1) := by decide +kernel
theorem dModel_act_280 : decode prog_14_method_89_code 280 = .ok (.laload, 1) := by decide +kernel
theorem dModel_act_281 : decode prog_14_method_89_code 281 = .ok (.ldc2_w 683, 3) := by decide +kernel
theorem dModel_act_284 : decode prog_14_method_89_code 284 = .ok (.aload_n 0, 1) := by decide +kernel
theorem dModel_act_285 : decode prog_14_method_89_code 285 = .ok (.getfield 645, 3) := by decide +kernel
theorem dModel_act_288 : decode prog_14_method_89_code 288 = .ok (.i2l, 1) := by decide +kernel
theorem dModel_act_289 : decode prog_14_method_89_code 289 = .ok (.lmul, 1) := by decide +kernel
theorem dModel_act_290 : decode prog_14_method_89_code 290 = .ok (.aload_n 0, 1) := by decide +kernel
theorem dModel_act_291 : decode prog_14_method_89_code 291 = .ok (.getfield 588, 3) := by decide +kernel
theorem dModel_act_294 : decode prog_14_method_89_code 294 = .ok (.i2l, 1) := by decide +kernel
theorem dModel_act_295 : decode prog_14_method_89_code 295 = .ok (.lmul, 1) := by decide +kernel
theorem dModel_act_296 : decode prog_14_method_89_code 296 = .ok (.lsub, 1) := by decide +kernel
theorem dModel_act_297 : decode prog_14_method_89_code 297 = .ok (.lastore, 1) := by decide +kernel
theorem dModel_act_298 : decode prog_14_method_89_code 298 = .ok (.aload_n 0, 1) := by decide +kernel
theorem dModel_act_299 : decode prog_14_method_89_code 299 = .ok (.dup, 1) := by decide +kernel
theorem dModel_act_300 : decode prog_14_method_89_code 300 = .ok (.getfield 581, 3) := by decide +kernel
theorem dModel_act_303 : decode prog_14_method_89_code 303 = .ok (.ldc2_w 683, 3) := by decide +kernel
theorem dModel_act_306 : decode prog_14_method_89_code 306 = .ok (.aload_n 0, 1) := by decide +kernel
theorem dModel_act_307 : decode prog_14_method_89_code 307 = .ok (.getfield 645, 3) := by decide +kernel
theorem dModel_act_310 : decode prog_14_method_89_code 310 = .ok (.i2l, 1) := by decide +kernel
theorem dModel_act_311 : decode prog_14_method_89_code 311 = .ok (.lmul, 1) := by decide +kernel
theorem dModel_act_312 : decode prog_14_method_89_code 312 = .ok (.aload_n 0, 1) := by decide +kernel
theorem dModel_act_313 : decode prog_14_method_89_code 313 = .ok (.getfield 588, 3) := by decide +kernel
theorem dModel_act_316 : decode prog_14_method_89_code 316 = .ok (.i2l, 1) := by decide +kernel
theorem dModel_act_317 : decode prog_14_method_89_code 317 = .ok (.lmul, 1) := by decide +kernel
theorem dModel_act_318 : decode prog_14_method_89_code 318 = .ok (.ladd, 1) := by decide +kernel
theorem dModel_act_319 : decode prog_14_method_89_code 319 = .ok (.putfield 581, 3) := by decide +kernel
theorem dModel_act_322 : decode prog_14_method_89_code 322 = .ok (.aload_n 0, 1) := by decide +kernel
theorem dModel_act_323 : decode prog_14_method_89_code 323 = .ok (.dup, 1) := by decide +kernel
theorem dModel_act_324 : decode prog_14_method_89_code 324 = .ok (.getfield 680, 3) := by decide +kernel
theorem dModel_act_327 : decode prog_14_method_89_code 327 = .ok (.bipush 10, 2) := by decide +kernel
theorem dModel_act_329 : decode prog_14_method_89_code 329 = .ok (.aload_n 0, 1) := by decide +kernel
theorem dModel_act_330 : decode prog_14_method_89_code 330 = .ok (.getfield 645, 3) := by decide +kernel
theorem dModel_act_333 : decode prog_14_method_89_code 333 = .ok (.imul, 1) := by decide +kernel
theorem dModel_act_334 : decode prog_14_method_89_code 334 = .ok (.isub, 1) := by decide +kernel
theorem dModel_act_335 : decode prog_14_method_89_code 335 = .ok (.putfield 680, 3) := by decide +kernel
theorem dModel_act_338 : decode prog_14_method_89_code 338 = .ok (.aload_n 0, 1) := by decide +kernel
theorem dModel_act_339 : decode prog_14_method_89_code 339 = .ok (.iload_n 1, 1) := by decide +kernel
theorem dModel_act_340 : decode prog_14_method_89_code 340 = .ok (.aload_n 0, 1) := by decide +kernel
theorem dModel_act_341 : decode prog_14_method_89_code 341 = .ok (.getfield 658, 3) := by decide +kernel
theorem dModel_act_344 : decode prog_14_method_89_code 344 = .ok (.bipush 10, 2) := by decide +kernel
theorem dModel_act_346 : decode prog_14_method_89_code 346 = .ok (.aload_n 0, 1) := by decide +kernel
theorem dModel_act_347 : decode prog_14_method_89_code 347 = .ok (.getfield 645, 3) := by decide +kernel
theorem dModel_act_350 : decode prog_14_method_89_code 350 = .ok (.imul, 1) := by decide +kernel
theorem dModel_act_351 : decode prog_14_method_89_code 351 = .ok (.iconst 0, 1) := by decide +kernel
theorem dModel_act_352 : decode prog_14_method_89_code 352 = .ok (.iconst 1, 1) := by decide +kernel
theorem dModel_act_353 : decode prog_14_method_89_code 353 = .ok (.invokevirtual 600, 3) := by decide +kernel
theorem dModel_act_356 : decode prog_14_method_89_code 356 = .ok (.goto 3, 3) := by decide +kernel
theorem dModel_act_359 : decode prog_14_method_89_code 359 = .ok (.return_, 1) := by decide +kernel
theorem dModel_fillTowns_0 : decode prog_14_method_90_code 0 = .ok (.iconst 0, 1) := by decide +kernel
theorem dModel_fillTowns_1 : decode prog_14_method_90_code 1 = .ok (.istore_n 1, 1) := by decide +kernel
theorem dModel_fillTowns_2 : decode prog_14_method_90_code 2 = .ok (.iload_n 1, 1) := by decide +kernel
theorem dModel_fillTowns_3 : decode prog_14_method_90_code 3 = .ok (.aload_n 0, 1) := by decide +kernel
theorem dModel_fillTowns_4 : decode prog_14_method_90_code 4 = .ok (.invokevirtual 488, 3) := by decide +kernel
theorem dModel_fillTowns_7 : decode prog_14_method_90_code 7 = .ok (.if_icmp .ge 28, 3) := by decide +kernel
theorem dModel_fillTowns_10 : decode prog_14_method_90_code 10 = .ok (.aload_n 0, 1) := by decide +kernel
theorem dModel_fillTowns_11 : decode prog_14_method_90_code 11 = .ok (.getfield 664, 3) := by decide +kernel
theorem dModel_fillTowns_14 : decode prog_14_method_90_code 14 = .ok (.iload_n 1, 1) := by decide +kernel
theorem dModel_fillTowns_15 : decode prog_14_method_90_code 15 = .ok (.aload_n 0, 1) := by decide +kernel
theorem dModel_fillTowns_16 : decode prog_14_method_90_code 16 = .ok (.getfield 263, 3) := by decide +kernel
theorem dModel_fillTowns_19 : decode prog_14_method_90_code 19 = .ok (.iconst 5, 1) := by decide +kernel
theorem dModel_fillTowns_20 : decode prog_14_method_90_code 20 = .ok (.aload_n 0, 1) := by decide +kernel
theorem dModel_fillTowns_21 : decode prog_14_method_90_code 21 = .ok (.getfield 147, 3) := by decide +kernel
theorem dModel_fillTowns_24 : decode prog_14_method_90_code 24 = .ok (.imul, 1) := by decide +kernel
theorem dModel_fillTowns_25 : decode prog_14_method_90_code 25 = .ok (.iload_n 1, 1) := by decide +kernel
theorem dModel_fillTowns_26 : decode prog_14_method_90_code 26 = .ok (.iadd, 1) := by decide +kernel
theorem dModel_fillTowns_27 : decode prog_14_method_90_code 27 = .ok (.iaload, 1) := by decide +kernel
theorem dModel_fillTowns_28 : decode prog_14_method_90_code 28 = .ok (.iastore, 1) := by decide +kernel
theorem dModel_fillTowns_29 : decode prog_14_method_90_code 29 = .ok (.iinc 1 1, 3) := by decide +kernel
theorem dModel_fillTowns_32 : decode prog_14_method_90_code 32 = .ok (.goto (-30), 3) := by decide +kernel
theorem dModel_fillTowns_35 : decode prog_14_method_90_code 35 = .ok (.aload_n 0, 1) := by decide +kernel
theorem dModel_fillTowns_36 : decode prog_14_method_90_code 36 = .ok (.aload_n 0, 1) := by decide +kernel
theorem dModel_fillTowns_37 : decode prog_14_method_90_code 37 = .ok (.getfield 591, 3) := by decide +kernel
theorem dModel_fillTowns_40 : decode prog_14_method_90_code 40 = .ok (.putfield 680, 3) := by decide +kernel
theorem dModel_fillTowns_43 : decode prog_14_method_90_code 43 = .ok (.return_, 1) := by decide +kernel
theorem dModel_smuggle_0 : decode prog_14_method_91_code 0 = .ok (.iconst 0, 1) := by decide +kernel
theorem dModel_smuggle_1 : decode prog_14_method_91_code 1 = .ok (.istore_n 1, 1) := by decide +kernel
theorem dModel_smuggle_2 : decode prog_14_method_91_code 2 = .ok (.iload_n 1, 1) := by decide +kernel
theorem dModel_smuggle_3 : decode prog_14_method_91_code 3 = .ok (.aload_n 0, 1) := by decide +kernel
theorem dModel_smuggle_4 : decode prog_14_method_91_code 4 = .ok (.invokevirtual 488, 3) := by decide +kernel
theorem dModel_smuggle_7 : decode prog_14_method_91_code 7 = .ok (.if_icmp .ge 16, 3) := by decide +kernel
theorem dModel_smuggle_10 : decode prog_14_method_91_code 10 = .ok (.aload_n 0, 1) := by decide +kernel
theorem dModel_smuggle_11 : decode prog_14_method_91_code 11 = .ok (.getfield 694, 3) := by decide +kernel
theorem dModel_smuggle_14 : decode prog_14_method_91_code 14 = .ok (.iload_n 1, 1) := by decide +kernel
theorem dModel_smuggle_15 : decode prog_14_method_91_code 15 = .ok (.iconst 0, 1) := by decide +kernel
theorem dModel_smuggle_16 : decode prog_14_method_91_code 16 = .ok (.iastore, 1) := by decide +kernel
theorem dModel_smuggle_17 : decode prog_14_method_91_code 17 = .ok (.iinc 1 1, 3) := by decide +kernel
theorem dModel_smuggle_20 : decode prog_14_method_91_code 20 = .ok (.goto (-18), 3) := by decide +kernel
theorem dModel_smuggle_23 : decode prog_14_method_91_code 23 = .ok (.iconst 0, 1) := by decide +kernel
theorem dModel_smuggle_24 : decode prog_14_method_91_code 24 = .ok (.istore_n 1, 1) := by decide +kernel
theorem dModel_smuggle_25 : decode prog_14_method_91_code 25 = .ok (.iload_n 1, 1) := by decide +kernel
theorem dModel_smuggle_26 : decode prog_14_method_91_code 26 = .ok (.aload_n 0, 1) := by decide +kernel
theorem dModel_smuggle_27 : decode prog_14_method_91_code 27 = .ok (.invokevirtual 488, 3) := by decide +kernel
theorem dModel_smuggle_30 : decode prog_14_method_91_code 30 = .ok (.if_icmp .ge 124, 3) := by decide +kernel
theorem dModel_smuggle_33 : decode prog_14_method_91_code 33 = .ok (.iload_n 1, 1) := by decide +kernel
theorem dModel_smuggle_34 : decode prog_14_method_91_code 34 = .ok (.iconst 1, 1) := by decide +kernel
theorem dModel_smuggle_35 : decode prog_14_method_91_code 35 = .ok (.iadd, 1) := by decide +kernel
theorem dModel_smuggle_36 : decode prog_14_method_91_code 36 = .ok (.istore_n 2, 1) := by decide +kernel
theorem dModel_smuggle_37 : decode prog_14_method_91_code 37 = .ok (.iload_n 2, 1) := by decide +kernel
theorem dModel_smuggle_38 : decode prog_14_method_91_code 38 = .ok (.aload_n 0, 1) := by decide +kernel
theorem dModel_smuggle_39 : decode prog_14_method_91_code 39 = .ok (.invokevirtual 488, 3) := by decide +kernel
theorem dModel_smuggle_42 : decode prog_14_method_91_code 42 = .ok (.if_icmp .ge 106, 3) := by decide +kernel
theorem dModel_smuggle_45 : decode prog_14_method_91_code 45 = .ok (.aload_n 0, 1) := by decide +kernel
theorem dModel_smuggle_46 : decode prog_14_method_91_code 46 = .ok (.getfield 269, 3) := by decide +kernel
theorem dModel_smuggle_49 : decode prog_14_method_91_code 49 = .ok (.bipush 16, 2) := by decide +kernel
theorem dModel_smuggle_51 : decode prog_14_method_91_code 51 = .ok (.aload_n 0, 1) := by decide +kernel
theorem dModel_smuggle_52 : decode prog_14_method_91_code 52 = .ok (.iload_n 1, 1) := by decide +kernel
theorem dModel_smuggle_53 : decode prog_14_method_91_code 53 = .ok (.invokevirtual 494, 3) := by decide +kernel
theorem dModel_smuggle_56 : decode prog_14_method_91_code 56 = .ok (.imul, 1) := by decide +kernel
theorem dModel_smuggle_57 : decode prog_14_method_91_code 57 = .ok (.aload_n 0, 1) := by decide +kernel
theorem dModel_smuggle_58 : decode prog_14_method_91_code 58 = .ok (.iload_n 2, 1) := by decide +kernel
theorem dModel_smuggle_59 : decode prog_14_method_91_code 59 = .ok (.invokevirtual 494, 3) := by decide +kernel
theorem dModel_smuggle_62 : decode prog_14_method_91_code 62 = .ok (.iadd, 1) := by decide +kernel
theorem dModel_smuggle_63 : decode prog_14_method_91_code 63 = .ok (.iaload, 1) := by decide +kernel
theorem dModel_smuggle_64 : decode prog_14_method_91_code 64 = .ok (.istore_n 3, 1) := by decide +kernel
theorem dModel_smuggle_65 : decode prog_14_method_91_code 65 = .ok (.aload_n 0, 1) := by decide +kernel
theorem dModel_smuggle_66 : decode prog_14_method_91_code 66 = .ok (.getfield 254, 3) := by decide +kernel
theorem dModel_smuggle_69 : decode prog_14_method_91_code 69 = .ok (.iconst 5, 1) := by decide +kernel
theorem dModel_smuggle_70 : decode prog_14_method_91_code 70 = .ok (.aload_n 0, 1) := by decide +kernel
theorem dModel_smuggle_71 : decode prog_14_method_91_code 71 = .ok (.getfield 147, 3) := by decide +kernel
theorem dModel_smuggle_74 : decode prog_14_method_91_code 74 = .ok (.imul, 1) := by decide +kernel
theorem dModel_smuggle_75 : decode prog_14_method_91_code 75 = .ok (.iload_n 1, 1) := by decide +kernel
theorem dModel_smuggle_76 : decode prog_14_method_91_code 76 = .ok (.iadd, 1) := by decide +kernel
theorem dModel_smuggle_77 : decode prog_14_method_91_code 77 = .ok (.iaload, 1) := by decide +kernel
theorem dModel_smuggle_78 : decode prog_14_method_91_code 78 = .ok (.aload_n 0, 1) := by decide +kernel
theorem dModel_smuggle_79 : decode prog_14_method_91_code 79 = .ok (.getfield 254, 3) := by decide +kernel
theorem dModel_smuggle_82 : decode prog_14_method_91_code 82 = .ok (.iconst 5, 1) := by decide +kernel
theorem dModel_smuggle_83 : decode prog_14_method_91_code 83 = .ok (.aload_n 0, 1) := by decide +kernel
theorem dModel_smuggle_84 : decode prog_14_method_91_code 84 = .ok (.getfield 147, 3) := by decide +kernel
theorem dModel_smuggle_87 : decode prog_14_method_91_code 87 = .ok (.imul, 1) := by decide +kernel
theorem dModel_smuggle_88 : decode prog_14_method_91_code 88 = .ok (.iload_n 2, 1) := by decide +kernel
theorem dModel_smuggle_89 : decode prog_14_method_91_code 89 = .ok (.iadd, 1) := by decide +kernel
theorem dModel_smuggle_90 : decode prog_14_method_91_code 90 = .ok (.iaload, 1) := by decide +kernel
theorem dModel_smuggle_91 : decode prog_14_method_91_code 91 = .ok (.if_icmp .eq 51, 3) := by decide +kernel
theorem dModel_smuggle_94 : decode prog_14_method_91_code 94 = .ok (.iload_n 3, 1) := by decide +kernel
theorem dModel_smuggle_95 : decode prog_14_method_91_code 95 = .ok (.ldc_w 272, 3) := by decide +kernel
theorem dModel_smuggle_98 : decode prog_14_method_91_code 98 = .ok (.if_icmp .lt 6, 3) := by decide +kernel
theorem dModel_smuggle_101 : decode prog_14_method_91_code 101 = .ok (.goto 41, 3) := by decide +kernel
theorem dModel_smuggle_104 : decode prog_14_method_91_code 104 = .ok (.aload_n 0, 1) := by decide +kernel
theorem dModel_smuggle_105 : decode prog_14_method_91_code 105 = .ok (.iload_n 2, 1) := by decide +kernel
theorem dModel_smuggle_106 : decode prog_14_method_91_code 106 = .ok (.invokevirtual 497, 3) := by decide +kernel
theorem dModel_smuggle_109 : decode prog_14_method_91_code 109 = .ok (.aload_n 0, 1) := by decide +kernel
theorem dModel_smuggle_110 : decode prog_14_method_91_code 110 = .ok (.iload_n 1, 1) := by decide +kernel
theorem dModel_smuggle_111 : decode prog_14_method_91_code 111 = .ok (.invokevirtual 497, 3) := by decide +kernel
theorem dModel_smuggle_114 : decode prog_14_method_91_code 114 = .ok (.isub, 1) := by decide +kernel
theorem dModel_smuggle_115 : decode prog_14_method_91_code 115 = .ok (.istore 4, 2) := by decide +kernel
theorem dModel_smuggle_117 : decode prog_14_method_91_code 117 = .ok (.iload 4, 2) := by decide +kernel
theorem dModel_smuggle_119 : decode prog_14_method_91_code 119 = .ok (.iload_n 3, 1) := by decide +kernel
theorem dModel_smuggle_120 : decode prog_14_method_91_code 120 = .ok (.if_icmp .le 9, 3) := by decide +kernel
theorem dModel_smuggle_123 : decode prog_14_method_91_code 123 = .ok (.aload_n 0, 1) := by decide +kernel
theorem dModel_smuggle_124 : decode prog_14_method_91_code 124 = .ok (.iload_n 1, 1) := by decide +kernel
theorem dModel_smuggle_125 : decode prog_14_method_91_code 125 = .ok (.iload_n 2, 1) := by decide +kernel
theorem dModel_smuggle_126 : decode prog_14_method_91_code 126 = .ok (.invokevirtual 697, 3) := by decide +kernel
theorem dModel_smuggle_129 : decode prog_14_method_91_code 129 = .ok (.iload 4, 2) := by decide +kernel
theorem dModel_smuggle_131 : decode prog_14_method_91_code 131 = .ok (.ineg, 1) := by decide +kernel
theorem dModel_smuggle_132 : decode prog_14_method_91_code 132 = .ok (.iload_n 3, 1) := by decide +kernel
theorem dModel_smuggle_133 : decode prog_14_method_91_code 133 = .ok (.if_icmp .le 9, 3) := by decide +kernel
theorem dModel_smuggle_136 : decode prog_14_method_91_code 136 = .ok (.aload_n 0, 1) := by decide +kernel
theorem dModel_smuggle_137 : decode prog_14_method_91_code 137 = .ok (.iload_n 2, 1) := by decide +kernel
theorem dModel_smuggle_138 : decode prog_14_method_91_code 138 = .ok (.iload_n 1, 1) := by decide +kernel
theorem dModel_smuggle_139 : decode prog_14_method_91_code 139 = .ok (.invokevirtual 697, 3) := by decide +kernel
theorem dModel_smuggle_142 : decode prog_14_method_91_code 142 = .ok (.iinc 2 1, 3) := by decide +kernel
theorem dModel_smuggle_145 : decode prog_14_method_91_code 145 = .ok (.goto (-108), 3) := by decide +kernel
theorem dModel_smuggle_148 : decode prog_14_method_91_code 148 = .ok (.iinc 1 1, 3) := by decide +kernel
theorem dModel_smuggle_151 : decode prog_14_method_91_code 151 = .ok (.goto (-126), 3) := by decide +kernel
theorem dModel_smuggle_154 : decode prog_14_method_91_code 154 = .ok (.return_, 1) := by decide +kernel
theorem dModel_cross_0 : decode prog_14_method_92_code 0 = .ok (.aload_n 0, 1) := by decide +kernel
theorem dModel_cross_1 : decode prog_14_method_92_code 1 = .ok (.getfield 474, 3) := by decide +kernel
theorem dModel_cross_4 : decode prog_14_method_92_code 4 = .ok (.iload_n 1, 1) := by decide +kernel
theorem dModel_cross_5 : decode prog_14_method_92_code 5 = .ok (.iaload, 1) := by decide +kernel
theorem dModel_cross_6 : decode prog_14_method_92_code 6 = .ok (.bipush 10, 2) := by decide +kernel
theorem dModel_cross_8 : decode prog_14_method_92_code 8 = .ok (.idiv, 1) := by decide +kernel
theorem dModel_cross_9 : decode prog_14_method_92_code 9 = .ok (.aload_n 0, 1) := by decide +kernel
theorem dModel_cross_10 : decode prog_14_method_92_code 10 = .ok (.getfield 257, 3) := by decide +kernel
theorem dModel_cross_13 : decode prog_14_method_92_code 13 = .ok (.iconst 5, 1) := by decide +kernel
theorem dModel_cross_14 : decode prog_14_method_92_code 14 = .ok (.aload_n 0, 1) := by decide +kernel
theorem dModel_cross_15 : decode prog_14_method_92_code 15 = .ok (.getfield 147, 3) := by decide +kernel
theorem dModel_cross_18 : decode prog_14_method_92_code 18 = .ok (.imul, 1) := by decide +kernel
theorem dModel_cross_19 : decode prog_14_method_92_code 19 = .ok (.iload_n 2, 1) := by decide +kernel
theorem dModel_cross_20 : decode prog_14_method_92_code 20 = .ok (.iadd, 1) := by decide +kernel
theorem dModel_cross_21 : decode prog_14_method_92_code 21 = .ok (.iaload, 1) := by decide +kernel
theorem dModel_cross_22 : decode prog_14_method_92_code 22 = .ok (.i2l, 1) := by decide +kernel
theorem dModel_cross_23 : decode prog_14_method_92_code 23 = .ok (.invokestatic 651, 3) := by decide +kernel
theorem dModel_cross_26 : decode prog_14_method_92_code 26 = .ok (.istore_n 3, 1) := by decide +kernel
theorem dModel_cross_27 : decode prog_14_method_92_code 27 = .ok (.iload_n 3, 1) := by decide +kernel
theorem dModel_cross_28 : decode prog_14_method_92_code 28 = .ok (.aload_n 0, 1) := by decide +kernel
theorem dModel_cross_29 : decode prog_14_method_92_code 29 = .ok (.getfield 594, 3) := by decide +kernel
theorem dModel_cross_32 : decode prog_14_method_92_code 32 = .ok (.imul, 1) := by decide +kernel
theorem dModel_cross_33 : decode prog_14_method_92_code 33 = .ok (.bipush 100, 2) := by decide +kernel
theorem dModel_cross_35 : decode prog_14_method_92_code 35 = .ok (.idiv, 1) := by decide +kernel
theorem dModel_cross_36 : decode prog_14_method_92_code 36 = .ok (.istore 4, 2) := by decide +kernel
theorem dModel_cross_38 : decode prog_14_method_92_code 38 = .ok (.aload_n 0, 1) := by decide +kernel
theorem dModel_cross_39 : decode prog_14_method_92_code 39 = .ok (.getfield 474, 3) := by decide +kernel
theorem dModel_cross_42 : decode prog_14_method_92_code 42 = .ok (.iload_n 1, 1) := by decide +kernel
theorem dModel_cross_43 : decode prog_14_method_92_code 43 = .ok (.dup2, 1) := by decide +kernel
theorem dModel_cross_44 : decode prog_14_method_92_code 44 = .ok (.iaload, 1) := by decide +kernel
theorem dModel_cross_45 : decode prog_14_method_92_code 45 = .ok (.iload_n 3, 1) := by decide +kernel
theorem dModel_cross_46 : decode prog_14_method_92_code 46 = .ok (.isub, 1) := by decide +kernel
theorem dModel_cross_47 : decode prog_14_method_92_code 47 = .ok (.iastore, 1) := by decide +kernel
theorem dModel_cross_48 : decode prog_14_method_92_code 48 = .ok (.aload_n 0, 1) := by decide +kernel
theorem dModel_cross_49 : decode prog_14_method_92_code 49 = .ok (.getfield 474, 3) := by decide +kernel
theorem dModel_cross_52 : decode prog_14_method_92_code 52 = .ok (.iload_n 2, 1) := by decide +kernel
theorem dModel_cross_53 : decode prog_14_method_92_code 53 = .ok (.dup2, 1) := by decide +kernel
theorem dModel_cross_54 : decode prog_14_method_92_code 54 = .ok (.iaload, 1) := by decide +kernel
theorem dModel_cross_55 : decode prog_14_method_92_code 55 = .ok (.iload_n 3, 1) := by decide +kernel
theorem dModel_cross_56 : decode prog_14_method_92_code 56 = .ok (.iload 4, 2) := by decide +kernel
theorem dModel_cross_58 : decode prog_14_method_92_code 58 = .ok (.isub, 1) := by decide +kernel
theorem dModel_cross_59 : decode prog_14_method_92_code 59 = .ok (.iadd, 1) := by decide +kernel
theorem dModel_cross_60 : decode prog_14_method_92_code 60 = .ok (.iastore, 1) := by decide +kernel
theorem dModel_cross_61 : decode prog_14_method_92_code 61 = .ok (.aload_n 0, 1) := by decide +kernel
theorem dModel_cross_62 : decode prog_14_method_92_code 62 = .ok (.getfield 694, 3) := by decide +kernel
theorem dModel_cross_65 : decode prog_14_method_92_code 65 = .ok (.iload_n 2, 1) := by decide +kernel
theorem dModel_cross_66 : decode prog_14_method_92_code 66 = .ok (.dup2, 1) := by decide +kernel
theorem dModel_cross_67 : decode prog_14_method_92_code 67 = .ok (.iaload, 1) := by decide +kernel
theorem dModel_cross_68 : decode prog_14_method_92_code 68 = .ok (.iload_n 3, 1) := by decide +kernel
theorem dModel_cross_69 : decode prog_14_method_92_code 69 = .ok (.iload 4, 2) := by decide +kernel
theorem dModel_cross_71 : decode prog_14_method_92_code 71 = .ok (.isub, 1) := by decide +kernel
theorem dModel_cross_72 : decode prog_14_method_92_code 72 = .ok (.iadd, 1) := by decide +kernel
theorem dModel_cross_73 : decode prog_14_method_92_code 73 = .ok (.iastore, 1) := by decide +kernel
theorem dModel_cross_74 : decode prog_14_method_92_code 74 = .ok (.aload_n 0, 1) := by decide +kernel
theorem dModel_cross_75 : decode prog_14_method_92_code 75 = .ok (.dup, 1) := by decide +kernel
theorem dModel_cross_76 : decode prog_14_method_92_code 76 = .ok (.getfield 700, 3) := by decide +kernel
theorem dModel_cross_79 : decode prog_14_method_92_code 79 = .ok (.iload_n 3, 1) := by decide +kernel
theorem dModel_cross_80 : decode prog_14_method_92_code 80 = .ok (.iload 4, 2) := by decide +kernel
theorem dModel_cross_82 : decode prog_14_method_92_code 82 = .ok (.isub, 1) := by decide +kernel
theorem dModel_cross_83 : decode prog_14_method_92_code 83 = .ok (.i2l, 1) := by decide +kernel
theorem dModel_cross_84 : decode prog_14_method_92_code 84 = .ok (.ladd, 1) := by decide +kernel
theorem dModel_cross_85 : decode prog_14_method_92_code 85 = .ok (.putfield 700, 3) := by decide +kernel
theorem dModel_cross_88 : decode prog_14_method_92_code 88 = .ok (.aload_n 0, 1) := by decide +kernel
theorem dModel_cross_89 : decode prog_14_method_92_code 89 = .ok (.dup, 1) := by decide +kernel
theorem dModel_cross_90 : decode prog_14_method_92_code 90 = .ok (.getfield 703, 3) := by decide +kernel
theorem dModel_cross_93 : decode prog_14_method_92_code 93 = .ok (.iload 4, 2) := by decide +kernel
theorem dModel_cross_95 : decode prog_14_method_92_code 95 = .ok (.i2l, 1) := by decide +kernel
theorem dModel_cross_96 : decode prog_14_method_92_code 96 = .ok (.ladd, 1) := by decide +kernel
theorem dModel_cross_97 : decode prog_14_method_92_code 97 = .ok (.putfield 703, 3) := by decide +kernel
theorem dModel_cross_100 : decode prog_14_method_92_code 100 = .ok (.return_, 1) := by decide +kernel
theorem dModel_clear_0 : decode prog_14_method_93_code 0 = .ok (.aload_n 0, 1) := by decide +kernel
theorem dModel_clear_1 : decode prog_14_method_93_code 1 = .ok (.iconst 0, 1) := by decide +kernel
theorem dModel_clear_2 : decode prog_14_method_93_code 2 = .ok (.putfield 454, 3) := by decide +kernel
theorem dModel_clear_5 : decode prog_14_method_93_code 5 = .ok (.aload_n 0, 1) := by decide +kernel
theorem dModel_clear_6 : decode prog_14_method_93_code 6 = .ok (.iconst 0, 1) := by decide +kernel
theorem dModel_clear_7 : decode prog_14_method_93_code 7 = .ok (.putfield 548, 3) := by decide +kernel
theorem dModel_clear_10 : decode prog_14_method_93_code 10 = .ok (.aload_n 0, 1) := by decide +kernel
theorem dModel_clear_11 : decode prog_14_method_93_code 11 = .ok (.lconst 0, 1) := by decide +kernel
theorem dModel_clear_12 : decode prog_14_method_93_code 12 = .ok (.putfield 630, 3) := by decide +kernel
theorem dModel_clear_15 : decode prog_14_method_93_code 15 = .ok (.aload_n 0, 1) := by decide +kernel
theorem dModel_clear_16 : decode prog_14_method_93_code 16 = .ok (.lconst 0, 1) := by decide +kernel
theorem dModel_clear_17 : decode prog_14_method_93_code 17 = .ok (.putfield 597, 3) := by decide +kernel
theorem dModel_clear_20 : decode prog_14_method_93_code 20 = .ok (.aload_n 0, 1) := by decide +kernel
theorem dModel_clear_21 : decode prog_14_method_93_code 21 = .ok (.lconst 0, 1) := by decide +kernel
theorem dModel_clear_22 : decode prog_14_method_93_code 22 = .ok (.putfield 581, 3) := by decide +kernel
theorem dModel_clear_25 : decode prog_14_method_93_code 25 = .ok (.aload_n 0, 1) := by decide +kernel
theorem dModel_clear_26 : decode prog_14_method_93_code 26 = .ok (.lconst 0, 1) := by decide +kernel
theorem dModel_clear_27 : decode prog_14_method_93_code 27 = .ok (.putfield 700, 3) := by decide +kernel
theorem dModel_clear_30 : decode prog_14_method_93_code 30 = .ok (.aload_n 0, 1) := by decide +kernel
theorem dModel_clear_31 : decode prog_14_method_93_code 31 = .ok (.lconst 0, 1) := by decide +kernel
theorem dModel_clear_32 : decode prog_14_method_93_code 32 = .ok (.putfield 703, 3) := by decide +kernel
theorem dModel_clear_35 : decode prog_14_method_93_code 35 = .ok (.aload_n 0, 1) := by decide +kernel
theorem dModel_clear_36 : decode prog_14_method_93_code 36 = .ok (.lconst 0, 1) := by decide +kernel
theorem dModel_clear_37 : decode prog_14_method_93_code 37 = .ok (.putfield 617, 3) := by decide +kernel
theorem dModel_clear_40 : decode prog_14_method_93_code 40 = .ok (.aload_n 0, 1) := by decide +kernel
theorem dModel_clear_41 : decode prog_14_method_93_code 41 = .ok (.lconst 0, 1) := by decide +kernel
theorem dModel_clear_42 : decode prog_14_method_93_code 42 = .ok (.putfield 614, 3) := by decide +kernel
theorem dModel_clear_45 : decode prog_14_method_93_code 45 = .ok (.aload_n 0, 1) := by decide +kernel
theorem dModel_clear_46 : decode prog_14_method_93_code 46 = .ok (.lconst 0, 1) := by decide +kernel
theorem dModel_clear_47 : decode prog_14_method_93_code 47 = .ok (.putfield 611, 3) := by decide +kernel
theorem dModel_clear_50 : decode prog_14_method_93_code 50 = .ok (.iconst 0, 1) := by decide +kernel
theorem dModel_clear_51 : decode prog_14_method_93_code 51 = .ok (.istore_n 1, 1) := by decide +kernel
theorem dModel_clear_52 : decode prog_14_method_93_code 52 = .ok (.iload_n 1, 1) := by decide +kernel
theorem dModel_clear_53 : decode prog_14_method_93_code 53 = .ok (.aload_n 0, 1) := by decide +kernel
theorem dModel_clear_54 : decode prog_14_method_93_code 54 = .ok (.invokevirtual 624, 3) := by decide +kernel
theorem dModel_clear_57 : decode prog_14_method_93_code 57 = .ok (.if_icmp .ge 28, 3) := by decide +kernel
theorem dModel_clear_60 : decode prog_14_method_93_code 60 = .ok (.aload_n 0, 1) := by decide +kernel
theorem dModel_clear_61 : decode prog_14_method_93_code 61 = .ok (.getfield 513, 3) := by decide +kernel
theorem dModel_clear_64 : decode prog_14_method_93_code 64 = .ok (.iload_n 1, 1) := by decide +kernel
theorem dModel_clear_65 : decode prog_14_method_93_code 65 = .ok (.aload_n 0, 1) := by decide +kernel
theorem dModel_clear_66 : decode prog_14_method_93_code 66 = .ok (.getfield 239, 3) := by decide +kernel
theorem dModel_clear_69 : decode prog_14_method_93_code 69 = .ok (.iconst 3, 1) := by decide +kernel
theorem dModel_clear_70 : decode prog_14_method_93_code 70 = .ok (.aload_n 0, 1) := by decide +kernel
theorem dModel_clear_71 : decode prog_14_method_93_code 71 = .ok (.getfield 147, 3) := by decide +kernel
theorem dModel_clear_74 : decode prog_14_method_93_code 74 = .ok (.imul, 1) := by decide +kernel
theorem dModel_clear_75 : decode prog_14_method_93_code 75 = .ok (.iload_n 1, 1) := by decide +kernel
theorem dModel_clear_76 : decode prog_14_method_93_code 76 = .ok (.iadd, 1) := by decide +kernel
theorem dModel_clear_77 : decode prog_14_method_93_code 77 = .ok (.iaload, 1) := by decide +kernel
theorem dModel_clear_78 : decode prog_14_method_93_code 78 = .ok (.iastore, 1) := by decide +kernel
theorem dModel_clear_79 : decode prog_14_method_93_code 79 = .ok (.iinc 1 1, 3) := by decide +kernel
theorem dModel_clear_82 : decode prog_14_method_93_code 82 = .ok (.goto (-30), 3) := by decide +kernel
theorem dModel_clear_85 : decode prog_14_method_93_code 85 = .ok (.iconst 0, 1) := by decide +kernel
theorem dModel_clear_86 : decode prog_14_method_93_code 86 = .ok (.istore_n 1, 1) := by decide +kernel
theorem dModel_clear_87 : decode prog_14_method_93_code 87 = .ok (.iload_n 1, 1) := by decide +kernel
theorem dModel_clear_88 : decode prog_14_method_93_code 88 = .ok (.iconst 3, 1) := by decide +kernel
theorem dModel_clear_89 : decode prog_14_method_93_code 89 = .ok (.if_icmp .ge 16, 3) := by decide +kernel
theorem dModel_clear_92 : decode prog_14_method_93_code 92 = .ok (.aload_n 0, 1) := by decide +kernel
theorem dModel_clear_93 : decode prog_14_method_93_code 93 = .ok (.getfield 469, 3) := by decide +kernel
theorem dModel_clear_96 : decode prog_14_method_93_code 96 = .ok (.iload_n 1, 1) := by decide +kernel
theorem dModel_clear_97 : decode prog_14_method_93_code 97 = .ok (.iconst 0, 1) := by decide +kernel
theorem dModel_clear_98 : decode prog_14_method_93_code 98 = .ok (.iastore, 1) := by decide +kernel
theorem dModel_clear_99 : decode prog_14_method_93_code 99 = .ok (.iinc 1 1, 3) := by decide +kernel
theorem dModel_clear_102 : decode prog_14_method_93_code 102 = .ok (.goto (-15), 3) := by decide +kernel
theorem dModel_clear_105 : decode prog_14_method_93_code 105 = .ok (.iconst 0, 1) := by decide +kernel
theorem dModel_clear_106 : decode prog_14_method_93_code 106 = .ok (.istore_n 1, 1) := by decide +kernel
theorem dModel_clear_107 : decode prog_14_method_93_code 107 = .ok (.iload_n 1, 1) := by decide +kernel
theorem dModel_clear_108 : decode prog_14_method_93_code 108 = .ok (.iconst 5, 1) := by decide +kernel
theorem dModel_clear_109 : decode prog_14_method_93_code 109 = .ok (.if_icmp .ge 16, 3) := by decide +kernel
theorem dModel_clear_112 : decode prog_14_method_93_code 112 = .ok (.aload_n 0, 1) := by decide +kernel
theorem dModel_clear_113 : decode prog_14_method_93_code 113 = .ok (.getfield 474, 3) := by decide +kernel
theorem dModel_clear_116 : decode prog_14_method_93_code 116 = .ok (.iload_n 1, 1) := by decide +kernel
theorem dModel_clear_117 : decode prog_14_method_93_code 117 = .ok (.iconst 0, 1) := by decide +kernel
theorem dModel_clear_118 : decode prog_14_method_93_code 118 = .ok (.iastore, 1) := by decide +kernel
theorem dModel_clear_119 : decode prog_14_method_93_code 119 = .ok (.iinc 1 1, 3) := by decide +kernel
theorem dModel_clear_122 : decode prog_14_method_93_code 122 = .ok (.goto (-15), 3) := by decide +kernel
theorem dModel_clear_125 : decode prog_14_method_93_code 125 = .ok (.iconst 0, 1) := by decide +kernel
theorem dModel_clear_126 : decode prog_14_method_93_code 126 = .ok (.istore_n 1, 1) := by decide +kernel
theorem dModel_clear_127 : decode prog_14_method_93_code 127 = .ok (.iload_n 1, 1) := by decide +kernel
theorem dModel_clear_128 : decode prog_14_method_93_code 128 = .ok (.bipush 18, 2) := by decide +kernel
theorem dModel_clear_130 : decode prog_14_method_93_code 130 = .ok (.if_icmp .ge 16, 3) := by decide +kernel
theorem dModel_clear_133 : decode prog_14_method_93_code 133 = .ok (.aload_n 0, 1) := by decide +kernel
theorem dModel_clear_134 : decode prog_14_method_93_code 134 = .ok (.getfield 584, 3) := by decide +kernel
theorem dModel_clear_137 : decode prog_14_method_93_code 137 = .ok (.iload_n 1, 1) := by decide +kernel
theorem dModel_clear_138 : decode prog_14_method_93_code 138 = .ok (.iconst (-1), 1) := by decide +kernel
theorem dModel_clear_139 : decode prog_14_method_93_code 139 = .ok (.iastore, 1) := by decide +kernel
theorem dModel_clear_140 : decode prog_14_method_93_code 140 = .ok (.iinc 1 1, 3) := by decide +kernel
theorem dModel_clear_143 : decode prog_14_method_93_code 143 = .ok (.goto (-16), 3) := by decide +kernel
theorem dModel_clear_146 : decode prog_14_method_93_code 146 = .ok (.iconst 0, 1) := by decide +kernel
theorem dModel_clear_147 : decode prog_14_method_93_code 147 = .ok (.istore_n 1, 1) := by decide +kernel
theorem dModel_clear_148 : decode prog_14_method_93_code 148 = .ok (.iload_n 1, 1) := by decide +kernel
theorem dModel_clear_149 : decode prog_14_method_93_code 149 = .ok (.aload_n 0, 1) := by decide +kernel
theorem dModel_clear_150 : decode prog_14_method_93_code 150 = .ok (.getfield 387, 3) := by decide +kernel
theorem dModel_clear_153 : decode prog_14_method_93_code 153 = .ok (.if_icmp .ge 115, 3) := by decide +kernel
theorem dModel_clear_156 : decode prog_14_method_93_code 156 = .ok (.aload_n 0, 1) := by decide +kernel
theorem dModel_clear_157 : decode prog_14_method_93_code 157 = .ok (.getfield 578, 3) := by decide +kernel
theorem dModel_clear_160 : decode prog_14_method_93_code 160 = .ok (.iload_n 1, 1) := by decide +kernel
theorem dModel_clear_161 : decode prog_14_method_93_code 161 = .ok (.aload_n 0, 1) := by decide +kernel
theorem dModel_clear_162 : decode prog_14_method_93_code 162 = .ok (.getfield 390, 3) := by decide +kernel
theorem dModel_clear_165 : decode prog_14_method_93_code 165 = .ok (.iload_n 1, 1) := by decide +kernel
theorem dModel_clear_166 : decode prog_14_method_93_code 166 = .ok (.iaload, 1) := by decide +kernel
theorem dModel_clear_167 : decode prog_14_method_93_code 167 = .ok (.i2l, 1) := by decide +kernel
theorem dModel_clear_168 : decode prog_14_method_93_code 168 = .ok (.lastore, 1) := by decide +kernel
theorem dModel_clear_169 : decode prog_14_method_93_code 169 = .ok (.aload_n 0, 1) := by decide +kernel
theorem dModel_clear_170 : decode prog_14_method_93_code 170 = .ok (.getfield 522, 3) := by decide +kernel
theorem dModel_clear_173 : decode prog_14_method_93_code 173 = .ok (.iload_n 1, 1) := by decide +kernel
theorem dModel_clear_174 : decode prog_14_method_93_code 174 = .ok (.ldc_w 272, 3) := by decide +kernel
theorem dModel_clear_177 : decode prog_14_method_93_code 177 = .ok (.iastore, 1) := by decide +kernel
theorem dModel_clear_178 : decode prog_14_method_93_code 178 = .ok (.aload_n 0, 1) := by decide +kernel
theorem dModel_clear_179 : decode prog_14_method_93_code 179 = .ok (.getfield 575, 3) := by decide +kernel
theorem dModel_clear_182 : decode prog_14_method_93_code 182 = .ok (.iload_n 1, 1) := by decide +kernel
theorem dModel_clear_183 : decode prog_14_method_93_code 183 = .ok (.iconst (-1), 1) := by decide +kernel
theorem dModel_clear_184 : decode prog_14_method_93_code 184 = .ok (.iastore, 1) := by decide +kernel
theorem dModel_clear_185 : decode prog_14_method_93_code 185 = .ok (.iconst 0, 1) := by decide +kernel
theorem dModel_clear_186 : decode prog_14_method_93_code 186 = .ok (.istore_n 2, 1) := by decide +kernel
theorem dModel_clear_187 : decode prog_14_method_93_code 187 = .ok (.iload_n 2, 1) := by decide +kernel
theorem dModel_clear_188 : decode prog_14_method_93_code 188 = .ok (.aload_n 0, 1) := by decide +kernel
theorem dModel_clear_189 : decode prog_14_method_93_code 189 = .ok (.getfield 169, 3) := by decide +kernel
theorem dModel_clear_192 : decode prog_14_method_93_code 192 = .ok (.if_icmp .ge 70, 3) := by decide +kernel
theorem dModel_clear_195 : decode prog_14_method_93_code 195 = .ok (.aload_n 0, 1) := by decide +kernel
theorem dModel_clear_196 : decode prog_14_method_93_code 196 = .ok (.iload_n 2, 1) := by decide +kernel
theorem dModel_clear_197 : decode prog_14_method_93_code 197 = .ok (.iconst 2, 1) := by decide +kernel
theorem dModel_clear_198 : decode prog_14_method_93_code 198 = .ok (.invokevirtual 541, 3) := by decide +kernel
theorem dModel_clear_201 : decode prog_14_method_93_code 201 = .ok (.ifCond .eq 55, 3) := by decide +kernel
theorem dModel_clear_204 : decode prog_14_method_93_code 204 = .ok (.aload_n 0, 1) := by decide +kernel
theorem dModel_clear_205 : decode prog_14_method_93_code 205 = .ok (.getfield 415, 3) := by decide +kernel
theorem dModel_clear_208 : decode prog_14_method_93_code 208 = .ok (.iload_n 2, 1) := by decide +kernel
theorem dModel_clear_209 : decode prog_14_method_93_code 209 = .ok (.iaload, 1) := by decide +kernel
theorem dModel_clear_210 : decode prog_14_method_93_code 210 = .ok (.iload_n 1, 1) := by decide +kernel
theorem dModel_clear_211 : decode prog_14_method_93_code 211 = .ok (.if_icmp .ne 45, 3) := by decide +kernel
theorem dModel_clear_214 : decode prog_14_method_93_code 214 = .ok (.aload_n 0, 1) := by decide +kernel
theorem dModel_clear_215 : decode prog_14_method_93_code 215 = .ok (.getfield 418, 3) := by decide +kernel
theorem dModel_clear_218 : decode prog_14_method_93_code 218 = .ok (.iload_n 2, 1) := by decide +kernel
theorem dModel_clear_219 : decode prog_14_method_93_code 219 = .ok (.iaload, 1) := by decide +kernel
theorem dModel_clear_220 : decode prog_14_method_93_code 220 = .ok (.aload_n 0, 1) := by decide +kernel
theorem dModel_clear_221 : decode prog_14_method_93_code 221 = .ok (.getfield 522, 3) := by decide +kernel
theorem dModel_clear_224 : decode prog_14_method_93_code 224 = .ok (.iload_n 1, 1) := by decide +kernel
theorem dModel_clear_225 : decode prog_14_method_93_code 225 = .ok (.iaload, 1) := by decide +kernel
theorem dModel_clear_226 : decode prog_14_method_93_code 226 = .ok (.if_icmp .le 6, 3) := by decide +kernel
theorem dModel_clear_229 : decode prog_14_method_93_code 229 = .ok (.goto 27, 3) := by decide +kernel
theorem dModel_clear_232 : decode prog_14_method_93_code 232 = .ok (.aload_n 0, 1) := by decide +kernel
theorem dModel_clear_233 : decode prog_14_method_93_code 233 = .ok (.getfield 522, 3) := by decide +kernel
theorem dModel_clear_236 : decode prog_14_method_93_code 236 = .ok (.iload_n 1, 1) := by decide +kernel
theorem dModel_clear_237 : decode prog_14_method_93_code 237 = .ok (.aload_n 0, 1) := by decide +kernel
theorem dModel_clear_238 : decode prog_14_method_93_code 238 = .ok (.getfield 418, 3) := by decide +kernel
theorem dModel_clear_241 : decode prog_14_method_93_code 241 = .ok (.iload_n 2, 1) := by decide +kernel
theorem dModel_clear_242 : decode prog_14_method_93_code 242 = .ok (.iaload, 1) := by decide +kernel
theorem dModel_clear_243 : decode prog_14_method_93_code 243 = .ok (.iastore, 1) := by decide +kernel
theorem dModel_clear_244 : decode prog_14_method_93_code 244 = .ok (.aload_n 0, 1) := by decide +kernel
theorem dModel_clear_245 : decode prog_14_method_93_code 245 = .ok (.getfield 575, 3) := by decide +kernel
theorem dModel_clear_248 : decode prog_14_method_93_code 248 = .ok (.iload_n 1, 1) := by decide +kernel
theorem dModel_clear_249 : decode prog_14_method_93_code 249 = .ok (.aload_n 0, 1) := by decide +kernel
theorem dModel_clear_250 : decode prog_14_method_93_code 250 = .ok (.getfield 421, 3) := by decide +kernel
theorem dModel_clear_253 : decode prog_14_method_93_code 253 = .ok (.iload_n 2, 1) := by decide +kernel
theorem dModel_clear_254 : decode prog_14_method_93_code 254 = .ok (.iaload, 1) := by decide +kernel
theorem dModel_clear_255 : decode prog_14_method_93_code 255 = .ok (.iastore, 1) := by decide +kernel
theorem dModel_clear_256 : decode prog_14_method_93_code 256 = .ok (.iinc 2 1, 3) := by decide +kernel
theorem dModel_clear_259 : decode prog_14_method_93_code 259 = .ok (.goto (-72), 3) := by decide +kernel
theorem dModel_clear_262 : decode prog_14_method_93_code 262 = .ok (.iinc 1 1, 3) := by decide +kernel
theorem dModel_clear_265 : decode prog_14_method_93_code 265 = .ok (.goto (-117), 3) := by decide +kernel
theorem dModel_clear_268 : decode prog_14_method_93_code 268 = .ok (.return_, 1) := by decide +kernel
theorem dModel_live_0 : decode prog_14_method_94_code 0 = .ok (.aload_n 0, 1) := by decide +kernel
theorem dModel_live_1 : decode prog_14_method_94_code 1 = .ok (.iload_n 1, 1) := by decide +kernel
theorem dModel_live_2 : decode prog_14_method_94_code 2 = .ok (.putfield 516, 3) := by decide +kernel
theorem dModel_live_5 : decode prog_14_method_94_code 5 = .ok (.aload_n 0, 1) := by decide +kernel
theorem dModel_live_6 : decode prog_14_method_94_code 6 = .ok (.iload_n 3, 1) := by decide +kernel
theorem dModel_live_7 : decode prog_14_method_94_code 7 = .ok (.putfield 444, 3) := by decide +kernel
theorem dModel_live_10 : decode prog_14_method_94_code 10 = .ok (.aload_n 0, 1) := by decide +kernel
theorem dModel_live_11 : decode prog_14_method_94_code 11 = .ok (.invokevirtual 706, 3) := by decide +kernel
theorem dModel_live_14 : decode prog_14_method_94_code 14 = .ok (.aload_n 0, 1) := by decide +kernel
theorem dModel_live_15 : decode prog_14_method_94_code 15 = .ok (.iconst 0, 1) := by decide +kernel
theorem dModel_live_16 : decode prog_14_method_94_code 16 = .ok (.putfield 348, 3) := by decide +kernel
theorem dModel_live_19 : decode prog_14_method_94_code 19 = .ok (.aload_n 0, 1) := by decide +kernel
theorem dModel_live_20 : decode prog_14_method_94_code 20 = .ok (.getfield 348, 3) := by decide +kernel
theorem dModel_live_23 : decode prog_14_method_94_code 23 = .ok (.iload_n 2, 1) := by decide +kernel
theorem dModel_live_24 : decode prog_14_method_94_code 24 = .ok (.if_icmp .ge 125, 3) := by decide +kernel
theorem dModel_live_27 : decode prog_14_method_94_code 27 = .ok (.aload_n 0, 1) := by decide +kernel
theorem dModel_live_28 : decode prog_14_method_94_code 28 = .ok (.invokevirtual 709, 3) := by decide +kernel
theorem dModel_live_31 : decode prog_14_method_94_code 31 = .ok (.aload_n 0, 1) := by decide +kernel
theorem dModel_live_32 : decode prog_14_method_94_code 32 = .ok (.invokevirtual 712, 3) := by decide +kernel
theorem dModel_live_35 : decode prog_14_method_94_code 35 = .ok (.aload_n 0, 1) := by decide +kernel
theorem dModel_live_36 : decode prog_14_method_94_code 36 = .ok (.invokevirtual 715, 3) := by decide +kernel
theorem dModel_live_39 : decode prog_14_method_94_code 39 = .ok (.aload_n 0, 1) := by decide +kernel
theorem dModel_live_40 : decode prog_14_method_94_code 40 = .ok (.invokevirtual 718, 3) := by decide +kernel
theorem dModel_live_43 : decode prog_14_method_94_code 43 = .ok (.aload_n 0, 1) := by decide +kernel
theorem dModel_live_44 : decode prog_14_method_94_code 44 = .ok (.invokevirtual 721, 3) := by decide +kernel
theorem dModel_live_47 : decode prog_14_method_94_code 47 = .ok (.iconst 0, 1) := by decide +kernel
theorem dModel_live_48 : decode prog_14_method_94_code 48 = .ok (.istore 4, 2) := by decide +kernel
theorem dModel_live_50 : decode prog_14_method_94_code 50 = .ok (.iload 4, 2) := by decide +kernel
theorem dModel_live_52 : decode prog_14_method_94_code 52 = .ok (.aload_n 0, 1) := by decide +kernel
theorem dModel_live_53 : decode prog_14_method_94_code 53 = .ok (.invokevirtual 433, 3) := by decide +kernel
theorem dModel_live_56 : decode prog_14_method_94_code 56 = .ok (.if_icmp .ge 15, 3) := by decide +kernel
theorem dModel_live_59 : decode prog_14_method_94_code 59 = .ok (.aload_n 0, 1) := by decide +kernel
theorem dModel_live_60 : decode prog_14_method_94_code 60 = .ok (.iload 4, 2) := by decide +kernel
theorem dModel_live_62 : decode prog_14_method_94_code 62 = .ok (.invokevirtual 724, 3) := by decide +kernel
theorem dModel_live_65 : decode prog_14_method_94_code 65 = .ok (.iinc 4 1, 3) := by decide +kernel
theorem dModel_live_68 : decode prog_14_method_94_code 68 = .ok (.goto (-18), 3) := by decide +kernel
theorem dModel_live_71 : decode prog_14_method_94_code 71 = .ok (.aload_n 0, 1) := by decide +kernel
theorem dModel_live_72 : decode prog_14_method_94_code 72 = .ok (.invokevirtual 727, 3) := by decide +kernel
theorem dModel_live_75 : decode prog_14_method_94_code 75 = .ok (.aload_n 0, 1) := by decide +kernel
theorem dModel_live_76 : decode prog_14_method_94_code 76 = .ok (.invokevirtual 730, 3) := by decide +kernel
theorem dModel_live_79 : decode prog_14_method_94_code 79 = .ok (.iconst 0, 1) := by decide +kernel
theorem dModel_live_80 : decode prog_14_method_94_code 80 = .ok (.istore 4, 2) := by decide +kernel
theorem dModel_live_82 : decode prog_14_method_94_code 82 = .ok (.iload 4, 2) := by decide +kernel
theorem dModel_live_84 : decode prog_14_method_94_code 84 = .ok (.aload_n 0, 1) := by decide +kernel
theorem dModel_live_85 : decode prog_14_method_94_code 85 = .ok (.getfield 387, 3) := by decide +kernel
theorem dModel_live_88 : decode prog_14_method_94_code 88 = .ok (.if_icmp .ge 40, 3) := by decide +kernel
theorem dModel_live_91 : decode prog_14_method_94_code 91 = .ok (.aload_n 0, 1) := by decide +kernel
theorem dModel_live_92 : decode prog_14_method_94_code 92 = .ok (.getfield 688, 3) := by decide +kernel
theorem dModel_live_95 : decode prog_14_method_94_code 95 = .ok (.iload 4, 2) := by decide +kernel
theorem dModel_live_97 : decode prog_14_method_94_code 97 = .ok (.iconst (-1), 1) := by decide +kernel
theorem dModel_live_98 : decode prog_14_method_94_code 98 = .ok (.iastore, 1) := by decide +kernel
theorem dModel_live_99 : decode prog_14_method_94_code 99 = .ok (.aload_n 0, 1) := by decide +kernel
theorem dModel_live_100 : decode prog_14_method_94_code 100 = .ok (.getfield 691, 3) := by decide +kernel
theorem dModel_live_103 : decode prog_14_method_94_code 103 = .ok (.iload 4, 2) := by decide +kernel
theorem dModel_live_105 : decode prog_14_method_94_code 105 = .ok (.lconst 0, 1) := by decide +kernel
theorem dModel_live_106 : decode prog_14_method_94_code 106 = .ok (.lastore, 1) := by decide +kernel
theorem dModel_live_107 : decode prog_14_method_94_code 107 = .ok (.aload_n 0, 1) := by decide +kernel
theorem dModel_live_108 : decode prog_14_method_94_code 108 = .ok (.iload 4, 2) := by decide +kernel
theorem dModel_live_110 : decode prog_14_method_94_code 110 = .ok (.invokevirtual 733, 3) := by decide +kernel
theorem dModel_live_113 : decode prog_14_method_94_code 113 = .ok (.ifCond .ne 9, 3) := by decide +kernel
theorem dModel_live_116 : decode prog_14_method_94_code 116 = .ok (.aload_n 0, 1) := by decide +kernel
theorem dModel_live_117 : decode prog_14_method_94_code 117 = .ok (.iload 4, 2) := by decide +kernel
theorem dModel_live_119 : decode prog_14_method_94_code 119 = .ok (.invokevirtual 736, 3) := by decide +kernel
theorem dModel_live_122 : decode prog_14_method_94_code 122 = .ok (.iinc 4 1, 3) := by decide +kernel
theorem dModel_live_125 : decode prog_14_method_94_code 125 = .ok (.goto (-43), 3) := by decide +kernel
theorem dModel_live_128 : decode prog_14_method_94_code 128 = .ok (.aload_n 0, 1) := by decide +kernel
theorem dModel_live_129 : decode prog_14_method_94_code 129 = .ok (.invokevirtual 739, 3) := by decide +kernel
theorem dModel_live_132 : decode prog_14_method_94_code 132 = .ok (.aload_n 0, 1) := by decide +kernel
theorem dModel_live_133 : decode prog_14_method_94_code 133 = .ok (.invokevirtual 742, 3) := by decide +kernel
theorem dModel_live_136 : decode prog_14_method_94_code 136 = .ok (.aload_n 0, 1) := by decide +kernel
theorem dModel_live_137 : decode prog_14_method_94_code 137 = .ok (.dup, 1) := by decide +kernel
theorem dModel_live_138 : decode prog_14_method_94_code 138 = .ok (.getfield 348, 3) := by decide +kernel
theorem dModel_live_141 : decode prog_14_method_94_code 141 = .ok (.iconst 1, 1) := by decide +kernel
theorem dModel_live_142 : decode prog_14_method_94_code 142 = .ok (.iadd, 1) := by decide +kernel
theorem dModel_live_143 : decode prog_14_method_94_code 143 = .ok (.putfield 348, 3) := by decide +kernel
theorem dModel_live_146 : decode prog_14_method_94_code 146 = .ok (.goto (-127), 3) := by decide +kernel
theorem dModel_live_149 : decode prog_14_method_94_code 149 = .ok (.return_, 1) := by decide +kernel
theorem dModel_note_0 : decode prog_14_method_95_code 0 = .ok (.iconst 0, 1) := by decide +kernel
theorem dModel_note_1 : decode prog_14_method_95_code 1 = .ok (.istore_n 1, 1) := by decide +kernel
theorem dModel_note_2 : decode prog_14_method_95_code 2 = .ok (.iload_n 1, 1) := by decide +kernel
theorem dModel_note_3 : decode prog_14_method_95_code 3 = .ok (.aload_n 0, 1) := by decide +kernel
theorem dModel_note_4 : decode prog_14_method_95_code 4 = .ok (.invokevirtual 624, 3) := by decide +kernel
theorem dModel_note_7 : decode prog_14_method_95_code 7 = .ok (.if_icmp .ge 55, 3) := by decide +kernel
theorem dModel_note_10 : decode prog_14_method_95_code 10 = .ok (.aload_n 0, 1) := by decide +kernel
theorem dModel_note_11 : decode prog_14_method_95_code 11 = .ok (.getfield 745, 3) := by decide +kernel
theorem dModel_note_14 : decode prog_14_method_95_code 14 = .ok (.bipush 6, 2) := by decide +kernel
theorem dModel_note_16 : decode prog_14_method_95_code 16 = .ok (.aload_n 0, 1) := by decide +kernel
theorem dModel_note_17 : decode prog_14_method_95_code 17 = .ok (.getfield 348, 3) := by decide +kernel
theorem dModel_note_20 : decode prog_14_method_95_code 20 = .ok (.imul, 1) := by decide +kernel
theorem dModel_note_21 : decode prog_14_method_95_code 21 = .ok (.iconst 2, 1) := by decide +kernel
theorem dModel_note_22 : decode prog_14_method_95_code 22 = .ok (.iload_n 1, 1) := by decide +kernel
theorem dModel_note_23 : decode prog_14_method_95_code 23 = .ok (.imul, 1) := by decide +kernel
theorem dModel_note_24 : decode prog_14_method_95_code 24 = .ok (.iadd, 1) := by decide +kernel
theorem dModel_note_25 : decode prog_14_method_95_code 25 = .ok (.aload_n 0, 1) := by decide +kernel
theorem dModel_note_26 : decode prog_14_method_95_code 26 = .ok (.getfield 513, 3) := by decide +kernel
theorem dModel_note_29 : decode prog_14_method_95_code 29 = .ok (.iload_n 1, 1) := by decide +kernel
theorem dModel_note_30 : decode prog_14_method_95_code 30 = .ok (.iaload, 1) := by decide +kernel
theorem dModel_note_31 : decode prog_14_method_95_code 31 = .ok (.iastore, 1) := by decide +kernel
theorem dModel_note_32 : decode prog_14_method_95_code 32 = .ok (.aload_n 0, 1) := by decide +kernel
theorem dModel_note_33 : decode prog_14_method_95_code 33 = .ok (.getfield 745, 3) := by decide +kernel
theorem dModel_note_36 : decode prog_14_method_95_code 36 = .ok (.bipush 6, 2) := by decide +kernel
theorem dModel_note_38 : decode prog_14_method_95_code 38 = .ok (.aload_n 0, 1) := by decide +kernel
theorem dModel_note_39 : decode prog_14_method_95_code 39 = .ok (.getfield 348, 3) := by decide +kernel
theorem dModel_note_42 : decode prog_14_method_95_code 42 = .ok (.imul, 1) := by decide +kernel
theorem dModel_note_43 : decode prog_14_method_95_code 43 = .ok (.iconst 2, 1) := by decide +kernel
theorem dModel_note_44 : decode prog_14_method_95_code 44 = .ok (.iload_n 1, 1) := by decide +kernel
theorem dModel_note_45 : decode prog_14_method_95_code 45 = .ok (.imul, 1) := by decide +kernel
theorem dModel_note_46 : decode prog_14_method_95_code 46 = .ok (.iadd, 1) := by decide +kernel
theorem dModel_note_47 : decode prog_14_method_95_code 47 = .ok (.iconst 1, 1) := by decide +kernel
theorem dModel_note_48 : decode prog_14_method_95_code 48 = .ok (.iadd, 1) := by decide +kernel
theorem dModel_note_49 : decode prog_14_method_95_code 49 = .ok (.aload_n 0, 1) := by decide +kernel
theorem dModel_note_50 : decode prog_14_method_95_code 50 = .ok (.getfield 627, 3) := by decide +kernel
theorem dModel_note_53 : decode prog_14_method_95_code 53 = .ok (.iload_n 1, 1) := by decide +kernel
theorem dModel_note_54 : decode prog_14_method_95_code 54 = .ok (.iaload, 1) := by decide +kernel
theorem dModel_note_55 : decode prog_14_method_95_code 55 = .ok (.iastore, 1) := by decide +kernel
theorem dModel_note_56 : decode prog_14_method_95_code 56 = .ok (.iinc 1 1, 3) := by decide +kernel
theorem dModel_note_59 : decode prog_14_method_95_code 59 = .ok (.goto (-57), 3) := by decide +kernel
theorem dModel_note_62 : decode prog_14_method_95_code 62 = .ok (.iconst 0, 1) := by decide +kernel
theorem dModel_note_63 : decode prog_14_method_95_code 63 = .ok (.istore_n 1, 1) := by decide +kernel
theorem dModel_note_64 : decode prog_14_method_95_code 64 = .ok (.iload_n 1, 1) := by decide +kernel
theorem dModel_note_65 : decode prog_14_method_95_code 65 = .ok (.aload_n 0, 1) := by decide +kernel
theorem dModel_note_66 : decode prog_14_method_95_code 66 = .ok (.invokevirtual 433, 3) := by decide +kernel
theorem dModel_note_69 : decode prog_14_method_95_code 69 = .ok (.if_icmp .ge 54, 3) := by decide +kernel
theorem dModel_note_72 : decode prog_14_method_95_code 72 = .ok (.aload_n 0, 1) := by decide +kernel
theorem dModel_note_73 : decode prog_14_method_95_code 73 = .ok (.getfield 748, 3) := by decide +kernel
theorem dModel_note_76 : decode prog_14_method_95_code 76 = .ok (.bipush 6, 2) := by decide +kernel
theorem dModel_note_78 : decode prog_14_method_95_code 78 = .ok (.aload_n 0, 1) := by decide +kernel
theorem dModel_note_79 : decode prog_14_method_95_code 79 = .ok (.getfield 348, 3) := by decide +kernel
theorem dModel_note_82 : decode prog_14_method_95_code 82 = .ok (.imul, 1) := by decide +kernel
theorem dModel_note_83 : decode prog_14_method_95_code 83 = .ok (.iconst 2, 1) := by decide +kernel
theorem dModel_note_84 : decode prog_14_method_95_code 84 = .ok (.iload_n 1, 1) := by decide +kernel
theorem dModel_note_85 : decode prog_14_method_95_code 85 = .ok (.imul, 1) := by decide +kernel
theorem dModel_note_86 : decode prog_14_method_95_code 86 = .ok (.iadd, 1) := by decide +kernel
theorem dModel_note_87 : decode prog_14_method_95_code 87 = .ok (.aload_n 0, 1) := by decide +kernel
theorem dModel_note_88 : decode prog_14_method_95_code 88 = .ok (.getfield 469, 3) := by decide +kernel
theorem dModel_note_91 : decode prog_14_method_95_code 91 = .ok (.iload_n 1, 1) := by decide +kernel
theorem dModel_note_92 : decode prog_14_method_95_code 92 = .ok (.iaload, 1) := by decide +kernel
theorem dModel_note_93 : decode prog_14_method_95_code 93 = .ok (.iastore, 1) := by decide +kernel
theorem dModel_note_94 : decode prog_14_method_95_code 94 = .ok (.aload_n 0, 1) := by decide +kernel
theorem dModel_note_95 : decode prog_14_method_95_code 95 = .ok (.getfield 748, 3) := by decide +kernel
theorem dModel_note_98 : decode prog_14_method_95_code 98 = .ok (.bipush 6, 2) := by decide +kernel
theorem dModel_note_100 : decode prog_14_method_95_code 100 = .ok (.aload_n 0, 1) := by decide +kernel
theorem dModel_note_101 : decode prog_14_method_95_code 101 = .ok (.getfield 348, 3) := by decide +kernel
theorem dModel_note_104 : decode prog_14_method_95_code 104 = .ok (.imul, 1) := by decide +kernel
theorem dModel_note_105 : decode prog_14_method_95_code 105 = .ok (.iconst 2, 1) := by decide +kernel
theorem dModel_note_106 : decode prog_14_method_95_code 106 = .ok (.iload_n 1, 1) := by decide +kernel
theorem dModel_note_107 : decode prog_14_method_95_code 107 = .ok (.imul, 1) := by decide +kernel
theorem dModel_note_108 : decode prog_14_method_95_code 108 = .ok (.iadd, 1) := by decide +kernel
theorem dModel_note_109 : decode prog_14_method_95_code 109 = .ok (.iconst 1, 1) := by decide +kernel
theorem dModel_note_110 : decode prog_14_method_95_code 110 = .ok (.iadd, 1) := by decide +kernel
theorem dModel_note_111 : decode prog_14_method_95_code 111 = .ok (.aload_n 0, 1) := by decide +kernel
theorem dModel_note_112 : decode prog_14_method_95_code 112 = .ok (.iload_n 1, 1) := by decide +kernel
theorem dModel_note_113 : decode prog_14_method_95_code 113 = .ok (.invokevirtual 466, 3) := by decide +kernel
theorem dModel_note_116 : decode prog_14_method_95_code 116 = .ok (.iastore, 1) := by decide +kernel
theorem dModel_note_117 : decode prog_14_method_95_code 117 = .ok (.iinc 1 1, 3) := by decide +kernel
theorem dModel_note_120 : decode prog_14_method_95_code 120 = .ok (.goto (-56), 3) := by decide +kernel
theorem dModel_note_123 : decode prog_14_method_95_code 123 = .ok (.iconst 0, 1) := by decide +kernel
theorem dModel_note_124 : decode prog_14_method_95_code 124 = .ok (.istore_n 1, 1) := by decide +kernel
theorem dModel_note_125 : decode prog_14_method_95_code 125 = .ok (.iload_n 1, 1) := by decide +kernel
theorem dModel_note_126 : decode prog_14_method_95_code 126 = .ok (.aload_n 0, 1) := by decide +kernel
theorem dModel_note_127 : decode prog_14_method_95_code 127 = .ok (.invokevirtual 488, 3) := by decide +kernel
theorem dModel_note_130 : decode prog_14_method_95_code 130 = .ok (.if_icmp .ge 78, 3) := by decide +kernel
theorem dModel_note_133 : decode prog_14_method_95_code 133 = .ok (.aload_n 0, 1) := by decide +kernel
theorem dModel_note_134 : decode prog_14_method_95_code 134 = .ok (.getfield 751, 3) := by decide +kernel
theorem dModel_note_137 : decode prog_14_method_95_code 137 = .ok (.bipush 15, 2) := by decide +kernel
theorem dModel_note_139 : decode prog_14_method_95_code 139 = .ok (.aload_n 0, 1) := by decide +kernel
theorem dModel_note_140 : decode prog_14_method_95_code 140 = .ok (.getfield 348, 3) := by decide +kernel
theorem dModel_note_143 : decode prog_14_method_95_code 143 = .ok (.imul, 1) := by decide +kernel
theorem dModel_note_144 : decode prog_14_method_95_code 144 = .ok (.iconst 3, 1) := by decide +kernel
theorem dModel_note_145 : decode prog_14_method_95_code 145 = .ok (.iload_n 1, 1) := by decide +kernel
theorem dModel_note_146 : decode prog_14_method_95_code 146 = .ok (.imul, 1) := by decide +kernel
theorem dModel_note_147 : decode prog_14_method_95_code 147 = .ok (.iadd, 1) := by decide +kernel
theorem dModel_note_148 : decode prog_14_method_95_code 148 = .ok (.aload_n 0, 1) := by decide +kernel
theorem dModel_note_149 : decode prog_14_method_95_code 149 = .ok (.getfield 474, 3) := by decide +kernel
theorem dModel_note_152 : decode prog_14_method_95_code 152 = .ok (.iload_n 1, 1) := by decide +kernel
theorem dModel_note_153 : decode prog_14_method_95_code 153 = .ok (.iaload, 1) := by decide +kernel
theorem dModel_note_154 : decode prog_14_method_95_code 154 = .ok (.iastore, 1) := by decide +kernel
theorem dModel_note_155 : decode prog_14_method_95_code 155 = .ok (.aload_n 0, 1) := by decide +kernel
theorem dModel_note_156 : decode prog_14_method_95_code 156 = .ok (.getfield 751, 3) := by decide +kernel
theorem dModel_note_159 : decode prog_14_method_95_code 159 = .ok (.bipush 15, 2) := by decide +kernel
theorem dModel_note_161 : decode prog_14_method_95_code 161 = .ok (.aload_n 0, 1) := by decide +kernel
theorem dModel_note_162 : decode prog_14_method_95_code 162 = .ok (.getfield 348, 3) := by decide +kernel
theorem dModel_note_165 : decode prog_14_method_95_code 165 = .ok (.imul, 1) := by decide +kernel
theorem dModel_note_166 : decode prog_14_method_95_code 166 = .ok (.iconst 3, 1) := by decide +kernel
theorem dModel_note_167 : decode prog_14_method_95_code 167 = .ok (.iload_n 1, 1) := by decide +kernel
theorem dModel_note_168 : decode prog_14_method_95_code 168 = .ok (.imul, 1) := by decide +kernel
theorem dModel_note_169 : decode prog_14_method_95_code 169 = .ok (.iadd, 1) := by decide +kernel
theorem dModel_note_170 : decode prog_14_method_95_code 170 = .ok (.iconst 1, 1) := by decide +kernel
theorem dModel_note_171 : decode prog_14_method_95_code 171 = .ok (.iadd, 1) := by decide +kernel
theorem dModel_note_172 : decode prog_14_method_95_code 172 = .ok (.aload_n 0, 1) := by decide +kernel
theorem dModel_note_173 : decode prog_14_method_95_code 173 = .ok (.iload_n 1, 1) := by decide +kernel
theorem dModel_note_174 : decode prog_14_method_95_code 174 = .ok (.invokevirtual 497, 3) := by decide +kernel
theorem dModel_note_177 : decode prog_14_method_95_code 177 = .ok (.iastore, 1) := by decide +kernel
theorem dModel_note_178 : decode prog_14_method_95_code 178 = .ok (.aload_n 0, 1) := by decide +kernel
theorem dModel_note_179 : decode prog_14_method_95_code 179 = .ok (.getfield 751, 3) := by decide +kernel
theorem dModel_note_182 : decode prog_14_method_95_code 182 = .ok (.bipush 15, 2) := by decide +kernel
theorem dModel_note_184 : decode prog_14_method_95_code 184 = .ok (.aload_n 0, 1) := by decide +kernel
theorem dModel_note_185 : decode prog_14_method_95_code 185 = .ok (.getfield 348, 3) := by decide +kernel
theorem dModel_note_188 : decode prog_14_method_95_code 188 = .ok (.imul, 1) := by decide +kernel
theorem dModel_note_189 : decode prog_14_method_95_code 189 = .ok (.iconst 3, 1) := by decide +kernel
theorem dModel_note_190 : decode prog_14_method_95_code 190 = .ok (.iload_n 1, 1) := by decide +kernel
theorem dModel_note_191 : decode prog_14_method_95_code 191 = .ok (.imul, 1) := by decide +kernel
theorem dModel_note_192 : decode prog_14_method_95_code 192 = .ok (.iadd, 1) := by decide +kernel
theorem dModel_note_193 : decode prog_14_method_95_code 193 = .ok (.iconst 2, 1) := by decide +kernel
theorem dModel_note_194 : decode prog_14_method_95_code 194 = .ok (.iadd, 1) := by decide +kernel
theorem dModel_note_195 : decode prog_14_method_95_code 195 = .ok (.aload_n 0, 1) := by decide +kernel
theorem dModel_note_196 : decode prog_14_method_95_code 196 = .ok (.getfield 694, 3) := by decide +kernel
theorem dModel_note_199 : decode prog_14_method_95_code 199 = .ok (.iload_n 1, 1) := by decide +kernel
theorem dModel_note_200 : decode prog_14_method_95_code 200 = .ok (.iaload, 1) := by decide +kernel
theorem dModel_note_201 : decode prog_14_method_95_code 201 = .ok (.iastore, 1) := by decide +kernel
theorem dModel_note_202 : decode prog_14_method_95_code 202 = .ok (.iinc 1 1, 3) := by decide +kernel
theorem dModel_note_205 : decode prog_14_method_95_code 205 = .ok (.goto (-80), 3) := by decide +kernel
theorem dModel_note_208 : decode prog_14_method_95_code 208 = .ok (.iconst 0, 1) := by decide +kernel
theorem dModel_note_209 : decode prog_14_method_95_code 209 = .ok (.istore_n 1, 1) := by decide +kernel
theorem dModel_note_210 : decode prog_14_method_95_code 210 = .ok (.iload_n 1, 1) := by decide +kernel
theorem dModel_note_211 : decode prog_14_method_95_code 211 = .ok (.aload_n 0, 1) := by decide +kernel
theorem dModel_note_212 : decode prog_14_method_95_code 212 = .ok (.getfield 387, 3) := by decide +kernel
theorem dModel_note_215 : decode prog_14_method_95_code 215 = .ok (.if_icmp .ge 69, 3) := by decide +kernel
theorem dModel_note_218 : decode prog_14_method_95_code 218 = .ok (.aload_n 0, 1) := by decide +kernel
theorem dModel_note_219 : decode prog_14_method_95_code 219 = .ok (.getfield 754, 3) := by decide +kernel
theorem dModel_note_222 : decode prog_14_method_95_code 222 = .ok (.bipush 6, 2) := by decide +kernel
theorem dModel_note_224 : decode prog_14_method_95_code 224 = .ok (.aload_n 0, 1) := by decide +kernel
theorem dModel_note_225 : decode prog_14_method_95_code 225 = .ok (.getfield 348, 3) := by decide +kernel
theorem dModel_note_228 : decode prog_14_method_95_code 228 = .ok (.imul, 1) := by decide +kernel
theorem dModel_note_229 : decode prog_14_method_95_code 229 = .ok (.iload_n 1, 1) := by decide +kernel
theorem dModel_note_230 : decode prog_14_method_95_code 230 = .ok (.iadd, 1) := by decide +kernel
theorem dModel_note_231 : decode prog_14_method_95_code 231 = .ok (.aload_n 0, 1) := by decide +kernel
theorem dModel_note_232 : decode prog_14_method_95_code 232 = .ok (.getfield 578, 3) := by decide +kernel
theorem dModel_note_235 : decode prog_14_method_95_code 235 = .ok (.iload_n 1, 1) := by decide +kernel
theorem dModel_note_236 : decode prog_14_method_95_code 236 = .ok (.laload, 1) := by decide +kernel
theorem dModel_note_237 : decode prog_14_method_95_code 237 = .ok (.lastore, 1) := by decide +kernel
theorem dModel_note_238 : decode prog_14_method_95_code 238 = .ok (.aload_n 0, 1) := by decide +kernel
theorem dModel_note_239 : decode prog_14_method_95_code 239 = .ok (.getfield 757, 3) := by decide +kernel
theorem dModel_note_242 : decode prog_14_method_95_code 242 = .ok (.bipush 6, 2) := by decide +kernel
theorem dModel_note_244 : decode prog_14_method_95_code 244 = .ok (.aload_n 0, 1) := by decide +kernel
theorem dModel_note_245 : decode prog_14_method_95_code 245 = .ok (.getfield 348, 3) := by decide +kernel
theorem dModel_note_248 : decode prog_14_method_95_code 248 = .ok (.imul, 1) := by decide +kernel
theorem dModel_note_249 : decode prog_14_method_95_code 249 = .ok (.iload_n 1, 1) := by decide +kernel
theorem dModel_note_250 : decode prog_14_method_95_code 250 = .ok (.iadd, 1) := by decide +kernel
theorem dModel_note_251 : decode prog_14_method_95_code 251 = .ok (.aload_n 0, 1) := by decide +kernel
theorem dModel_note_252 : decode prog_14_method_95_code 252 = .ok (.getfield 688, 3) := by decide +kernel
theorem dModel_note_255 : decode prog_14_method_95_code 255 = .ok (.iload_n 1, 1) := by decide +kernel
theorem dModel_note_256 : decode prog_14_method_95_code 256 = .ok (.iaload, 1) := by decide +kernel
theorem dModel_note_257 : decode prog_14_method_95_code 257 = .ok (.iastore, 1) := by decide +kernel
theorem dModel_note_258 : decode prog_14_method_95_code 258 = .ok (.aload_n 0, 1) := by decide +kernel
theorem dModel_note_259 : decode prog_14_method_95_code 259 = .ok (.getfield 760, 3) := by decide +kernel
theorem dModel_note_262 : decode prog_14_method_95_code 262 = .ok (.bipush 6, 2) := by decide +kernel
theorem dModel_note_264 : decode prog_14_method_95_code 264 = .ok (.aload_n 0, 1) := by decide +kernel
theorem dModel_note_265 : decode prog_14_method_95_code 265 = .ok (.getfield 348, 3) := by decide +kernel
theorem dModel_note_268 : decode prog_14_method_95_code 268 = .ok (.imul, 1) := by decide +kernel
theorem dModel_note_269 : decode prog_14_method_95_code 269 = .ok (.iload_n 1, 1) := by decide +kernel
theorem dModel_note_270 : decode prog_14_method_95_code 270 = .ok (.iadd, 1) := by decide +kernel
theorem dModel_note_271 : decode prog_14_method_95_code 271 = .ok (.aload_n 0, 1) := by decide +kernel
theorem dModel_note_272 : decode prog_14_method_95_code 272 = .ok (.getfield 691, 3) := by decide +kernel
theorem dModel_note_275 : decode prog_14_method_95_code 275 = .ok (.iload_n 1, 1) := by decide +kernel
theorem dModel_note_276 : decode prog_14_method_95_code 276 = .ok (.laload, 1) := by decide +kernel
theorem dModel_note_277 : decode prog_14_method_95_code 277 = .ok (.lastore, 1) := by decide +kernel
theorem dModel_note_278 : decode prog_14_method_95_code 278 = .ok (.iinc 1 1, 3) := by decide +kernel
theorem dModel_note_281 : decode prog_14_method_95_code 281 = .ok (.goto (-71), 3) := by decide +kernel
theorem dModel_note_284 : decode prog_14_method_95_code 284 = .ok (.return_, 1) := by decide +kernel
theorem dModel_run_0 : decode prog_14_method_96_code 0 = .ok (.iload_n 1, 1) := by decide +kernel
theorem dModel_run_1 : decode prog_14_method_96_code 1 = .ok (.iconst 0, 1) := by decide +kernel
theorem dModel_run_2 : decode prog_14_method_96_code 2 = .ok (.iconst 3, 1) := by decide +kernel
theorem dModel_run_3 : decode prog_14_method_96_code 3 = .ok (.invokestatic 393, 3) := by decide +kernel
theorem dModel_run_6 : decode prog_14_method_96_code 6 = .ok (.ifCond .eq 14, 3) := by decide +kernel
theorem dModel_run_9 : decode prog_14_method_96_code 9 = .ok (.iload_n 2, 1) := by decide +kernel
theorem dModel_run_10 : decode prog_14_method_96_code 10 = .ok (.iconst 0, 1) := by decide +kernel
theorem dModel_run_11 : decode prog_14_method_96_code 11 = .ok (.sipush 240, 3) := by decide +kernel
theorem dModel_run_14 : decode prog_14_method_96_code 14 = .ok (.invokestatic 393, 3) := by decide +kernel
theorem dModel_run_17 : decode prog_14_method_96_code 17 = .ok (.ifCond .ne 5, 3) := by decide +kernel
theorem dModel_run_20 : decode prog_14_method_96_code 20 = .ok (.iconst (-1), 1) := by decide +kernel
theorem dModel_run_21 : decode prog_14_method_96_code 21 = .ok (.ireturn, 1) := by decide +kernel
theorem dModel_run_22 : decode prog_14_method_96_code 22 = .ok (.aload_n 0, 1) := by decide +kernel
theorem dModel_run_23 : decode prog_14_method_96_code 23 = .ok (.iload_n 1, 1) := by decide +kernel
theorem dModel_run_24 : decode prog_14_method_96_code 24 = .ok (.iload_n 2, 1) := by decide +kernel
theorem dModel_run_25 : decode prog_14_method_96_code 25 = .ok (.iload_n 3, 1) := by decide +kernel
theorem dModel_run_26 : decode prog_14_method_96_code 26 = .ok (.invokevirtual 763, 3) := by decide +kernel
theorem dModel_run_29 : decode prog_14_method_96_code 29 = .ok (.aload_n 0, 1) := by decide +kernel
theorem dModel_run_30 : decode prog_14_method_96_code 30 = .ok (.iconst 1, 1) := by decide +kernel
theorem dModel_run_31 : decode prog_14_method_96_code 31 = .ok (.putfield 172, 3) := by decide +kernel
theorem dModel_run_34 : decode prog_14_method_96_code 34 = .ok (.aload_n 0, 1) := by decide +kernel
theorem dModel_run_35 : decode prog_14_method_96_code 35 = .ok (.iload_n 2, 1) := by decide +kernel
theorem dModel_run_36 : decode prog_14_method_96_code 36 = .ok (.putfield 766, 3) := by decide +kernel
theorem dModel_run_39 : decode prog_14_method_96_code 39 = .ok (.aload_n 0, 1) := by decide +kernel
theorem dModel_run_40 : decode prog_14_method_96_code 40 = .ok (.aload_n 0, 1) := by decide +kernel
theorem dModel_run_41 : decode prog_14_method_96_code 41 = .ok (.getfield 387, 3) := by decide +kernel
theorem dModel_run_44 : decode prog_14_method_96_code 44 = .ok (.putfield 769, 3) := by decide +kernel
theorem dModel_run_47 : decode prog_14_method_96_code 47 = .ok (.aload_n 0, 1) := by decide +kernel
theorem dModel_run_48 : decode prog_14_method_96_code 48 = .ok (.iload_n 1, 1) := by decide +kernel
theorem dModel_run_49 : decode prog_14_method_96_code 49 = .ok (.iconst 5, 1) := by decide +kernel
theorem dModel_run_50 : decode prog_14_method_96_code 50 = .ok (.invokevirtual 297, 3) := by decide +kernel
theorem dModel_run_53 : decode prog_14_method_96_code 53 = .ok (.aload_n 0, 1) := by decide +kernel
theorem dModel_run_54 : decode prog_14_method_96_code 54 = .ok (.invokevirtual 772, 3) := by decide +kernel
theorem dModel_run_57 : decode prog_14_method_96_code 57 = .ok (.aload_n 0, 1) := by decide +kernel
theorem dModel_run_58 : decode prog_14_method_96_code 58 = .ok (.getfield 454, 3) := by decide +kernel
theorem dModel_run_61 : decode prog_14_method_96_code 61 = .ok (.ireturn, 1) := by decide +kernel
theorem dModel_waitMany_0 : decode prog_14_method_97_code 0 = .ok (.iconst 0, 1) := by decide +kernel
theorem dModel_waitMany_1 : decode prog_14_method_97_code 1 = .ok (.istore_n 1, 1) := by decide +kernel
theorem dModel_waitMany_2 : decode prog_14_method_97_code 2 = .ok (.iconst 0, 1) := by decide +kernel
theorem dModel_waitMany_3 : decode prog_14_method_97_code 3 = .ok (.istore_n 2, 1) := by decide +kernel
theorem dModel_waitMany_4 : decode prog_14_method_97_code 4 = .ok (.iload_n 2, 1) := by decide +kernel
theorem dModel_waitMany_5 : decode prog_14_method_97_code 5 = .ok (.aload_n 0, 1) := by decide +kernel
theorem dModel_waitMany_6 : decode prog_14_method_97_code 6 = .ok (.getfield 454, 3) := by decide +kernel
theorem dModel_waitMany_9 : decode prog_14_method_97_code 9 = .ok (.if_icmp .ge 25, 3) := by decide +kernel
theorem dModel_waitMany_12 : decode prog_14_method_97_code 12 = .ok (.iload_n 1, 1) := by decide +kernel
theorem dModel_waitMany_13 : decode prog_14_method_97_code 13 = .ok (.aload_n 0, 1) := by decide +kernel
theorem dModel_waitMany_14 : decode prog_14_method_97_code 14 = .ok (.iload_n 2, 1) := by decide +kernel
theorem dModel_waitMany_15 : decode prog_14_method_97_code 15 = .ok (.invokevirtual 460, 3) := by decide +kernel
theorem dModel_waitMany_18 : decode prog_14_method_97_code 18 = .ok (.ifCond .eq 7, 3) := by decide +kernel
theorem dModel_waitMany_21 : decode prog_14_method_97_code 21 = .ok (.iconst 1, 1) := by decide +kernel
theorem dModel_waitMany_22 : decode prog_14_method_97_code 22 = .ok (.goto 4, 3) := by decide +kernel
theorem dModel_waitMany_25 : decode prog_14_method_97_code 25 = .ok (.iconst 0, 1) := by decide +kernel
theorem dModel_waitMany_26 : decode prog_14_method_97_code 26 = .ok (.iadd, 1) := by decide +kernel
theorem dModel_waitMany_27 : decode prog_14_method_97_code 27 = .ok (.istore_n 1, 1) := by decide +kernel
theorem dModel_waitMany_28 : decode prog_14_method_97_code 28 = .ok (.iinc 2 1, 3) := by decide +kernel
theorem dModel_waitMany_31 : decode prog_14_method_97_code 31 = .ok (.goto (-27), 3) := by decide +kernel
theorem dModel_waitMany_34 : decode prog_14_method_97_code 34 = .ok (.iload_n 1, 1) := by decide +kernel
theorem dModel_waitMany_35 : decode prog_14_method_97_code 35 = .ok (.ireturn, 1) := by decide +kernel
theorem dModel_ran_0 : decode prog_14_method_98_code 0 = .ok (.aload_n 0, 1) := by decide +kernel
theorem dModel_ran_1 : decode prog_14_method_98_code 1 = .ok (.getfield 172, 3) := by decide +kernel
theorem dModel_ran_4 : decode prog_14_method_98_code 4 = .ok (.ifCond .ne 7, 3) := by decide +kernel
theorem dModel_ran_7 : decode prog_14_method_98_code 7 = .ok (.ldc2_w 775, 3) := by decide +kernel
theorem dModel_ran_10 : decode prog_14_method_98_code 10 = .ok (.lreturn, 1) := by decide +kernel
theorem dModel_ran_11 : decode prog_14_method_98_code 11 = .ok (.iload_n 1, 1) := by decide +kernel
theorem dModel_ran_12 : decode prog_14_method_98_code 12 = .ok (.tableswitch 118 0 10 #[60, 65, 70, 75, 80, 85, 90, 96, 102, 107, 112], 60) := by decide +kernel
theorem dModel_ran_72 : decode prog_14_method_98_code 72 = .ok (.aload_n 0, 1) := by decide +kernel
theorem dModel_ran_73 : decode prog_14_method_98_code 73 = .ok (.getfield 630, 3) := by decide +kernel
theorem dModel_ran_76 : decode prog_14_method_98_code 76 = .ok (.lreturn, 1) := by decide +kernel
theorem dModel_ran_77 : decode prog_14_method_98_code 77 = .ok (.aload_n 0, 1) := by decide +kernel
theorem dModel_ran_78 : decode prog_14_method_98_code 78 = .ok (.getfield 597, 3) := by decide +kernel
theorem dModel_ran_81 : decode prog_14_method_98_code 81 = .ok (.lreturn, 1) := by decide +kernel
theorem dModel_ran_82 : decode prog_14_method_98_code 82 = .ok (.aload_n 0, 1) := by decide +kernel
theorem dModel_ran_83 : decode prog_14_method_98_code 83 = .ok (.getfield 581, 3) := by decide +kernel
theorem dModel_ran_86 : decode prog_14_method_98_code 86 = .ok (.lreturn, 1) := by decide +kernel
theorem dModel_ran_87 : decode prog_14_method_98_code 87 = .ok (.aload_n 0, 1) := by decide +kernel
theorem dModel_ran_88 : decode prog_14_method_98_code 88 = .ok (.getfield 700, 3) := by decide +kernel
theorem dModel_ran_91 : decode prog_14_method_98_code 91 = .ok (.lreturn, 1) := by decide +kernel
theorem dModel_ran_92 : decode prog_14_method_98_code 92 = .ok (.aload_n 0, 1) := by decide +kernel
theorem dModel_ran_93 : decode prog_14_method_98_code 93 = .ok (.getfield 703, 3) := by decide +kernel
theorem dModel_ran_96 : decode prog_14_method_98_code 96 = .ok (.lreturn, 1) := by decide +kernel
theorem dModel_ran_97 : decode prog_14_method_98_code 97 = .ok (.aload_n 0, 1) := by decide +kernel
theorem dModel_ran_98 : decode prog_14_method_98_code 98 = .ok (.getfield 617, 3) := by decide +kernel
theorem dModel_ran_101 : decode prog_14_method_98_code 101 = .ok (.lreturn, 1) := by decide +kernel
theorem dModel_ran_102 : decode prog_14_method_98_code 102 = .ok (.aload_n 0, 1) := by decide +kernel
theorem dModel_ran_103 : decode prog_14_method_98_code 103 = .ok (.invokevirtual 777, 3) := by decide +kernel
theorem dModel_ran_106 : decode prog_14_method_98_code 106 = .ok (.i2l, 1) := by decide +kernel
theorem dModel_ran_107 : decode prog_14_method_98_code 107 = .ok (.lreturn, 1) := by decide +kernel
theorem dModel_ran_108 : decode prog_14_method_98_code 108 = .ok (.aload_n 0, 1) := by decide +kernel
theorem dModel_ran_109 : decode prog_14_method_98_code 109 = .ok (.invokevirtual 351, 3) := by decide +kernel
theorem dModel_ran_112 : decode prog_14_method_98_code 112 = .ok (.i2l, 1) := by decide +kernel
theorem dModel_ran_113 : decode prog_14_method_98_code 113 = .ok (.lreturn, 1) := by decide +kernel
theorem dModel_ran_114 : decode prog_14_method_98_code 114 = .ok (.aload_n 0, 1) := by decide +kernel
theorem dModel_ran_115 : decode prog_14_method_98_code 115 = .ok (.getfield 614, 3) := by decide +kernel
theorem dModel_ran_118 : decode prog_14_method_98_code 118 = .ok (.lreturn, 1) := by decide +kernel
theorem dModel_ran_119 : decode prog_14_method_98_code 119 = .ok (.aload_n 0, 1) := by decide +kernel
theorem dModel_ran_120 : decode prog_14_method_98_code 120 = .ok (.getfield 611, 3) := by decide +kernel
theorem dModel_ran_123 : decode prog_14_method_98_code 123 = .ok (.lreturn, 1) := by decide +kernel
theorem dModel_ran_124 : decode prog_14_method_98_code 124 = .ok (.aload_n 0, 1) := by decide +kernel
theorem dModel_ran_125 : decode prog_14_method_98_code 125 = .ok (.getfield 766, 3) := by decide +kernel
theorem dModel_ran_128 : decode prog_14_method_98_code 128 = .ok (.i2l, 1) := by decide +kernel
theorem dModel_ran_129 : decode prog_14_method_98_code 129 = .ok (.lreturn, 1) := by decide +kernel
theorem dModel_ran_130 : decode prog_14_method_98_code 130 = .ok (.ldc2_w 775, 3) := by decide +kernel
theorem dModel_ran_133 : decode prog_14_method_98_code 133 = .ok (.lreturn, 1) := by decide +kernel
theorem dModel_isRanMonth_0 : decode prog_14_method_99_code 0 = .ok (.aload_n 0, 1) := by decide +kernel
theorem dModel_isRanMonth_1 : decode prog_14_method_99_code 1 = .ok (.getfield 172, 3) := by decide +kernel
theorem dModel_isRanMonth_4 : decode prog_14_method_99_code 4 = .ok (.ifCond .eq 19, 3) := by decide +kernel
theorem dModel_isRanMonth_7 : decode prog_14_method_99_code 7 = .ok (.iload_n 1, 1) := by decide +kernel
theorem dModel_isRanMonth_8 : decode prog_14_method_99_code 8 = .ok (.ifCond .lt 15, 3) := by decide +kernel
theorem dModel_isRanMonth_11 : decode prog_14_method_99_code 11 = .ok (.iload_n 1, 1) := by decide +kernel
theorem dModel_isRanMonth_12 : decode prog_14_method_99_code 12 = .ok (.aload_n 0, 1) := by decide +kernel
theorem dModel_isRanMonth_13 : decode prog_14_method_99_code 13 = .ok (.getfield 766, 3) := by decide +kernel
theorem dModel_isRanMonth_16 : decode prog_14_method_99_code 16 = .ok (.if_icmp .ge 7, 3) := by decide +kernel
theorem dModel_isRanMonth_19 : decode prog_14_method_99_code 19 = .ok (.iconst 1, 1) := by decide +kernel
theorem dModel_isRanMonth_20 : decode prog_14_method_99_code 20 = .ok (.goto 4, 3) := by decide +kernel
theorem dModel_isRanMonth_23 : decode prog_14_method_99_code 23 = .ok (.iconst 0, 1) := by decide +kernel
theorem dModel_isRanMonth_24 : decode prog_14_method_99_code 24 = .ok (.ireturn, 1) := by decide +kernel
theorem dModel_fort_0 : decode prog_14_method_100_code 0 = .ok (.iload_n 1, 1) := by decide +kernel
theorem dModel_fort_1 : decode prog_14_method_100_code 1 = .ok (.iconst 0, 1) := by decide +kernel
theorem dModel_fort_2 : decode prog_14_method_100_code 2 = .ok (.aload_n 0, 1) := by decide +kernel
theorem dModel_fort_3 : decode prog_14_method_100_code 3 = .ok (.invokevirtual 624, 3) := by decide +kernel
theorem dModel_fort_6 : decode prog_14_method_100_code 6 = .ok (.iconst 1, 1) := by decide +kernel
theorem dModel_fort_7 : decode prog_14_method_100_code 7 = .ok (.isub, 1) := by decide +kernel
theorem dModel_fort_8 : decode prog_14_method_100_code 8 = .ok (.invokestatic 393, 3) := by decide +kernel
theorem dModel_fort_11 : decode prog_14_method_100_code 11 = .ok (.ifCond .eq 20, 3) := by decide +kernel
theorem dModel_fort_14 : decode prog_14_method_100_code 14 = .ok (.aload_n 0, 1) := by decide +kernel
theorem dModel_fort_15 : decode prog_14_method_100_code 15 = .ok (.iload_n 2, 1) := by decide +kernel
theorem dModel_fort_16 : decode prog_14_method_100_code 16 = .ok (.invokevirtual 780, 3) := by decide +kernel
theorem dModel_fort_19 : decode prog_14_method_100_code 19 = .ok (.ifCond .eq 12, 3) := by decide +kernel
theorem dModel_fort_22 : decode prog_14_method_100_code 22 = .ok (.iload_n 3, 1) := by decide +kernel
theorem dModel_fort_23 : decode prog_14_method_100_code 23 = .ok (.iconst 0, 1) := by decide +kernel
theorem dModel_fort_24 : decode prog_14_method_100_code 24 = .ok (.iconst 1, 1) := by decide +kernel
theorem dModel_fort_25 : decode prog_14_method_100_code 25 = .ok (.invokestatic 393, 3) := by decide +kernel
theorem dModel_fort_28 : decode prog_14_method_100_code 28 = .ok (.ifCond .ne 7, 3) := by decide +kernel
theorem dModel_fort_31 : decode prog_14_method_100_code 31 = .ok (.iconst (-1), 1) := by decide +kernel
theorem dModel_fort_32 : decode prog_14_method_100_code 32 = .ok (.goto 18, 3) := by decide +kernel
theorem dModel_fort_35 : decode prog_14_method_100_code 35 = .ok (.aload_n 0, 1) := by decide +kernel
theorem dModel_fort_36 : decode prog_14_method_100_code 36 = .ok (.getfield 745, 3) := by decide +kernel
theorem dModel_fort_39 : decode prog_14_method_100_code 39 = .ok (.bipush 6, 2) := by decide +kernel
theorem dModel_fort_41 : decode prog_14_method_100_code 41 = .ok (.iload_n 2, 1) := by decide +kernel
theorem dModel_fort_42 : decode prog_14_method_100_code 42 = .ok (.imul, 1) := by decide +kernel
theorem dModel_fort_43 : decode prog_14_method_100_code 43 = .ok (.iconst 2, 1) := by decide +kernel
theorem dModel_fort_44 : decode prog_14_method_100_code 44 = .ok (.iload_n 1, 1) := by decide +kernel
theorem dModel_fort_45 : decode prog_14_method_100_code 45 = .ok (.imul, 1) := by decide +kernel
theorem dModel_fort_46 : decode prog_14_method_100_code 46 = .ok (.iadd, 1) := by decide +kernel
theorem dModel_fort_47 : decode prog_14_method_100_code 47 = .ok (.iload_n 3, 1) := by decide +kernel
theorem dModel_fort_48 : decode prog_14_method_100_code 48 = .ok (.iadd, 1) := by decide +kernel
theorem dModel_fort_49 : decode prog_14_method_100_code 49 = .ok (.iaload, 1) := by decide +kernel
theorem dModel_fort_50 : decode prog_14_method_100_code 50 = .ok (.ireturn, 1) := by decide +kernel
theorem dModel_pan_0 : decode prog_14_method_101_code 0 = .ok (.iload_n 1, 1) := by decide +kernel
theorem dModel_pan_1 : decode prog_14_method_101_code 1 = .ok (.iconst 0, 1) := by decide +kernel
theorem dModel_pan_2 : decode prog_14_method_101_code 2 = .ok (.aload_n 0, 1) := by decide +kernel
theorem dModel_pan_3 : decode prog_14_method_101_code 3 = .ok (.invokevirtual 433, 3) := by decide +kernel
theorem dModel_pan_6 : decode prog_14_method_101_code 6 = .ok (.iconst 1, 1) := by decide +kernel
theorem dModel_pan_7 : decode prog_14_method_101_code 7 = .ok (.isub, 1) := by decide +kernel
theorem dModel_pan_8 : decode prog_14_method_101_code 8 = .ok (.invokestatic 393, 3) := by decide +kernel
theorem dModel_pan_11 : decode prog_14_method_101_code 11 = .ok (.ifCond .eq 20, 3) := by decide +kernel
theorem dModel_pan_14 : decode prog_14_method_101_code 14 = .ok (.aload_n 0, 1) := by decide +kernel
theorem dModel_pan_15 : decode prog_14_method_101_code 15 = .ok (.iload_n 2, 1) := by decide +kernel
theorem dModel_pan_16 : decode prog_14_method_101_code 16 = .ok (.invokevirtual 780, 3) := by decide +kernel
theorem dModel_pan_19 : decode prog_14_method_101_code 19 = .ok (.ifCond .eq 12, 3) := by decide +kernel
theorem dModel_pan_22 : decode prog_14_method_101_code 22 = .ok (.iload_n 3, 1) := by decide +kernel
theorem dModel_pan_23 : decode prog_14_method_101_code 23 = .ok (.iconst 0, 1) := by decide +kernel
theorem dModel_pan_24 : decode prog_14_method_101_code 24 = .ok (.iconst 1, 1) := by decide +kernel
theorem dModel_pan_25 : decode prog_14_method_101_code 25 = .ok (.invokestatic 393, 3) := by decide +kernel
theorem dModel_pan_28 : decode prog_14_method_101_code 28 = .ok (.ifCond .ne 7, 3) := by decide +kernel
theorem dModel_pan_31 : decode prog_14_method_101_code 31 = .ok (.iconst (-1), 1) := by decide +kernel
theorem dModel_pan_32 : decode prog_14_method_101_code 32 = .ok (.goto 18, 3) := by decide +kernel
theorem dModel_pan_35 : decode prog_14_method_101_code 35 = .ok (.aload_n 0, 1) := by decide +kernel
theorem dModel_pan_36 : decode prog_14_method_101_code 36 = .ok (.getfield 748, 3) := by decide +kernel
theorem dModel_pan_39 : decode prog_14_method_101_code 39 = .ok (.bipush 6, 2) := by decide +kernel
theorem dModel_pan_41 : decode prog_14_method_101_code 41 = .ok (.iload_n 2, 1) := by decide +kernel
theorem dModel_pan_42 : decode prog_14_method_101_code 42 = .ok (.imul, 1) := by decide +kernel
theorem dModel_pan_43 : decode prog_14_method_101_code 43 = .ok (.iconst 2, 1) := by decide +kernel
theorem dModel_pan_44 : decode prog_14_method_101_code 44 = .ok (.iload_n 1, 1) := by decide +kernel
theorem dModel_pan_45 : decode prog_14_method_101_code 45 = .ok (.imul, 1) := by decide +kernel
theorem dModel_pan_46 : decode prog_14_method_101_code 46 = .ok (.iadd, 1) := by decide +kernel
theorem dModel_pan_47 : decode prog_14_method_101_code 47 = .ok (.iload_n 3, 1) := by decide +kernel
theorem dModel_pan_48 : decode prog_14_method_101_code 48 = .ok (.iadd, 1) := by decide +kernel
theorem dModel_pan_49 : decode prog_14_method_101_code 49 = .ok (.iaload, 1) := by decide +kernel
theorem dModel_pan_50 : decode prog_14_method_101_code 50 = .ok (.ireturn, 1) := by decide +kernel
theorem dModel_town_0 : decode prog_14_method_102_code 0 = .ok (.iload_n 1, 1) := by decide +kernel
theorem dModel_town_1 : decode prog_14_method_102_code 1 = .ok (.iconst 0, 1) := by decide +kernel
theorem dModel_town_2 : decode prog_14_method_102_code 2 = .ok (.aload_n 0, 1) := by decide +kernel
theorem dModel_town_3 : decode prog_14_method_102_code 3 = .ok (.invokevirtual 488, 3) := by decide +kernel
theorem dModel_town_6 : decode prog_14_method_102_code 6 = .ok (.iconst 1, 1) := by decide +kernel
theorem dModel_town_7 : decode prog_14_method_102_code 7 = .ok (.isub, 1) := by decide +kernel
theorem dModel_town_8 : decode prog_14_method_102_code 8 = .ok (.invokestatic 393, 3) := by decide +kernel
theorem dModel_town_11 : decode prog_14_method_102_code 11 = .ok (.ifCond .eq 20, 3) := by decide +kernel
theorem dModel_town_14 : decode prog_14_method_102_code 14 = .ok (.aload_n 0, 1) := by decide +kernel
theorem dModel_town_15 : decode prog_14_method_102_code 15 = .ok (.iload_n 2, 1) := by decide +kernel
theorem dModel_town_16 : decode prog_14_method_102_code 16 = .ok (.invokevirtual 780, 3) := by decide +kernel
theorem dModel_town_19 : decode prog_14_method_102_code 19 = .ok (.ifCond .eq 12, 3) := by decide +kernel
theorem dModel_town_22 : decode prog_14_method_102_code 22 = .ok (.iload_n 3, 1) := by decide +kernel
theorem dModel_town_23 : decode prog_14_method_102_code 23 = .ok (.iconst 0, 1) := by decide +kernel
theorem dModel_town_24 : decode prog_14_method_102_code 24 = .ok (.iconst 2, 1) := by decide +kernel
theorem dModel_town_25 : decode prog_14_method_102_code 25 = .ok (.invokestatic 393, 3) := by decide +kernel
theorem dModel_town_28 : decode prog_14_method_102_code 28 = .ok (.ifCond .ne 7, 3) := by decide +kernel
theorem dModel_town_31 : decode prog_14_method_102_code 31 = .ok (.iconst (-1), 1) := by decide +kernel
theorem dModel_town_32 : decode prog_14_method_102_code 32 = .ok (.goto 18, 3) := by decide +kernel
theorem dModel_town_35 : decode prog_14_method_102_code 35 = .ok (.aload_n 0, 1) := by decide +kernel
theorem dModel_town_36 : decode prog_14_method_102_code 36 = .ok (.getfield 751, 3) := by decide +kernel
theorem dModel_town_39 : decode prog_14_method_102_code 39 = .ok (.bipush 15, 2) := by decide +kernel
theorem dModel_town_41 : decode prog_14_method_102_code 41 = .ok (.iload_n 2, 1) := by decide +kernel
theorem dModel_town_42 : decode prog_14_method_102_code 42 = .ok (.imul, 1) := by decide +kernel
theorem dModel_town_43 : decode prog_14_method_102_code 43 = .ok (.iconst 3, 1) := by decide +kernel
theorem dModel_town_44 : decode prog_14_method_102_code 44 = .ok (.iload_n 1, 1) := by decide +kernel
theorem dModel_town_45 : decode prog_14_method_102_code 45 = .ok (.imul, 1) := by decide +kernel
theorem dModel_town_46 : decode prog_14_method_102_code 46 = .ok (.iadd, 1) := by decide +kernel
theorem dModel_town_47 : decode prog_14_method_102_code 47 = .ok (.iload_n 3, 1) := by decide +kernel
theorem dModel_town_48 : decode prog_14_method_102_code 48 = .ok (.iadd, 1) := by decide +kernel
theorem dModel_town_49 : decode prog_14_method_102_code 49 = .ok (.iaload, 1) := by decide +kernel
theorem dModel_town_50 : decode prog_14_method_102_code 50 = .ok (.ireturn, 1) := by decide +kernel
theorem dModel_book_0 : decode prog_14_method_103_code 0 = .ok (.aload_n 0, 1) := by decide +kernel
theorem dModel_book_1 : decode prog_14_method_103_code 1 = .ok (.iload_n 2, 1) := by decide +kernel
theorem dModel_book_2 : decode prog_14_method_103_code 2 = .ok (.invokevirtual 780, 3) := by decide +kernel
theorem dModel_book_5 : decode prog_14_method_103_code 5 = .ok (.ifCond .eq 17, 3) := by decide +kernel
theorem dModel_book_8 : decode prog_14_method_103_code 8 = .ok (.iload_n 1, 1) := by decide +kernel
theorem dModel_book_9 : decode prog_14_method_103_code 9 = .ok (.iconst 0, 1) := by decide +kernel
theorem dModel_book_10 : decode prog_14_method_103_code 10 = .ok (.aload_n 0, 1) := by decide +kernel
theorem dModel_book_11 : decode prog_14_method_103_code 11 = .ok (.getfield 769, 3) := by decide +kernel
theorem dModel_book_14 : decode prog_14_method_103_code 14 = .ok (.iconst 1, 1) := by decide +kernel
theorem dModel_book_15 : decode prog_14_method_103_code 15 = .ok (.isub, 1) := by decide +kernel
theorem dModel_book_16 : decode prog_14_method_103_code 16 = .ok (.invokestatic 393, 3) := by decide +kernel
theorem dModel_book_19 : decode prog_14_method_103_code 19 = .ok (.ifCond .ne 7, 3) := by decide +kernel
theorem dModel_book_22 : decode prog_14_method_103_code 22 = .ok (.ldc2_w 775, 3) := by decide +kernel
theorem dModel_book_25 : decode prog_14_method_103_code 25 = .ok (.lreturn, 1) := by decide +kernel
theorem dModel_book_26 : decode prog_14_method_103_code 26 = .ok (.iload_n 3, 1) := by decide +kernel
theorem dModel_book_27 : decode prog_14_method_103_code 27 = .ok (.ifCond .ne 17, 3) := by decide +kernel
theorem dModel_book_30 : decode prog_14_method_103_code 30 = .ok (.aload_n 0, 1) := by decide +kernel
theorem dModel_book_31 : decode prog_14_method_103_code 31 = .ok (.getfield 754, 3) := by decide +kernel
theorem dModel_book_34 : decode prog_14_method_103_code 34 = .ok (.bipush 6, 2) := by decide +kernel
theorem dModel_book_36 : decode prog_14_method_103_code 36 = .ok (.iload_n 2, 1) := by decide +kernel
theorem dModel_book_37 : decode prog_14_method_103_code 37 = .ok (.imul, 1) := by decide +kernel
theorem dModel_book_38 : decode prog_14_method_103_code 38 = .ok (.iload_n 1, 1) := by decide +kernel
theorem dModel_book_39 : decode prog_14_method_103_code 39 = .ok (.iadd, 1) := by decide +kernel
theorem dModel_book_40 : decode prog_14_method_103_code 40 = .ok (.laload, 1) := by decide +kernel
theorem dModel_book_41 : decode prog_14_method_103_code 41 = .ok (.goto 45, 3) := by decide +kernel
theorem dModel_book_44 : decode prog_14_method_103_code 44 = .ok (.iload_n 3, 1) := by decide +kernel
theorem dModel_book_45 : decode prog_14_method_103_code 45 = .ok (.iconst 1, 1) := by decide +kernel
theorem dModel_book_46 : decode prog_14_method_103_code 46 = .ok (.if_icmp .ne 18, 3) := by decide +kernel
theorem dModel_book_49 : decode prog_14_method_103_code 49 = .ok (.aload_n 0, 1) := by decide +kernel
theorem dModel_book_50 : decode prog_14_method_103_code 50 = .ok (.getfield 757, 3) := by decide +kernel
theorem dModel_book_53 : decode prog_14_method_103_code 53 = .ok (.bipush 6, 2) := by decide +kernel
theorem dModel_book_55 : decode prog_14_method_103_code 55 = .ok (.iload_n 2, 1) := by decide +kernel
theorem dModel_book_56 : decode prog_14_method_103_code 56 = .ok (.imul, 1) := by decide +kernel
theorem dModel_book_57 : decode prog_14_method_103_code 57 = .ok (.iload_n 1, 1) := by decide +kernel
theorem dModel_book_58 : decode prog_14_method_103_code 58 = .ok (.iadd, 1) := by decide +kernel
theorem dModel_book_59 : decode prog_14_method_103_code 59 = .ok (.iaload, 1) := by decide +kernel
theorem dModel_book_60 : decode prog_14_method_103_code 60 = .ok (.i2l, 1) := by decide +kernel
theorem dModel_book_61 : decode prog_14_method_103_code 61 = .ok (.goto 25, 3) := by decide +kernel
theorem dModel_book_64 : decode prog_14_method_103_code 64 = .ok (.iload_n 3, 1) := by decide +kernel
theorem dModel_book_65 : decode prog_14_method_103_code 65 = .ok (.iconst 2, 1) := by decide +kernel
theorem dModel_book_66 : decode prog_14_method_103_code 66 = .ok (.if_icmp .ne 17, 3) := by decide +kernel
theorem dModel_book_69 : decode prog_14_method_103_code 69 = .ok (.aload_n 0, 1) := by decide +kernel
theorem dModel_book_70 : decode prog_14_method_103_code 70 = .ok (.getfield 760, 3) := by decide +kernel
theorem dModel_book_73 : decode prog_14_method_103_code 73 = .ok (.bipush 6, 2) := by decide +kernel
theorem dModel_book_75 : decode prog_14_method_103_code 75 = .ok (.iload_n 2, 1) := by decide +kernel
theorem dModel_book_76 : decode prog_14_method_103_code 76 = .ok (.imul, 1) := by decide +kernel
theorem dModel_book_77 : decode prog_14_method_103_code 77 = .ok (.iload_n 1, 1) := by decide +kernel
theorem dModel_book_78 : decode prog_14_method_103_code 78 = .ok (.iadd, 1) := by decide +kernel
theorem dModel_book_79 : decode prog_14_method_103_code 79 = .ok (.laload, 1) := by decide +kernel
theorem dModel_book_80 : decode prog_14_method_103_code 80 = .ok (.goto 6, 3) := by decide +kernel
theorem dModel_book_83 : decode prog_14_method_103_code 83 = .ok (.ldc2_w 775, 3) := by decide +kernel
theorem dModel_book_86 : decode prog_14_method_103_code 86 = .ok (.lreturn, 1) := by decide +kernel
theorem dModel_paper_0 : decode prog_14_method_104_code 0 = .ok (.aload_n 0, 1) := by decide +kernel
theorem dModel_paper_1 : decode prog_14_method_104_code 1 = .ok (.getfield 172, 3) := by decide +kernel
theorem dModel_paper_4 : decode prog_14_method_104_code 4 = .ok (.ifCond .eq 15, 3) := by decide +kernel
theorem dModel_paper_7 : decode prog_14_method_104_code 7 = .ok (.iload_n 1, 1) := by decide +kernel
theorem dModel_paper_8 : decode prog_14_method_104_code 8 = .ok (.ifCond .lt 11, 3) := by decide +kernel
theorem dModel_paper_11 : decode prog_14_method_104_code 11 = .ok (.iload_n 1, 1) := by decide +kernel
theorem dModel_paper_12 : decode prog_14_method_104_code 12 = .ok (.aload_n 0, 1) := by decide +kernel
theorem dModel_paper_13 : decode prog_14_method_104_code 13 = .ok (.getfield 454, 3) := by decide +kernel
theorem dModel_paper_16 : decode prog_14_method_104_code 16 = .ok (.if_icmp .lt 5, 3) := by decide +kernel
theorem dModel_paper_19 : decode prog_14_method_104_code 19 = .ok (.iconst (-1), 1) := by decide +kernel
theorem dModel_paper_20 : decode prog_14_method_104_code 20 = .ok (.ireturn, 1) := by decide +kernel
theorem dModel_paper_21 : decode prog_14_method_104_code 21 = .ok (.iload_n 2, 1) := by decide +kernel
theorem dModel_paper_22 : decode prog_14_method_104_code 22 = .ok (.tableswitch 118 0 7 #[46, 53, 60, 67, 74, 81, 96, 103], 46) := by decide +kernel
theorem dModel_paper_68 : decode prog_14_method_104_code 68 = .ok (.aload_n 0, 1) := by decide +kernel
theorem dModel_paper_69 : decode prog_14_method_104_code 69 = .ok (.getfield 525, 3) := by decide +kernel
theorem dModel_paper_72 : decode prog_14_method_104_code 72 = .ok (.iload_n 1, 1) := by decide +kernel
theorem dModel_paper_73 : decode prog_14_method_104_code 73 = .ok (.iaload, 1) := by decide +kernel
theorem dModel_paper_74 : decode prog_14_method_104_code 74 = .ok (.ireturn, 1) := by decide +kernel
theorem dModel_paper_75 : decode prog_14_method_104_code 75 = .ok (.aload_n 0, 1) := by decide +kernel
theorem dModel_paper_76 : decode prog_14_method_104_code 76 = .ok (.getfield 457, 3) := by decide +kernel
theorem dModel_paper_79 : decode prog_14_method_104_code 79 = .ok (.iload_n 1, 1) := by decide +kernel
theorem dModel_paper_80 : decode prog_14_method_104_code 80 = .ok (.iaload, 1) := by decide +kernel
theorem dModel_paper_81 : decode prog_14_method_104_code 81 = .ok (.ireturn, 1) := by decide +kernel
theorem dModel_paper_82 : decode prog_14_method_104_code 82 = .ok (.aload_n 0, 1) := by decide +kernel
theorem dModel_paper_83 : decode prog_14_method_104_code 83 = .ok (.getfield 463, 3) := by decide +kernel
theorem dModel_paper_86 : decode prog_14_method_104_code 86 = .ok (.iload_n 1, 1) := by decide +kernel
theorem dModel_paper_87 : decode prog_14_method_104_code 87 = .ok (.iaload, 1) := by decide +kernel
theorem dModel_paper_88 : decode prog_14_method_104_code 88 = .ok (.ireturn, 1) := by decide +kernel
theorem dModel_paper_89 : decode prog_14_method_104_code 89 = .ok (.aload_n 0, 1) := by decide +kernel
theorem dModel_paper_90 : decode prog_14_method_104_code 90 = .ok (.getfield 528, 3) := by decide +kernel
theorem dModel_paper_93 : decode prog_14_method_104_code 93 = .ok (.iload_n 1, 1) := by decide +kernel
theorem dModel_paper_94 : decode prog_14_method_104_code 94 = .ok (.iaload, 1) := by decide +kernel
theorem dModel_paper_95 : decode prog_14_method_104_code 95 = .ok (.ireturn, 1) := by decide +kernel
theorem dModel_paper_96 : decode prog_14_method_104_code 96 = .ok (.aload_n 0, 1) := by decide +kernel
theorem dModel_paper_97 : decode prog_14_method_104_code 97 = .ok (.getfield 531, 3) := by decide +kernel
theorem dModel_paper_100 : decode prog_14_method_104_code 100 = .ok (.iload_n 1, 1) := by decide +kernel
theorem dModel_paper_101 : decode prog_14_method_104_code 101 = .ok (.iaload, 1) := by decide +kernel
theorem dModel_paper_102 : decode prog_14_method_104_code 102 = .ok (.ireturn, 1) := by decide +kernel
theorem dModel_paper_103 : decode prog_14_method_104_code 103 = .ok (.aload_n 0, 1) := by decide +kernel
theorem dModel_paper_104 : decode prog_14_method_104_code 104 = .ok (.getfield 534, 3) := by decide +kernel
theorem dModel_paper_107 : decode prog_14_method_104_code 107 = .ok (.iload_n 1, 1) := by decide +kernel
theorem dModel_paper_108 : decode prog_14_method_104_code 108 = .ok (.baload, 1) := by decide +kernel
theorem dModel_paper_109 : decode prog_14_method_104_code 109 = .ok (.ifCond .eq 7, 3) := by decide +kernel
theorem dModel_paper_112 : decode prog_14_method_104_code 112 = .ok (.iconst 1, 1) := by decide +kernel
theorem dModel_paper_113 : decode prog_14_method_104_code 113 = .ok (.goto 4, 3) := by decide +kernel
theorem dModel_paper_116 : decode prog_14_method_104_code 116 = .ok (.iconst 0, 1) := by decide +kernel
theorem dModel_paper_117 : decode prog_14_method_104_code 117 = .ok (.ireturn, 1) := by decide +kernel
theorem dModel_paper_118 : decode prog_14_method_104_code 118 = .ok (.aload_n 0, 1) := by decide +kernel
theorem dModel_paper_119 : decode prog_14_method_104_code 119 = .ok (.getfield 447, 3) := by decide +kernel
theorem dModel_paper_122 : decode prog_14_method_104_code 122 = .ok (.iload_n 1, 1) := by decide +kernel
theorem dModel_paper_123 : decode prog_14_method_104_code 123 = .ok (.iaload, 1) := by decide +kernel
theorem dModel_paper_124 : decode prog_14_method_104_code 124 = .ok (.ireturn, 1) := by decide +kernel
theorem dModel_paper_125 : decode prog_14_method_104_code 125 = .ok (.aload_n 0, 1) := by decide +kernel
theorem dModel_paper_126 : decode prog_14_method_104_code 126 = .ok (.getfield 450, 3) := by decide +kernel
theorem dModel_paper_129 : decode prog_14_method_104_code 129 = .ok (.iload_n 1, 1) := by decide +kernel
theorem dModel_paper_130 : decode prog_14_method_104_code 130 = .ok (.baload, 1) := by decide +kernel
theorem dModel_paper_131 : decode prog_14_method_104_code 131 = .ok (.ifCond .eq 7, 3) := by decide +kernel
theorem dModel_paper_134 : decode prog_14_method_104_code 134 = .ok (.iconst 1, 1) := by decide +kernel
theorem dModel_paper_135 : decode prog_14_method_104_code 135 = .ok (.goto 4, 3) := by decide +kernel
theorem dModel_paper_138 : decode prog_14_method_104_code 138 = .ok (.iconst 0, 1) := by decide +kernel
theorem dModel_paper_139 : decode prog_14_method_104_code 139 = .ok (.ireturn, 1) := by decide +kernel
theorem dModel_paper_140 : decode prog_14_method_104_code 140 = .ok (.iconst (-1), 1) := by decide +kernel
theorem dModel_paper_141 : decode prog_14_method_104_code 141 = .ok (.ireturn, 1) := by decide +kernel
theorem dModel_goOn_0 : decode prog_14_method_105_code 0 = .ok (.aload_n 0, 1) := by decide +kernel
theorem dModel_goOn_1 : decode prog_14_method_105_code 1 = .ok (.aload_n 0, 1) := by decide +kernel
theorem dModel_goOn_2 : decode prog_14_method_105_code 2 = .ok (.getfield 766, 3) := by decide +kernel
theorem dModel_goOn_5 : decode prog_14_method_105_code 5 = .ok (.putfield 348, 3) := by decide +kernel
theorem dModel_goOn_8 : decode prog_14_method_105_code 8 = .ok (.aload_n 0, 1) := by decide +kernel
theorem dModel_goOn_9 : decode prog_14_method_105_code 9 = .ok (.iconst 5, 1) := by decide +kernel
theorem dModel_goOn_10 : decode prog_14_method_105_code 10 = .ok (.putfield 516, 3) := by decide +kernel
theorem dModel_goOn_13 : decode prog_14_method_105_code 13 = .ok (.aload_n 0, 1) := by decide +kernel
theorem dModel_goOn_14 : decode prog_14_method_105_code 14 = .ok (.invokevirtual 715, 3) := by decide +kernel
theorem dModel_goOn_17 : decode prog_14_method_105_code 17 = .ok (.aload_n 0, 1) := by decide +kernel
theorem dModel_goOn_18 : decode prog_14_method_105_code 18 = .ok (.invokevirtual 730, 3) := by decide +kernel
theorem dModel_goOn_21 : decode prog_14_method_105_code 21 = .ok (.return_, 1) := by decide +kernel
theorem dModel_way_0 : decode prog_14_method_106_code 0 = .ok (.aload_n 0, 1) := by decide +kernel
theorem dModel_way_1 : decode prog_14_method_106_code 1 = .ok (.getfield 172, 3) := by decide +kernel
theorem dModel_way_4 : decode prog_14_method_106_code 4 = .ok (.ifCond .eq 17, 3) := by decide +kernel
theorem dModel_way_7 : decode prog_14_method_106_code 7 = .ok (.iload_n 1, 1) := by decide +kernel
theorem dModel_way_8 : decode prog_14_method_106_code 8 = .ok (.iconst 0, 1) := by decide +kernel
theorem dModel_way_9 : decode prog_14_method_106_code 9 = .ok (.aload_n 0, 1) := by decide +kernel
theorem dModel_way_10 : decode prog_14_method_106_code 10 = .ok (.getfield 769, 3) := by decide +kernel
theorem dModel_way_13 : decode prog_14_method_106_code 13 = .ok (.iconst 1, 1) := by decide +kernel
theorem dModel_way_14 : decode prog_14_method_106_code 14 = .ok (.isub, 1) := by decide +kernel
theorem dModel_way_15 : decode prog_14_method_106_code 15 = .ok (.invokestatic 393, 3) := by decide +kernel
theorem dModel_way_18 : decode prog_14_method_106_code 18 = .ok (.ifCond .ne 7, 3) := by decide +kernel
theorem dModel_way_21 : decode prog_14_method_106_code 21 = .ok (.ldc2_w 775, 3) := by decide +kernel
theorem dModel_way_24 : decode prog_14_method_106_code 24 = .ok (.lreturn, 1) := by decide +kernel
theorem dModel_way_25 : decode prog_14_method_106_code 25 = .ok (.aload_n 0, 1) := by decide +kernel
theorem dModel_way_26 : decode prog_14_method_106_code 26 = .ok (.invokevirtual 783, 3) := by decide +kernel
theorem dModel_way_29 : decode prog_14_method_106_code 29 = .ok (.aload_n 0, 1) := by decide +kernel
theorem dModel_way_30 : decode prog_14_method_106_code 30 = .ok (.iload_n 1, 1) := by decide +kernel
theorem dModel_way_31 : decode prog_14_method_106_code 31 = .ok (.invokevirtual 733, 3) := by decide +kernel
theorem dModel_way_34 : decode prog_14_method_106_code 34 = .ok (.ifCond .eq 7, 3) := by decide +kernel
theorem dModel_way_37 : decode prog_14_method_106_code 37 = .ok (.ldc2_w 775, 3) := by decide +kernel
theorem dModel_way_40 : decode prog_14_method_106_code 40 = .ok (.lreturn, 1) := by decide +kernel
theorem dModel_way_41 : decode prog_14_method_106_code 41 = .ok (.aload_n 0, 1) := by decide +kernel
theorem dModel_way_42 : decode prog_14_method_106_code 42 = .ok (.iload_n 1, 1) := by decide +kernel
theorem dModel_way_43 : decode prog_14_method_106_code 43 = .ok (.invokevirtual 685, 3) := by decide +kernel
theorem dModel_way_46 : decode prog_14_method_106_code 46 = .ok (.iload_n 2, 1) := by decide +kernel
theorem dModel_way_47 : decode prog_14_method_106_code 47 = .ok (.tableswitch 62 0 4 #[33, 39, 45, 51, 57], 33) := by decide +kernel
theorem dModel_way_80 : decode prog_14_method_106_code 80 = .ok (.aload_n 0, 1) := by decide +kernel
theorem dModel_way_81 : decode prog_14_method_106_code 81 = .ok (.getfield 636, 3) := by decide +kernel
theorem dModel_way_84 : decode prog_14_method_106_code 84 = .ok (.i2l, 1) := by decide +kernel
theorem dModel_way_85 : decode prog_14_method_106_code 85 = .ok (.lreturn, 1) := by decide +kernel
theorem dModel_way_86 : decode prog_14_method_106_code 86 = .ok (.aload_n 0, 1) := by decide +kernel
theorem dModel_way_87 : decode prog_14_method_106_code 87 = .ok (.getfield 639, 3) := by decide +kernel
theorem dModel_way_90 : decode prog_14_method_106_code 90 = .ok (.i2l, 1) := by decide +kernel
theorem dModel_way_91 : decode prog_14_method_106_code 91 = .ok (.lreturn, 1) := by decide +kernel
theorem dModel_way_92 : decode prog_14_method_106_code 92 = .ok (.aload_n 0, 1) := by decide +kernel
theorem dModel_way_93 : decode prog_14_method_106_code 93 = .ok (.getfield 642, 3) := by decide +kernel
theorem dModel_way_96 : decode prog_14_method_106_code 96 = .ok (.i2l, 1) := by decide +kernel
theorem dModel_way_97 : decode prog_14_method_106_code 97 = .ok (.lreturn, 1) := by decide +kernel
theorem dModel_way_98 : decode prog_14_method_106_code 98 = .ok (.aload_n 0, 1) := by decide +kernel
theorem dModel_way_99 : decode prog_14_method_106_code 99 = .ok (.getfield 645, 3) := by decide +kernel
theorem dModel_way_102 : decode prog_14_method_106_code 102 = .ok (.i2l, 1) := by decide +kernel
theorem dModel_way_103 : decode prog_14_method_106_code 103 = .ok (.lreturn, 1) := by decide +kernel
theorem dModel_way_104 : decode prog_14_method_106_code 104 = .ok (.aload_n 0, 1) := by decide +kernel
theorem dModel_way_105 : decode prog_14_method_106_code 105 = .ok (.getfield 633, 3) := by decide +kernel
theorem dModel_way_108 : decode prog_14_method_106_code 108 = .ok (.lreturn, 1) := by decide +kernel
theorem dModel_way_109 : decode prog_14_method_106_code 109 = .ok (.ldc2_w 775, 3) := by decide +kernel
theorem dModel_way_112 : decode prog_14_method_106_code 112 = .ok (.lreturn, 1) := by decide +kernel
theorem dModel_worth_0 : decode prog_14_method_107_code 0 = .ok (.aload_n 0, 1) := by decide +kernel
theorem dModel_worth_1 : decode prog_14_method_107_code 1 = .ok (.getfield 172, 3) := by decide +kernel
theorem dModel_worth_4 : decode prog_14_method_107_code 4 = .ok (.ifCond .eq 17, 3) := by decide +kernel
theorem dModel_worth_7 : decode prog_14_method_107_code 7 = .ok (.iload_n 1, 1) := by decide +kernel
theorem dModel_worth_8 : decode prog_14_method_107_code 8 = .ok (.iconst 0, 1) := by decide +kernel
theorem dModel_worth_9 : decode prog_14_method_107_code 9 = .ok (.aload_n 0, 1) := by decide +kernel
theorem dModel_worth_10 : decode prog_14_method_107_code 10 = .ok (.invokevirtual 433, 3) := by decide +kernel
theorem dModel_worth_13 : decode prog_14_method_107_code 13 = .ok (.iconst 1, 1) := by decide +kernel
theorem dModel_worth_14 : decode prog_14_method_107_code 14 = .ok (.isub, 1) := by decide +kernel
theorem dModel_worth_15 : decode prog_14_method_107_code 15 = .ok (.invokestatic 393, 3) := by decide +kernel
theorem dModel_worth_18 : decode prog_14_method_107_code 18 = .ok (.ifCond .ne 7, 3) := by decide +kernel
theorem dModel_worth_21 : decode prog_14_method_107_code 21 = .ok (.ldc2_w 483, 3) := by decide +kernel
theorem dModel_worth_24 : decode prog_14_method_107_code 24 = .ok (.lreturn, 1) := by decide +kernel
theorem dModel_worth_25 : decode prog_14_method_107_code 25 = .ok (.aload_n 0, 1) := by decide +kernel
theorem dModel_worth_26 : decode prog_14_method_107_code 26 = .ok (.invokevirtual 783, 3) := by decide +kernel
theorem dModel_worth_29 : decode prog_14_method_107_code 29 = .ok (.aload_n 0, 1) := by decide +kernel
theorem dModel_worth_30 : decode prog_14_method_107_code 30 = .ok (.iload_n 1, 1) := by decide +kernel
theorem dModel_worth_31 : decode prog_14_method_107_code 31 = .ok (.invokevirtual 509, 3) := by decide +kernel
theorem dModel_worth_34 : decode prog_14_method_107_code 34 = .ok (.lreturn, 1) := by decide +kernel
theorem dModel_tryOut_0 : decode prog_14_method_108_code 0 = .ok (.aload_n 0, 1) := by decide +kernel
theorem dModel_tryOut_1 : decode prog_14_method_108_code 1 = .ok (.iload_n 2, 1) := by decide +kernel
theorem dModel_tryOut_2 : decode prog_14_method_108_code 2 = .ok (.iload_n 3, 1) := by decide +kernel
theorem dModel_tryOut_3 : decode prog_14_method_108_code 3 = .ok (.iload 4, 2) := by decide +kernel
theorem dModel_tryOut_5 : decode prog_14_method_108_code 5 = .ok (.invokevirtual 763, 3) := by decide +kernel
theorem dModel_tryOut_8 : decode prog_14_method_108_code 8 = .ok (.aload_n 0, 1) := by decide +kernel
theorem dModel_tryOut_9 : decode prog_14_method_108_code 9 = .ok (.getfield 786, 3) := by decide +kernel
theorem dModel_tryOut_12 : decode prog_14_method_108_code 12 = .ok (.iload_n 1, 1) := by decide +kernel
theorem dModel_tryOut_13 : decode prog_14_method_108_code 13 = .ok (.aload_n 0, 1) := by decide +kernel
theorem dModel_tryOut_14 : decode prog_14_method_108_code 14 = .ok (.getfield 630, 3) := by decide +kernel
theorem dModel_tryOut_17 : decode prog_14_method_108_code 17 = .ok (.lastore, 1) := by decide +kernel
theorem dModel_tryOut_18 : decode prog_14_method_108_code 18 = .ok (.aload_n 0, 1) := by decide +kernel
theorem dModel_tryOut_19 : decode prog_14_method_108_code 19 = .ok (.getfield 789, 3) := by decide +kernel
theorem dModel_tryOut_22 : decode prog_14_method_108_code 22 = .ok (.iload_n 1, 1) := by decide +kernel
theorem dModel_tryOut_23 : decode prog_14_method_108_code 23 = .ok (.aload_n 0, 1) := by decide +kernel
theorem dModel_tryOut_24 : decode prog_14_method_108_code 24 = .ok (.getfield 614, 3) := by decide +kernel
theorem dModel_tryOut_27 : decode prog_14_method_108_code 27 = .ok (.lastore, 1) := by decide +kernel
theorem dModel_tryOut_28 : decode prog_14_method_108_code 28 = .ok (.aload_n 0, 1) := by decide +kernel
theorem dModel_tryOut_29 : decode prog_14_method_108_code 29 = .ok (.getfield 792, 3) := by decide +kernel
theorem dModel_tryOut_32 : decode prog_14_method_108_code 32 = .ok (.iload_n 1, 1) := by decide +kernel
theorem dModel_tryOut_33 : decode prog_14_method_108_code 33 = .ok (.aload_n 0, 1) := by decide +kernel
theorem dModel_tryOut_34 : decode prog_14_method_108_code 34 = .ok (.getfield 611, 3) := by decide +kernel
theorem dModel_tryOut_37 : decode prog_14_method_108_code 37 = .ok (.lastore, 1) := by decide +kernel
theorem dModel_tryOut_38 : decode prog_14_method_108_code 38 = .ok (.aload_n 0, 1) := by decide +kernel
theorem dModel_tryOut_39 : decode prog_14_method_108_code 39 = .ok (.getfield 795, 3) := by decide +kernel
theorem dModel_tryOut_42 : decode prog_14_method_108_code 42 = .ok (.iload_n 1, 1) := by decide +kernel
theorem dModel_tryOut_43 : decode prog_14_method_108_code 43 = .ok (.aload_n 0, 1) := by decide +kernel
theorem dModel_tryOut_44 : decode prog_14_method_108_code 44 = .ok (.getfield 581, 3) := by decide +kernel
theorem dModel_tryOut_47 : decode prog_14_method_108_code 47 = .ok (.lastore, 1) := by decide +kernel
theorem dModel_tryOut_48 : decode prog_14_method_108_code 48 = .ok (.return_, 1) := by decide +kernel
theorem dModel_judge_0 : decode prog_14_method_109_code 0 = .ok (.iload_n 1, 1) := by decide +kernel
theorem dModel_judge_1 : decode prog_14_method_109_code 1 = .ok (.iconst 0, 1) := by decide +kernel
theorem dModel_judge_2 : decode prog_14_method_109_code 2 = .ok (.iconst 3, 1) := by decide +kernel
theorem dModel_judge_3 : decode prog_14_method_109_code 3 = .ok (.invokestatic 393, 3) := by decide +kernel
theorem dModel_judge_6 : decode prog_14_method_109_code 6 = .ok (.ifCond .eq 23, 3) := by decide +kernel
theorem dModel_judge_9 : decode prog_14_method_109_code 9 = .ok (.iload_n 2, 1) := by decide +kernel
theorem dModel_judge_10 : decode prog_14_method_109_code 10 = .ok (.iconst 0, 1) := by decide +kernel
theorem dModel_judge_11 : decode prog_14_method_109_code 11 = .ok (.iconst 3, 1) := by decide +kernel
theorem dModel_judge_12 : decode prog_14_method_109_code 12 = .ok (.invokestatic 393, 3) := by decide +kernel
theorem dModel_judge_15 : decode prog_14_method_109_code 15 = .ok (.ifCond .eq 14, 3) := by decide +kernel
theorem dModel_judge_18 : decode prog_14_method_109_code 18 = .ok (.iload_n 3, 1) := by decide +kernel
theorem dModel_judge_19 : decode prog_14_method_109_code 19 = .ok (.iconst 0, 1) := by decide +kernel
theorem dModel_judge_20 : decode prog_14_method_109_code 20 = .ok (.sipush 240, 3) := by decide +kernel
theorem dModel_judge_23 : decode prog_14_method_109_code 23 = .ok (.invokestatic 393, 3) := by decide +kernel
theorem dModel_judge_26 : decode prog_14_method_109_code 26 = .ok (.ifCond .ne 5, 3) := by decide +kernel
theorem dModel_judge_29 : decode prog_14_method_109_code 29 = .ok (.iconst (-1), 1) := by decide +kernel
theorem dModel_judge_30 : decode prog_14_method_109_code 30 = .ok (.ireturn, 1) := by decide +kernel
theorem dModel_judge_31 : decode prog_14_method_109_code 31 = .ok (.aload_n 0, 1) := by decide +kernel
theorem dModel_judge_32 : decode prog_14_method_109_code 32 = .ok (.iconst 0, 1) := by decide +kernel
theorem dModel_judge_33 : decode prog_14_method_109_code 33 = .ok (.iload_n 1, 1) := by decide +kernel
theorem dModel_judge_34 : decode prog_14_method_109_code 34 = .ok (.iload_n 3, 1) := by decide +kernel
theorem dModel_judge_35 : decode prog_14_method_109_code 35 = .ok (.iload 4, 2) := by decide +kernel
theorem dModel_judge_37 : decode prog_14_method_109_code 37 = .ok (.invokevirtual 798, 3) := by decide +kernel
theorem dModel_judge_40 : decode prog_14_method_109_code 40 = .ok (.aload_n 0, 1) := by decide +kernel
theorem dModel_judge_41 : decode prog_14_method_109_code 41 = .ok (.iconst 1, 1) := by decide +kernel
theorem dModel_judge_42 : decode prog_14_method_109_code 42 = .ok (.iload_n 2, 1) := by decide +kernel
theorem dModel_judge_43 : decode prog_14_method_109_code 43 = .ok (.iload_n 3, 1) := by decide +kernel
theorem dModel_judge_44 : decode prog_14_method_109_code 44 = .ok (.iload 4, 2) := by decide +kernel
theorem dModel_judge_46 : decode prog_14_method_109_code 46 = .ok (.invokevirtual 798, 3) := by decide +kernel
theorem dModel_judge_49 : decode prog_14_method_109_code 49 = .ok (.aload_n 0, 1) := by decide +kernel
theorem dModel_judge_50 : decode prog_14_method_109_code 50 = .ok (.getfield 172, 3) := by decide +kernel
theorem dModel_judge_53 : decode prog_14_method_109_code 53 = .ok (.ifCond .eq 7, 3) := by decide +kernel
theorem dModel_judge_56 : decode prog_14_method_109_code 56 = .ok (.aload_n 0, 1) := by decide +kernel
theorem dModel_judge_57 : decode prog_14_method_109_code 57 = .ok (.invokevirtual 802, 3) := by decide +kernel
theorem dModel_judge_60 : decode prog_14_method_109_code 60 = .ok (.aload_n 0, 1) := by decide +kernel
theorem dModel_judge_61 : decode prog_14_method_109_code 61 = .ok (.getfield 786, 3) := by decide +kernel
theorem dModel_judge_64 : decode prog_14_method_109_code 64 = .ok (.iconst 0, 1) := by decide +kernel
theorem dModel_judge_65 : decode prog_14_method_109_code 65 = .ok (.laload, 1) := by decide +kernel
theorem dModel_judge_66 : decode prog_14_method_109_code 66 = .ok (.aload_n 0, 1) := by decide +kernel
theorem dModel_judge_67 : decode prog_14_method_109_code 67 = .ok (.getfield 786, 3) := by decide +kernel
theorem dModel_judge_70 : decode prog_14_method_109_code 70 = .ok (.iconst 1, 1) := by decide +kernel
theorem dModel_judge_71 : decode prog_14_method_109_code 71 = .ok (.laload, 1) := by decide +kernel
theorem dModel_judge_72 : decode prog_14_method_109_code 72 = .ok (.lcmp, 1) := by decide +kernel
theorem dModel_judge_73 : decode prog_14_method_109_code 73 = .ok (.ifCond .eq 25, 3) := by decide +kernel
theorem dModel_judge_76 : decode prog_14_method_109_code 76 = .ok (.aload_n 0, 1) := by decide +kernel
theorem dModel_judge_77 : decode prog_14_method_109_code 77 = .ok (.getfield 786, 3) := by decide +kernel
theorem dModel_judge_80 : decode prog_14_method_109_code 80 = .ok (.iconst 0, 1) := by decide +kernel
theorem dModel_judge_81 : decode prog_14_method_109_code 81 = .ok (.laload, 1) := by decide +kernel
theorem dModel_judge_82 : decode prog_14_method_109_code 82 = .ok (.aload_n 0, 1) := by decide +kernel
theorem dModel_judge_83 : decode prog_14_method_109_code 83 = .ok (.getfield 786, 3) := by decide +kernel
theorem dModel_judge_86 : decode prog_14_method_109_code 86 = .ok (.iconst 1, 1) := by decide +kernel
theorem dModel_judge_87 : decode prog_14_method_109_code 87 = .ok (.laload, 1) := by decide +kernel
theorem dModel_judge_88 : decode prog_14_method_109_code 88 = .ok (.lcmp, 1) := by decide +kernel
theorem dModel_judge_89 : decode prog_14_method_109_code 89 = .ok (.ifCond .ge 7, 3) := by decide +kernel
theorem dModel_judge_92 : decode prog_14_method_109_code 92 = .ok (.iconst 0, 1) := by decide +kernel
theorem dModel_judge_93 : decode prog_14_method_109_code 93 = .ok (.goto 4, 3) := by decide +kernel
theorem dModel_judge_96 : decode prog_14_method_109_code 96 = .ok (.iconst 1, 1) := by decide +kernel
theorem dModel_judge_97 : decode prog_14_method_109_code 97 = .ok (.ireturn, 1) := by decide +kernel
theorem dModel_judge_98 : decode prog_14_method_109_code 98 = .ok (.aload_n 0, 1) := by decide +kernel
theorem dModel_judge_99 : decode prog_14_method_109_code 99 = .ok (.getfield 792, 3) := by decide +kernel
theorem dModel_judge_102 : decode prog_14_method_109_code 102 = .ok (.iconst 0, 1) := by decide +kernel
theorem dModel_judge_103 : decode prog_14_method_109_code 103 = .ok (.laload, 1) := by decide +kernel
theorem dModel_judge_104 : decode prog_14_method_109_code 104 = .ok (.lconst 0, 1) := by decide +kernel
theorem dModel_judge_105 : decode prog_14_method_109_code 105 = .ok (.lcmp, 1) := by decide +kernel
theorem dModel_judge_106 : decode prog_14_method_109_code 106 = .ok (.ifCond .ne 7, 3) := by decide +kernel
theorem dModel_judge_109 : decode prog_14_method_109_code 109 = .ok (.iconst 1, 1) := by decide +kernel
theorem dModel_judge_110 : decode prog_14_method_109_code 110 = .ok (.goto 4, 3) := by decide +kernel
theorem dModel_judge_113 : decode prog_14_method_109_code 113 = .ok (.iconst 0, 1) := by decide +kernel
theorem dModel_judge_114 : decode prog_14_method_109_code 114 = .ok (.aload_n 0, 1) := by decide +kernel
theorem dModel_judge_115 : decode prog_14_method_109_code 115 = .ok (.getfield 792, 3) := by decide +kernel
theorem dModel_judge_118 : decode prog_14_method_109_code 118 = .ok (.iconst 1, 1) := by decide +kernel
theorem dModel_judge_119 : decode prog_14_method_109_code 119 = .ok (.laload, 1) := by decide +kernel
theorem dModel_judge_120 : decode prog_14_method_109_code 120 = .ok (.lconst 0, 1) := by decide +kernel
theorem dModel_judge_121 : decode prog_14_method_109_code 121 = .ok (.lcmp, 1) := by decide +kernel
theorem dModel_judge_122 : decode prog_14_method_109_code 122 = .ok (.ifCond .ne 7, 3) := by decide +kernel
theorem dModel_judge_125 : decode prog_14_method_109_code 125 = .ok (.iconst 1, 1) := by decide +kernel
theorem dModel_judge_126 : decode prog_14_method_109_code 126 = .ok (.goto 4, 3) := by decide +kernel
theorem dModel_judge_129 : decode prog_14_method_109_code 129 = .ok (.iconst 0, 1) := by decide +kernel
theorem dModel_judge_130 : decode prog_14_method_109_code 130 = .ok (.if_icmp .eq 20, 3) := by decide +kernel
theorem dModel_judge_133 : decode prog_14_method_109_code 133 = .ok (.aload_n 0, 1) := by decide +kernel
theorem dModel_judge_134 : decode prog_14_method_109_code 134 = .ok (.getfield 792, 3) := by decide +kernel
theorem dModel_judge_137 : decode prog_14_method_109_code 137 = .ok (.iconst 0, 1) := by decide +kernel
theorem dModel_judge_138 : decode prog_14_method_109_code 138 = .ok (.laload, 1) := by decide +kernel
theorem dModel_judge_139 : decode prog_14_method_109_code 139 = .ok (.lconst 0, 1) := by decide +kernel
theorem dModel_judge_140 : decode prog_14_method_109_code 140 = .ok (.lcmp, 1) := by decide +kernel
theorem dModel_judge_141 : decode prog_14_method_109_code 141 = .ok (.ifCond .le 7, 3) := by decide +kernel
theorem dModel_judge_144 : decode prog_14_method_109_code 144 = .ok (.iconst 0, 1) := by decide +kernel
