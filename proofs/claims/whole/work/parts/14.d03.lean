/-! Decode rows: by program. -/
theorem dOffice_days_4 : decode prog_1_method_7_code 4 = .ok (.iload_n 1, 1) := by decide +kernel
theorem dOffice_days_5 : decode prog_1_method_7_code 5 = .ok (.iload_n 2, 1) := by decide +kernel
theorem dOffice_days_6 : decode prog_1_method_7_code 6 = .ok (.invokevirtual 105, 3) := by decide +kernel
theorem dOffice_days_9 : decode prog_1_method_7_code 9 = .ok (.ireturn, 1) := by decide +kernel
theorem dOffice_merchant_0 : decode prog_1_method_8_code 0 = .ok (.iload_n 1, 1) := by decide +kernel
theorem dOffice_merchant_1 : decode prog_1_method_8_code 1 = .ok (.ifCond .lt 22, 3) := by decide +kernel
theorem dOffice_merchant_4 : decode prog_1_method_8_code 4 = .ok (.iload_n 1, 1) := by decide +kernel
theorem dOffice_merchant_5 : decode prog_1_method_8_code 5 = .ok (.sipush 30000, 3) := by decide +kernel
theorem dOffice_merchant_8 : decode prog_1_method_8_code 8 = .ok (.if_icmp .gt 15, 3) := by decide +kernel
theorem dOffice_merchant_11 : decode prog_1_method_8_code 11 = .ok (.aload_n 0, 1) := by decide +kernel
theorem dOffice_merchant_12 : decode prog_1_method_8_code 12 = .ok (.getfield 40, 3) := by decide +kernel
theorem dOffice_merchant_15 : decode prog_1_method_8_code 15 = .ok (.getfield 109, 3) := by decide +kernel
theorem dOffice_merchant_18 : decode prog_1_method_8_code 18 = .ok (.bipush 6, 2) := by decide +kernel
theorem dOffice_merchant_20 : decode prog_1_method_8_code 20 = .ok (.if_icmp .lt 5, 3) := by decide +kernel
theorem dOffice_merchant_23 : decode prog_1_method_8_code 23 = .ok (.iconst (-1), 1) := by decide +kernel
theorem dOffice_merchant_24 : decode prog_1_method_8_code 24 = .ok (.ireturn, 1) := by decide +kernel
theorem dOffice_merchant_25 : decode prog_1_method_8_code 25 = .ok (.aload_n 0, 1) := by decide +kernel
theorem dOffice_merchant_26 : decode prog_1_method_8_code 26 = .ok (.getfield 58, 3) := by decide +kernel
theorem dOffice_merchant_29 : decode prog_1_method_8_code 29 = .ok (.iconst 0, 1) := by decide +kernel
theorem dOffice_merchant_30 : decode prog_1_method_8_code 30 = .ok (.putfield 79, 3) := by decide +kernel
theorem dOffice_merchant_33 : decode prog_1_method_8_code 33 = .ok (.aload_n 0, 1) := by decide +kernel
theorem dOffice_merchant_34 : decode prog_1_method_8_code 34 = .ok (.getfield 40, 3) := by decide +kernel
theorem dOffice_merchant_37 : decode prog_1_method_8_code 37 = .ok (.getfield 112, 3) := by decide +kernel
theorem dOffice_merchant_40 : decode prog_1_method_8_code 40 = .ok (.aload_n 0, 1) := by decide +kernel
theorem dOffice_merchant_41 : decode prog_1_method_8_code 41 = .ok (.getfield 40, 3) := by decide +kernel
theorem dOffice_merchant_44 : decode prog_1_method_8_code 44 = .ok (.getfield 109, 3) := by decide +kernel
theorem dOffice_merchant_47 : decode prog_1_method_8_code 47 = .ok (.iload_n 1, 1) := by decide +kernel
theorem dOffice_merchant_48 : decode prog_1_method_8_code 48 = .ok (.iastore, 1) := by decide +kernel
theorem dOffice_merchant_49 : decode prog_1_method_8_code 49 = .ok (.aload_n 0, 1) := by decide +kernel
theorem dOffice_merchant_50 : decode prog_1_method_8_code 50 = .ok (.getfield 40, 3) := by decide +kernel
theorem dOffice_merchant_53 : decode prog_1_method_8_code 53 = .ok (.dup, 1) := by decide +kernel
theorem dOffice_merchant_54 : decode prog_1_method_8_code 54 = .ok (.getfield 109, 3) := by decide +kernel
theorem dOffice_merchant_57 : decode prog_1_method_8_code 57 = .ok (.iconst 1, 1) := by decide +kernel
theorem dOffice_merchant_58 : decode prog_1_method_8_code 58 = .ok (.iadd, 1) := by decide +kernel
theorem dOffice_merchant_59 : decode prog_1_method_8_code 59 = .ok (.putfield 109, 3) := by decide +kernel
theorem dOffice_merchant_62 : decode prog_1_method_8_code 62 = .ok (.aload_n 0, 1) := by decide +kernel
theorem dOffice_merchant_63 : decode prog_1_method_8_code 63 = .ok (.getfield 40, 3) := by decide +kernel
theorem dOffice_merchant_66 : decode prog_1_method_8_code 66 = .ok (.getfield 109, 3) := by decide +kernel
theorem dOffice_merchant_69 : decode prog_1_method_8_code 69 = .ok (.iconst 1, 1) := by decide +kernel
theorem dOffice_merchant_70 : decode prog_1_method_8_code 70 = .ok (.isub, 1) := by decide +kernel
theorem dOffice_merchant_71 : decode prog_1_method_8_code 71 = .ok (.ireturn, 1) := by decide +kernel
theorem dOffice_costs_0 : decode prog_1_method_9_code 0 = .ok (.iload_n 1, 1) := by decide +kernel
theorem dOffice_costs_1 : decode prog_1_method_9_code 1 = .ok (.iconst 0, 1) := by decide +kernel
theorem dOffice_costs_2 : decode prog_1_method_9_code 2 = .ok (.bipush 99, 2) := by decide +kernel
theorem dOffice_costs_4 : decode prog_1_method_9_code 4 = .ok (.invokestatic 116, 3) := by decide +kernel
theorem dOffice_costs_7 : decode prog_1_method_9_code 7 = .ok (.ifCond .eq 27, 3) := by decide +kernel
theorem dOffice_costs_10 : decode prog_1_method_9_code 10 = .ok (.iload_n 2, 1) := by decide +kernel
theorem dOffice_costs_11 : decode prog_1_method_9_code 11 = .ok (.iconst 1, 1) := by decide +kernel
theorem dOffice_costs_12 : decode prog_1_method_9_code 12 = .ok (.bipush 50, 2) := by decide +kernel
theorem dOffice_costs_14 : decode prog_1_method_9_code 14 = .ok (.invokestatic 116, 3) := by decide +kernel
theorem dOffice_costs_17 : decode prog_1_method_9_code 17 = .ok (.ifCond .eq 17, 3) := by decide +kernel
theorem dOffice_costs_20 : decode prog_1_method_9_code 20 = .ok (.iload_n 3, 1) := by decide +kernel
theorem dOffice_costs_21 : decode prog_1_method_9_code 21 = .ok (.iconst 0, 1) := by decide +kernel
theorem dOffice_costs_22 : decode prog_1_method_9_code 22 = .ok (.bipush 99, 2) := by decide +kernel
theorem dOffice_costs_24 : decode prog_1_method_9_code 24 = .ok (.invokestatic 116, 3) := by decide +kernel
theorem dOffice_costs_27 : decode prog_1_method_9_code 27 = .ok (.ifCond .eq 7, 3) := by decide +kernel
theorem dOffice_costs_30 : decode prog_1_method_9_code 30 = .ok (.iconst 1, 1) := by decide +kernel
theorem dOffice_costs_31 : decode prog_1_method_9_code 31 = .ok (.goto 4, 3) := by decide +kernel
theorem dOffice_costs_34 : decode prog_1_method_9_code 34 = .ok (.iconst 0, 1) := by decide +kernel
theorem dOffice_costs_35 : decode prog_1_method_9_code 35 = .ok (.istore 6, 2) := by decide +kernel
theorem dOffice_costs_37 : decode prog_1_method_9_code 37 = .ok (.iload 6, 2) := by decide +kernel
theorem dOffice_costs_39 : decode prog_1_method_9_code 39 = .ok (.ifCond .eq 27, 3) := by decide +kernel
theorem dOffice_costs_42 : decode prog_1_method_9_code 42 = .ok (.iload 4, 2) := by decide +kernel
theorem dOffice_costs_44 : decode prog_1_method_9_code 44 = .ok (.iconst 0, 1) := by decide +kernel
theorem dOffice_costs_45 : decode prog_1_method_9_code 45 = .ok (.sipush 9999, 3) := by decide +kernel
theorem dOffice_costs_48 : decode prog_1_method_9_code 48 = .ok (.invokestatic 116, 3) := by decide +kernel
theorem dOffice_costs_51 : decode prog_1_method_9_code 51 = .ok (.ifCond .eq 15, 3) := by decide +kernel
theorem dOffice_costs_54 : decode prog_1_method_9_code 54 = .ok (.iload 5, 2) := by decide +kernel
theorem dOffice_costs_56 : decode prog_1_method_9_code 56 = .ok (.iconst 0, 1) := by decide +kernel
theorem dOffice_costs_57 : decode prog_1_method_9_code 57 = .ok (.sipush 999, 3) := by decide +kernel
theorem dOffice_costs_60 : decode prog_1_method_9_code 60 = .ok (.invokestatic 116, 3) := by decide +kernel
theorem dOffice_costs_63 : decode prog_1_method_9_code 63 = .ok (.ifCond .ne 5, 3) := by decide +kernel
theorem dOffice_costs_66 : decode prog_1_method_9_code 66 = .ok (.iconst 0, 1) := by decide +kernel
theorem dOffice_costs_67 : decode prog_1_method_9_code 67 = .ok (.ireturn, 1) := by decide +kernel
theorem dOffice_costs_68 : decode prog_1_method_9_code 68 = .ok (.aload_n 0, 1) := by decide +kernel
theorem dOffice_costs_69 : decode prog_1_method_9_code 69 = .ok (.getfield 40, 3) := by decide +kernel
theorem dOffice_costs_72 : decode prog_1_method_9_code 72 = .ok (.iload_n 1, 1) := by decide +kernel
theorem dOffice_costs_73 : decode prog_1_method_9_code 73 = .ok (.putfield 120, 3) := by decide +kernel
theorem dOffice_costs_76 : decode prog_1_method_9_code 76 = .ok (.aload_n 0, 1) := by decide +kernel
theorem dOffice_costs_77 : decode prog_1_method_9_code 77 = .ok (.getfield 40, 3) := by decide +kernel
theorem dOffice_costs_80 : decode prog_1_method_9_code 80 = .ok (.iload_n 2, 1) := by decide +kernel
theorem dOffice_costs_81 : decode prog_1_method_9_code 81 = .ok (.putfield 123, 3) := by decide +kernel
theorem dOffice_costs_84 : decode prog_1_method_9_code 84 = .ok (.aload_n 0, 1) := by decide +kernel
theorem dOffice_costs_85 : decode prog_1_method_9_code 85 = .ok (.getfield 40, 3) := by decide +kernel
theorem dOffice_costs_88 : decode prog_1_method_9_code 88 = .ok (.iload_n 3, 1) := by decide +kernel
theorem dOffice_costs_89 : decode prog_1_method_9_code 89 = .ok (.putfield 126, 3) := by decide +kernel
theorem dOffice_costs_92 : decode prog_1_method_9_code 92 = .ok (.aload_n 0, 1) := by decide +kernel
theorem dOffice_costs_93 : decode prog_1_method_9_code 93 = .ok (.getfield 40, 3) := by decide +kernel
theorem dOffice_costs_96 : decode prog_1_method_9_code 96 = .ok (.iload 4, 2) := by decide +kernel
theorem dOffice_costs_98 : decode prog_1_method_9_code 98 = .ok (.putfield 129, 3) := by decide +kernel
theorem dOffice_costs_101 : decode prog_1_method_9_code 101 = .ok (.aload_n 0, 1) := by decide +kernel
theorem dOffice_costs_102 : decode prog_1_method_9_code 102 = .ok (.getfield 40, 3) := by decide +kernel
theorem dOffice_costs_105 : decode prog_1_method_9_code 105 = .ok (.iload 5, 2) := by decide +kernel
theorem dOffice_costs_107 : decode prog_1_method_9_code 107 = .ok (.putfield 132, 3) := by decide +kernel
theorem dOffice_costs_110 : decode prog_1_method_9_code 110 = .ok (.aload_n 0, 1) := by decide +kernel
theorem dOffice_costs_111 : decode prog_1_method_9_code 111 = .ok (.getfield 58, 3) := by decide +kernel
theorem dOffice_costs_114 : decode prog_1_method_9_code 114 = .ok (.iconst 0, 1) := by decide +kernel
theorem dOffice_costs_115 : decode prog_1_method_9_code 115 = .ok (.putfield 79, 3) := by decide +kernel
theorem dOffice_costs_118 : decode prog_1_method_9_code 118 = .ok (.iconst 1, 1) := by decide +kernel
theorem dOffice_costs_119 : decode prog_1_method_9_code 119 = .ok (.ireturn, 1) := by decide +kernel
theorem dOffice_weather_0 : decode prog_1_method_10_code 0 = .ok (.iload_n 1, 1) := by decide +kernel
theorem dOffice_weather_1 : decode prog_1_method_10_code 1 = .ok (.ifCond .lt 25, 3) := by decide +kernel
theorem dOffice_weather_4 : decode prog_1_method_10_code 4 = .ok (.iload_n 1, 1) := by decide +kernel
theorem dOffice_weather_5 : decode prog_1_method_10_code 5 = .ok (.aload_n 0, 1) := by decide +kernel
theorem dOffice_weather_6 : decode prog_1_method_10_code 6 = .ok (.getfield 19, 3) := by decide +kernel
theorem dOffice_weather_9 : decode prog_1_method_10_code 9 = .ok (.getfield 89, 3) := by decide +kernel
theorem dOffice_weather_12 : decode prog_1_method_10_code 12 = .ok (.if_icmp .ge 14, 3) := by decide +kernel
theorem dOffice_weather_15 : decode prog_1_method_10_code 15 = .ok (.iload_n 3, 1) := by decide +kernel
theorem dOffice_weather_16 : decode prog_1_method_10_code 16 = .ok (.iconst 0, 1) := by decide +kernel
theorem dOffice_weather_17 : decode prog_1_method_10_code 17 = .ok (.sipush 300, 3) := by decide +kernel
theorem dOffice_weather_20 : decode prog_1_method_10_code 20 = .ok (.invokestatic 116, 3) := by decide +kernel
theorem dOffice_weather_23 : decode prog_1_method_10_code 23 = .ok (.ifCond .ne 5, 3) := by decide +kernel
theorem dOffice_weather_26 : decode prog_1_method_10_code 26 = .ok (.iconst (-1), 1) := by decide +kernel
theorem dOffice_weather_27 : decode prog_1_method_10_code 27 = .ok (.ireturn, 1) := by decide +kernel
theorem dOffice_weather_28 : decode prog_1_method_10_code 28 = .ok (.aload_n 0, 1) := by decide +kernel
theorem dOffice_weather_29 : decode prog_1_method_10_code 29 = .ok (.iconst 0, 1) := by decide +kernel
theorem dOffice_weather_30 : decode prog_1_method_10_code 30 = .ok (.iload_n 1, 1) := by decide +kernel
theorem dOffice_weather_31 : decode prog_1_method_10_code 31 = .ok (.iload_n 2, 1) := by decide +kernel
theorem dOffice_weather_32 : decode prog_1_method_10_code 32 = .ok (.iload_n 3, 1) := by decide +kernel
theorem dOffice_weather_33 : decode prog_1_method_10_code 33 = .ok (.invokevirtual 135, 3) := by decide +kernel
theorem dOffice_weather_36 : decode prog_1_method_10_code 36 = .ok (.ireturn, 1) := by decide +kernel
theorem dOffice_forged_0 : decode prog_1_method_11_code 0 = .ok (.iload_n 1, 1) := by decide +kernel
theorem dOffice_forged_1 : decode prog_1_method_11_code 1 = .ok (.ifCond .lt 10, 3) := by decide +kernel
theorem dOffice_forged_4 : decode prog_1_method_11_code 4 = .ok (.iload_n 1, 1) := by decide +kernel
theorem dOffice_forged_5 : decode prog_1_method_11_code 5 = .ok (.sipush 2000, 3) := by decide +kernel
theorem dOffice_forged_8 : decode prog_1_method_11_code 8 = .ok (.if_icmp .lt 5, 3) := by decide +kernel
theorem dOffice_forged_11 : decode prog_1_method_11_code 11 = .ok (.iconst (-1), 1) := by decide +kernel
theorem dOffice_forged_12 : decode prog_1_method_11_code 12 = .ok (.ireturn, 1) := by decide +kernel
theorem dOffice_forged_13 : decode prog_1_method_11_code 13 = .ok (.aload_n 0, 1) := by decide +kernel
theorem dOffice_forged_14 : decode prog_1_method_11_code 14 = .ok (.iconst 1, 1) := by decide +kernel
theorem dOffice_forged_15 : decode prog_1_method_11_code 15 = .ok (.iload_n 1, 1) := by decide +kernel
theorem dOffice_forged_16 : decode prog_1_method_11_code 16 = .ok (.iload_n 2, 1) := by decide +kernel
theorem dOffice_forged_17 : decode prog_1_method_11_code 17 = .ok (.iconst 0, 1) := by decide +kernel
theorem dOffice_forged_18 : decode prog_1_method_11_code 18 = .ok (.invokevirtual 135, 3) := by decide +kernel
theorem dOffice_forged_21 : decode prog_1_method_11_code 21 = .ok (.ireturn, 1) := by decide +kernel
theorem dOffice_dead_0 : decode prog_1_method_12_code 0 = .ok (.iload_n 1, 1) := by decide +kernel
theorem dOffice_dead_1 : decode prog_1_method_12_code 1 = .ok (.ifCond .lt 19, 3) := by decide +kernel
theorem dOffice_dead_4 : decode prog_1_method_12_code 4 = .ok (.iload_n 1, 1) := by decide +kernel
theorem dOffice_dead_5 : decode prog_1_method_12_code 5 = .ok (.aload_n 0, 1) := by decide +kernel
theorem dOffice_dead_6 : decode prog_1_method_12_code 6 = .ok (.getfield 40, 3) := by decide +kernel
theorem dOffice_dead_9 : decode prog_1_method_12_code 9 = .ok (.getfield 109, 3) := by decide +kernel
theorem dOffice_dead_12 : decode prog_1_method_12_code 12 = .ok (.if_icmp .ge 8, 3) := by decide +kernel
theorem dOffice_dead_15 : decode prog_1_method_12_code 15 = .ok (.iload_n 1, 1) := by decide +kernel
theorem dOffice_dead_16 : decode prog_1_method_12_code 16 = .ok (.iload_n 3, 1) := by decide +kernel
theorem dOffice_dead_17 : decode prog_1_method_12_code 17 = .ok (.if_icmp .ne 5, 3) := by decide +kernel
theorem dOffice_dead_20 : decode prog_1_method_12_code 20 = .ok (.iconst (-1), 1) := by decide +kernel
theorem dOffice_dead_21 : decode prog_1_method_12_code 21 = .ok (.ireturn, 1) := by decide +kernel
theorem dOffice_dead_22 : decode prog_1_method_12_code 22 = .ok (.iload_n 3, 1) := by decide +kernel
theorem dOffice_dead_23 : decode prog_1_method_12_code 23 = .ok (.iconst (-1), 1) := by decide +kernel
theorem dOffice_dead_24 : decode prog_1_method_12_code 24 = .ok (.if_icmp .eq 20, 3) := by decide +kernel
theorem dOffice_dead_27 : decode prog_1_method_12_code 27 = .ok (.iload_n 3, 1) := by decide +kernel
theorem dOffice_dead_28 : decode prog_1_method_12_code 28 = .ok (.ifCond .lt 14, 3) := by decide +kernel
theorem dOffice_dead_31 : decode prog_1_method_12_code 31 = .ok (.iload_n 3, 1) := by decide +kernel
theorem dOffice_dead_32 : decode prog_1_method_12_code 32 = .ok (.aload_n 0, 1) := by decide +kernel
theorem dOffice_dead_33 : decode prog_1_method_12_code 33 = .ok (.getfield 40, 3) := by decide +kernel
theorem dOffice_dead_36 : decode prog_1_method_12_code 36 = .ok (.getfield 109, 3) := by decide +kernel
theorem dOffice_dead_39 : decode prog_1_method_12_code 39 = .ok (.if_icmp .lt 5, 3) := by decide +kernel
theorem dOffice_dead_42 : decode prog_1_method_12_code 42 = .ok (.iconst (-1), 1) := by decide +kernel
theorem dOffice_dead_43 : decode prog_1_method_12_code 43 = .ok (.ireturn, 1) := by decide +kernel
theorem dOffice_dead_44 : decode prog_1_method_12_code 44 = .ok (.aload_n 0, 1) := by decide +kernel
theorem dOffice_dead_45 : decode prog_1_method_12_code 45 = .ok (.iconst 2, 1) := by decide +kernel
theorem dOffice_dead_46 : decode prog_1_method_12_code 46 = .ok (.iload_n 1, 1) := by decide +kernel
theorem dOffice_dead_47 : decode prog_1_method_12_code 47 = .ok (.iload_n 2, 1) := by decide +kernel
theorem dOffice_dead_48 : decode prog_1_method_12_code 48 = .ok (.iload_n 3, 1) := by decide +kernel
theorem dOffice_dead_49 : decode prog_1_method_12_code 49 = .ok (.invokevirtual 135, 3) := by decide +kernel
theorem dOffice_dead_52 : decode prog_1_method_12_code 52 = .ok (.ireturn, 1) := by decide +kernel
theorem dOffice_tellFact_0 : decode prog_1_method_13_code 0 = .ok (.iload_n 3, 1) := by decide +kernel
theorem dOffice_tellFact_1 : decode prog_1_method_13_code 1 = .ok (.ifCond .lt 10, 3) := by decide +kernel
theorem dOffice_tellFact_4 : decode prog_1_method_13_code 4 = .ok (.iload_n 3, 1) := by decide +kernel
theorem dOffice_tellFact_5 : decode prog_1_method_13_code 5 = .ok (.sipush 240, 3) := by decide +kernel
theorem dOffice_tellFact_8 : decode prog_1_method_13_code 8 = .ok (.if_icmp .lt 5, 3) := by decide +kernel
theorem dOffice_tellFact_11 : decode prog_1_method_13_code 11 = .ok (.iconst (-1), 1) := by decide +kernel
theorem dOffice_tellFact_12 : decode prog_1_method_13_code 12 = .ok (.ireturn, 1) := by decide +kernel
theorem dOffice_tellFact_13 : decode prog_1_method_13_code 13 = .ok (.aload_n 0, 1) := by decide +kernel
theorem dOffice_tellFact_14 : decode prog_1_method_13_code 14 = .ok (.getfield 47, 3) := by decide +kernel
theorem dOffice_tellFact_17 : decode prog_1_method_13_code 17 = .ok (.iload_n 1, 1) := by decide +kernel
theorem dOffice_tellFact_18 : decode prog_1_method_13_code 18 = .ok (.iload_n 2, 1) := by decide +kernel
theorem dOffice_tellFact_19 : decode prog_1_method_13_code 19 = .ok (.iload_n 3, 1) := by decide +kernel
theorem dOffice_tellFact_20 : decode prog_1_method_13_code 20 = .ok (.iload 4, 2) := by decide +kernel
theorem dOffice_tellFact_22 : decode prog_1_method_13_code 22 = .ok (.aload_n 0, 1) := by decide +kernel
theorem dOffice_tellFact_23 : decode prog_1_method_13_code 23 = .ok (.getfield 51, 3) := by decide +kernel
theorem dOffice_tellFact_26 : decode prog_1_method_13_code 26 = .ok (.invokevirtual 139, 3) := by decide +kernel
theorem dOffice_tellFact_29 : decode prog_1_method_13_code 29 = .ok (.ireturn, 1) := by decide +kernel
theorem dOffice_untell_0 : decode prog_1_method_14_code 0 = .ok (.iload_n 1, 1) := by decide +kernel
theorem dOffice_untell_1 : decode prog_1_method_14_code 1 = .ok (.ifCond .lt 27, 3) := by decide +kernel
theorem dOffice_untell_4 : decode prog_1_method_14_code 4 = .ok (.iload_n 1, 1) := by decide +kernel
theorem dOffice_untell_5 : decode prog_1_method_14_code 5 = .ok (.aload_n 0, 1) := by decide +kernel
theorem dOffice_untell_6 : decode prog_1_method_14_code 6 = .ok (.getfield 47, 3) := by decide +kernel
theorem dOffice_untell_9 : decode prog_1_method_14_code 9 = .ok (.getfield 76, 3) := by decide +kernel
theorem dOffice_untell_12 : decode prog_1_method_14_code 12 = .ok (.if_icmp .ge 16, 3) := by decide +kernel
theorem dOffice_untell_15 : decode prog_1_method_14_code 15 = .ok (.aload_n 0, 1) := by decide +kernel
theorem dOffice_untell_16 : decode prog_1_method_14_code 16 = .ok (.getfield 47, 3) := by decide +kernel
theorem dOffice_untell_19 : decode prog_1_method_14_code 19 = .ok (.getfield 143, 3) := by decide +kernel
theorem dOffice_untell_22 : decode prog_1_method_14_code 22 = .ok (.iload_n 1, 1) := by decide +kernel
theorem dOffice_untell_23 : decode prog_1_method_14_code 23 = .ok (.iaload, 1) := by decide +kernel
theorem dOffice_untell_24 : decode prog_1_method_14_code 24 = .ok (.iconst (-1), 1) := by decide +kernel
theorem dOffice_untell_25 : decode prog_1_method_14_code 25 = .ok (.if_icmp .eq 5, 3) := by decide +kernel
theorem dOffice_untell_28 : decode prog_1_method_14_code 28 = .ok (.iconst 0, 1) := by decide +kernel
theorem dOffice_untell_29 : decode prog_1_method_14_code 29 = .ok (.ireturn, 1) := by decide +kernel
theorem dOffice_untell_30 : decode prog_1_method_14_code 30 = .ok (.aload_n 0, 1) := by decide +kernel
theorem dOffice_untell_31 : decode prog_1_method_14_code 31 = .ok (.getfield 47, 3) := by decide +kernel
theorem dOffice_untell_34 : decode prog_1_method_14_code 34 = .ok (.getfield 143, 3) := by decide +kernel
theorem dOffice_untell_37 : decode prog_1_method_14_code 37 = .ok (.iload_n 1, 1) := by decide +kernel
theorem dOffice_untell_38 : decode prog_1_method_14_code 38 = .ok (.aload_n 0, 1) := by decide +kernel
theorem dOffice_untell_39 : decode prog_1_method_14_code 39 = .ok (.getfield 51, 3) := by decide +kernel
theorem dOffice_untell_42 : decode prog_1_method_14_code 42 = .ok (.iastore, 1) := by decide +kernel
theorem dOffice_untell_43 : decode prog_1_method_14_code 43 = .ok (.iconst 1, 1) := by decide +kernel
theorem dOffice_untell_44 : decode prog_1_method_14_code 44 = .ok (.ireturn, 1) := by decide +kernel
theorem dOffice_later_0 : decode prog_1_method_15_code 0 = .ok (.iload_n 1, 1) := by decide +kernel
theorem dOffice_later_1 : decode prog_1_method_15_code 1 = .ok (.ifCond .lt 21, 3) := by decide +kernel
theorem dOffice_later_4 : decode prog_1_method_15_code 4 = .ok (.iload_n 1, 1) := by decide +kernel
theorem dOffice_later_5 : decode prog_1_method_15_code 5 = .ok (.sipush 1000, 3) := by decide +kernel
theorem dOffice_later_8 : decode prog_1_method_15_code 8 = .ok (.if_icmp .gt 14, 3) := by decide +kernel
theorem dOffice_later_11 : decode prog_1_method_15_code 11 = .ok (.aload_n 0, 1) := by decide +kernel
theorem dOffice_later_12 : decode prog_1_method_15_code 12 = .ok (.getfield 51, 3) := by decide +kernel
theorem dOffice_later_15 : decode prog_1_method_15_code 15 = .ok (.iload_n 1, 1) := by decide +kernel
theorem dOffice_later_16 : decode prog_1_method_15_code 16 = .ok (.iadd, 1) := by decide +kernel
theorem dOffice_later_17 : decode prog_1_method_15_code 17 = .ok (.ldc 146, 2) := by decide +kernel
theorem dOffice_later_19 : decode prog_1_method_15_code 19 = .ok (.if_icmp .le 5, 3) := by decide +kernel
theorem dOffice_later_22 : decode prog_1_method_15_code 22 = .ok (.iconst (-1), 1) := by decide +kernel
theorem dOffice_later_23 : decode prog_1_method_15_code 23 = .ok (.ireturn, 1) := by decide +kernel
theorem dOffice_later_24 : decode prog_1_method_15_code 24 = .ok (.aload_n 0, 1) := by decide +kernel
theorem dOffice_later_25 : decode prog_1_method_15_code 25 = .ok (.dup, 1) := by decide +kernel
theorem dOffice_later_26 : decode prog_1_method_15_code 26 = .ok (.getfield 51, 3) := by decide +kernel
theorem dOffice_later_29 : decode prog_1_method_15_code 29 = .ok (.iload_n 1, 1) := by decide +kernel
theorem dOffice_later_30 : decode prog_1_method_15_code 30 = .ok (.iadd, 1) := by decide +kernel
theorem dOffice_later_31 : decode prog_1_method_15_code 31 = .ok (.putfield 51, 3) := by decide +kernel
theorem dOffice_later_34 : decode prog_1_method_15_code 34 = .ok (.aload_n 0, 1) := by decide +kernel
theorem dOffice_later_35 : decode prog_1_method_15_code 35 = .ok (.getfield 51, 3) := by decide +kernel
theorem dOffice_later_38 : decode prog_1_method_15_code 38 = .ok (.ireturn, 1) := by decide +kernel
theorem dOffice_run_0 : decode prog_1_method_16_code 0 = .ok (.aload_n 0, 1) := by decide +kernel
theorem dOffice_run_1 : decode prog_1_method_16_code 1 = .ok (.iload_n 1, 1) := by decide +kernel
theorem dOffice_run_2 : decode prog_1_method_16_code 2 = .ok (.invokevirtual 147, 3) := by decide +kernel
theorem dOffice_run_5 : decode prog_1_method_16_code 5 = .ok (.astore 4, 2) := by decide +kernel
theorem dOffice_run_7 : decode prog_1_method_16_code 7 = .ok (.aload 4, 2) := by decide +kernel
theorem dOffice_run_9 : decode prog_1_method_16_code 9 = .ok (.ifnull 14, 3) := by decide +kernel
theorem dOffice_run_12 : decode prog_1_method_16_code 12 = .ok (.iload_n 2, 1) := by decide +kernel
theorem dOffice_run_13 : decode prog_1_method_16_code 13 = .ok (.ifCond .lt 10, 3) := by decide +kernel
theorem dOffice_run_16 : decode prog_1_method_16_code 16 = .ok (.iload_n 2, 1) := by decide +kernel
theorem dOffice_run_17 : decode prog_1_method_16_code 17 = .ok (.sipush 240, 3) := by decide +kernel
theorem dOffice_run_20 : decode prog_1_method_16_code 20 = .ok (.if_icmp .le 5, 3) := by decide +kernel
theorem dOffice_run_23 : decode prog_1_method_16_code 23 = .ok (.iconst (-1), 1) := by decide +kernel
theorem dOffice_run_24 : decode prog_1_method_16_code 24 = .ok (.ireturn, 1) := by decide +kernel
theorem dOffice_run_25 : decode prog_1_method_16_code 25 = .ok (.aload_n 0, 1) := by decide +kernel
theorem dOffice_run_26 : decode prog_1_method_16_code 26 = .ok (.getfield 58, 3) := by decide +kernel
theorem dOffice_run_29 : decode prog_1_method_16_code 29 = .ok (.aload_n 0, 1) := by decide +kernel
theorem dOffice_run_30 : decode prog_1_method_16_code 30 = .ok (.getfield 19, 3) := by decide +kernel
theorem dOffice_run_33 : decode prog_1_method_16_code 33 = .ok (.aload_n 0, 1) := by decide +kernel
theorem dOffice_run_34 : decode prog_1_method_16_code 34 = .ok (.getfield 40, 3) := by decide +kernel
theorem dOffice_run_37 : decode prog_1_method_16_code 37 = .ok (.aload 4, 2) := by decide +kernel
theorem dOffice_run_39 : decode prog_1_method_16_code 39 = .ok (.aload_n 0, 1) := by decide +kernel
theorem dOffice_run_40 : decode prog_1_method_16_code 40 = .ok (.getfield 47, 3) := by decide +kernel
theorem dOffice_run_43 : decode prog_1_method_16_code 43 = .ok (.iload_n 2, 1) := by decide +kernel
theorem dOffice_run_44 : decode prog_1_method_16_code 44 = .ok (.iload_n 3, 1) := by decide +kernel
theorem dOffice_run_45 : decode prog_1_method_16_code 45 = .ok (.invokevirtual 151, 3) := by decide +kernel
theorem dOffice_run_48 : decode prog_1_method_16_code 48 = .ok (.aload_n 0, 1) := by decide +kernel
theorem dOffice_run_49 : decode prog_1_method_16_code 49 = .ok (.getfield 58, 3) := by decide +kernel
theorem dOffice_run_52 : decode prog_1_method_16_code 52 = .ok (.getfield 155, 3) := by decide +kernel
theorem dOffice_run_55 : decode prog_1_method_16_code 55 = .ok (.getfield 159, 3) := by decide +kernel
theorem dOffice_run_58 : decode prog_1_method_16_code 58 = .ok (.ireturn, 1) := by decide +kernel
theorem dOffice_ran_0 : decode prog_1_method_17_code 0 = .ok (.aload_n 0, 1) := by decide +kernel
theorem dOffice_ran_1 : decode prog_1_method_17_code 1 = .ok (.getfield 58, 3) := by decide +kernel
theorem dOffice_ran_4 : decode prog_1_method_17_code 4 = .ok (.getfield 79, 3) := by decide +kernel
theorem dOffice_ran_7 : decode prog_1_method_17_code 7 = .ok (.ifCond .eq 13, 3) := by decide +kernel
theorem dOffice_ran_10 : decode prog_1_method_17_code 10 = .ok (.iload_n 1, 1) := by decide +kernel
theorem dOffice_ran_11 : decode prog_1_method_17_code 11 = .ok (.ifCond .lt 9, 3) := by decide +kernel
theorem dOffice_ran_14 : decode prog_1_method_17_code 14 = .ok (.iload_n 1, 1) := by decide +kernel
theorem dOffice_ran_15 : decode prog_1_method_17_code 15 = .ok (.bipush 11, 2) := by decide +kernel
theorem dOffice_ran_17 : decode prog_1_method_17_code 17 = .ok (.if_icmp .lt 7, 3) := by decide +kernel
theorem dOffice_ran_20 : decode prog_1_method_17_code 20 = .ok (.ldc2_w 162, 3) := by decide +kernel
theorem dOffice_ran_23 : decode prog_1_method_17_code 23 = .ok (.lreturn, 1) := by decide +kernel
theorem dOffice_ran_24 : decode prog_1_method_17_code 24 = .ok (.aload_n 0, 1) := by decide +kernel
theorem dOffice_ran_25 : decode prog_1_method_17_code 25 = .ok (.getfield 58, 3) := by decide +kernel
theorem dOffice_ran_28 : decode prog_1_method_17_code 28 = .ok (.getfield 164, 3) := by decide +kernel
theorem dOffice_ran_31 : decode prog_1_method_17_code 31 = .ok (.iload_n 1, 1) := by decide +kernel
theorem dOffice_ran_32 : decode prog_1_method_17_code 32 = .ok (.laload, 1) := by decide +kernel
theorem dOffice_ran_33 : decode prog_1_method_17_code 33 = .ok (.lreturn, 1) := by decide +kernel
theorem dOffice_fort_0 : decode prog_1_method_18_code 0 = .ok (.aload_n 0, 1) := by decide +kernel
theorem dOffice_fort_1 : decode prog_1_method_18_code 1 = .ok (.iload_n 2, 1) := by decide +kernel
theorem dOffice_fort_2 : decode prog_1_method_18_code 2 = .ok (.invokevirtual 168, 3) := by decide +kernel
theorem dOffice_fort_5 : decode prog_1_method_18_code 5 = .ok (.ifCond .eq 27, 3) := by decide +kernel
theorem dOffice_fort_8 : decode prog_1_method_18_code 8 = .ok (.iload_n 1, 1) := by decide +kernel
theorem dOffice_fort_9 : decode prog_1_method_18_code 9 = .ok (.ifCond .lt 23, 3) := by decide +kernel
theorem dOffice_fort_12 : decode prog_1_method_18_code 12 = .ok (.iload_n 1, 1) := by decide +kernel
theorem dOffice_fort_13 : decode prog_1_method_18_code 13 = .ok (.aload_n 0, 1) := by decide +kernel
theorem dOffice_fort_14 : decode prog_1_method_18_code 14 = .ok (.getfield 19, 3) := by decide +kernel
theorem dOffice_fort_17 : decode prog_1_method_18_code 17 = .ok (.getfield 86, 3) := by decide +kernel
theorem dOffice_fort_20 : decode prog_1_method_18_code 20 = .ok (.if_icmp .ge 12, 3) := by decide +kernel
theorem dOffice_fort_23 : decode prog_1_method_18_code 23 = .ok (.iload_n 3, 1) := by decide +kernel
theorem dOffice_fort_24 : decode prog_1_method_18_code 24 = .ok (.iconst 0, 1) := by decide +kernel
theorem dOffice_fort_25 : decode prog_1_method_18_code 25 = .ok (.iconst 1, 1) := by decide +kernel
theorem dOffice_fort_26 : decode prog_1_method_18_code 26 = .ok (.invokestatic 116, 3) := by decide +kernel
theorem dOffice_fort_29 : decode prog_1_method_18_code 29 = .ok (.ifCond .ne 5, 3) := by decide +kernel
theorem dOffice_fort_32 : decode prog_1_method_18_code 32 = .ok (.iconst (-1), 1) := by decide +kernel
theorem dOffice_fort_33 : decode prog_1_method_18_code 33 = .ok (.ireturn, 1) := by decide +kernel
theorem dOffice_fort_34 : decode prog_1_method_18_code 34 = .ok (.aload_n 0, 1) := by decide +kernel
theorem dOffice_fort_35 : decode prog_1_method_18_code 35 = .ok (.getfield 58, 3) := by decide +kernel
theorem dOffice_fort_38 : decode prog_1_method_18_code 38 = .ok (.getfield 172, 3) := by decide +kernel
theorem dOffice_fort_41 : decode prog_1_method_18_code 41 = .ok (.getfield 176, 3) := by decide +kernel
theorem dOffice_fort_44 : decode prog_1_method_18_code 44 = .ok (.iload_n 2, 1) := by decide +kernel
theorem dOffice_fort_45 : decode prog_1_method_18_code 45 = .ok (.iconst 3, 1) := by decide +kernel
theorem dOffice_fort_46 : decode prog_1_method_18_code 46 = .ok (.imul, 1) := by decide +kernel
theorem dOffice_fort_47 : decode prog_1_method_18_code 47 = .ok (.iload_n 1, 1) := by decide +kernel
theorem dOffice_fort_48 : decode prog_1_method_18_code 48 = .ok (.iadd, 1) := by decide +kernel
theorem dOffice_fort_49 : decode prog_1_method_18_code 49 = .ok (.iconst 2, 1) := by decide +kernel
theorem dOffice_fort_50 : decode prog_1_method_18_code 50 = .ok (.imul, 1) := by decide +kernel
theorem dOffice_fort_51 : decode prog_1_method_18_code 51 = .ok (.iload_n 3, 1) := by decide +kernel
theorem dOffice_fort_52 : decode prog_1_method_18_code 52 = .ok (.iadd, 1) := by decide +kernel
theorem dOffice_fort_53 : decode prog_1_method_18_code 53 = .ok (.iaload, 1) := by decide +kernel
theorem dOffice_fort_54 : decode prog_1_method_18_code 54 = .ok (.ireturn, 1) := by decide +kernel
theorem dOffice_pan_0 : decode prog_1_method_19_code 0 = .ok (.aload_n 0, 1) := by decide +kernel
theorem dOffice_pan_1 : decode prog_1_method_19_code 1 = .ok (.iload_n 2, 1) := by decide +kernel
theorem dOffice_pan_2 : decode prog_1_method_19_code 2 = .ok (.invokevirtual 168, 3) := by decide +kernel
theorem dOffice_pan_5 : decode prog_1_method_19_code 5 = .ok (.ifCond .eq 27, 3) := by decide +kernel
theorem dOffice_pan_8 : decode prog_1_method_19_code 8 = .ok (.iload_n 1, 1) := by decide +kernel
theorem dOffice_pan_9 : decode prog_1_method_19_code 9 = .ok (.ifCond .lt 23, 3) := by decide +kernel
theorem dOffice_pan_12 : decode prog_1_method_19_code 12 = .ok (.iload_n 1, 1) := by decide +kernel
theorem dOffice_pan_13 : decode prog_1_method_19_code 13 = .ok (.aload_n 0, 1) := by decide +kernel
theorem dOffice_pan_14 : decode prog_1_method_19_code 14 = .ok (.getfield 19, 3) := by decide +kernel
theorem dOffice_pan_17 : decode prog_1_method_19_code 17 = .ok (.getfield 89, 3) := by decide +kernel
theorem dOffice_pan_20 : decode prog_1_method_19_code 20 = .ok (.if_icmp .ge 12, 3) := by decide +kernel
theorem dOffice_pan_23 : decode prog_1_method_19_code 23 = .ok (.iload_n 3, 1) := by decide +kernel
theorem dOffice_pan_24 : decode prog_1_method_19_code 24 = .ok (.iconst 0, 1) := by decide +kernel
theorem dOffice_pan_25 : decode prog_1_method_19_code 25 = .ok (.iconst 1, 1) := by decide +kernel
theorem dOffice_pan_26 : decode prog_1_method_19_code 26 = .ok (.invokestatic 116, 3) := by decide +kernel
theorem dOffice_pan_29 : decode prog_1_method_19_code 29 = .ok (.ifCond .ne 5, 3) := by decide +kernel
theorem dOffice_pan_32 : decode prog_1_method_19_code 32 = .ok (.iconst (-1), 1) := by decide +kernel
theorem dOffice_pan_33 : decode prog_1_method_19_code 33 = .ok (.ireturn, 1) := by decide +kernel
theorem dOffice_pan_34 : decode prog_1_method_19_code 34 = .ok (.aload_n 0, 1) := by decide +kernel
theorem dOffice_pan_35 : decode prog_1_method_19_code 35 = .ok (.getfield 58, 3) := by decide +kernel
theorem dOffice_pan_38 : decode prog_1_method_19_code 38 = .ok (.getfield 172, 3) := by decide +kernel
theorem dOffice_pan_41 : decode prog_1_method_19_code 41 = .ok (.getfield 180, 3) := by decide +kernel
theorem dOffice_pan_44 : decode prog_1_method_19_code 44 = .ok (.iload_n 2, 1) := by decide +kernel
theorem dOffice_pan_45 : decode prog_1_method_19_code 45 = .ok (.iconst 3, 1) := by decide +kernel
theorem dOffice_pan_46 : decode prog_1_method_19_code 46 = .ok (.imul, 1) := by decide +kernel
theorem dOffice_pan_47 : decode prog_1_method_19_code 47 = .ok (.iload_n 1, 1) := by decide +kernel
theorem dOffice_pan_48 : decode prog_1_method_19_code 48 = .ok (.iadd, 1) := by decide +kernel
theorem dOffice_pan_49 : decode prog_1_method_19_code 49 = .ok (.iconst 2, 1) := by decide +kernel
theorem dOffice_pan_50 : decode prog_1_method_19_code 50 = .ok (.imul, 1) := by decide +kernel
theorem dOffice_pan_51 : decode prog_1_method_19_code 51 = .ok (.iload_n 3, 1) := by decide +kernel
theorem dOffice_pan_52 : decode prog_1_method_19_code 52 = .ok (.iadd, 1) := by decide +kernel
theorem dOffice_pan_53 : decode prog_1_method_19_code 53 = .ok (.iaload, 1) := by decide +kernel
theorem dOffice_pan_54 : decode prog_1_method_19_code 54 = .ok (.ireturn, 1) := by decide +kernel
theorem dOffice_town_0 : decode prog_1_method_20_code 0 = .ok (.aload_n 0, 1) := by decide +kernel
theorem dOffice_town_1 : decode prog_1_method_20_code 1 = .ok (.iload_n 2, 1) := by decide +kernel
theorem dOffice_town_2 : decode prog_1_method_20_code 2 = .ok (.invokevirtual 168, 3) := by decide +kernel
theorem dOffice_town_5 : decode prog_1_method_20_code 5 = .ok (.ifCond .eq 27, 3) := by decide +kernel
theorem dOffice_town_8 : decode prog_1_method_20_code 8 = .ok (.iload_n 1, 1) := by decide +kernel
theorem dOffice_town_9 : decode prog_1_method_20_code 9 = .ok (.ifCond .lt 23, 3) := by decide +kernel
theorem dOffice_town_12 : decode prog_1_method_20_code 12 = .ok (.iload_n 1, 1) := by decide +kernel
theorem dOffice_town_13 : decode prog_1_method_20_code 13 = .ok (.aload_n 0, 1) := by decide +kernel
theorem dOffice_town_14 : decode prog_1_method_20_code 14 = .ok (.getfield 19, 3) := by decide +kernel
theorem dOffice_town_17 : decode prog_1_method_20_code 17 = .ok (.getfield 92, 3) := by decide +kernel
theorem dOffice_town_20 : decode prog_1_method_20_code 20 = .ok (.if_icmp .ge 12, 3) := by decide +kernel
theorem dOffice_town_23 : decode prog_1_method_20_code 23 = .ok (.iload_n 3, 1) := by decide +kernel
theorem dOffice_town_24 : decode prog_1_method_20_code 24 = .ok (.iconst 0, 1) := by decide +kernel
theorem dOffice_town_25 : decode prog_1_method_20_code 25 = .ok (.iconst 2, 1) := by decide +kernel
theorem dOffice_town_26 : decode prog_1_method_20_code 26 = .ok (.invokestatic 116, 3) := by decide +kernel
theorem dOffice_town_29 : decode prog_1_method_20_code 29 = .ok (.ifCond .ne 5, 3) := by decide +kernel
theorem dOffice_town_32 : decode prog_1_method_20_code 32 = .ok (.iconst (-1), 1) := by decide +kernel
theorem dOffice_town_33 : decode prog_1_method_20_code 33 = .ok (.ireturn, 1) := by decide +kernel
theorem dOffice_town_34 : decode prog_1_method_20_code 34 = .ok (.aload_n 0, 1) := by decide +kernel
theorem dOffice_town_35 : decode prog_1_method_20_code 35 = .ok (.getfield 58, 3) := by decide +kernel
theorem dOffice_town_38 : decode prog_1_method_20_code 38 = .ok (.getfield 172, 3) := by decide +kernel
theorem dOffice_town_41 : decode prog_1_method_20_code 41 = .ok (.getfield 182, 3) := by decide +kernel
theorem dOffice_town_44 : decode prog_1_method_20_code 44 = .ok (.iload_n 2, 1) := by decide +kernel
theorem dOffice_town_45 : decode prog_1_method_20_code 45 = .ok (.iconst 5, 1) := by decide +kernel
theorem dOffice_town_46 : decode prog_1_method_20_code 46 = .ok (.imul, 1) := by decide +kernel
theorem dOffice_town_47 : decode prog_1_method_20_code 47 = .ok (.iload_n 1, 1) := by decide +kernel
theorem dOffice_town_48 : decode prog_1_method_20_code 48 = .ok (.iadd, 1) := by decide +kernel
theorem dOffice_town_49 : decode prog_1_method_20_code 49 = .ok (.iconst 3, 1) := by decide +kernel
theorem dOffice_town_50 : decode prog_1_method_20_code 50 = .ok (.imul, 1) := by decide +kernel
theorem dOffice_town_51 : decode prog_1_method_20_code 51 = .ok (.iload_n 3, 1) := by decide +kernel
theorem dOffice_town_52 : decode prog_1_method_20_code 52 = .ok (.iadd, 1) := by decide +kernel
theorem dOffice_town_53 : decode prog_1_method_20_code 53 = .ok (.iaload, 1) := by decide +kernel
theorem dOffice_town_54 : decode prog_1_method_20_code 54 = .ok (.ireturn, 1) := by decide +kernel
theorem dOffice_book_0 : decode prog_1_method_21_code 0 = .ok (.aload_n 0, 1) := by decide +kernel
theorem dOffice_book_1 : decode prog_1_method_21_code 1 = .ok (.iload_n 2, 1) := by decide +kernel
theorem dOffice_book_2 : decode prog_1_method_21_code 2 = .ok (.invokevirtual 168, 3) := by decide +kernel
theorem dOffice_book_5 : decode prog_1_method_21_code 5 = .ok (.ifCond .eq 27, 3) := by decide +kernel
theorem dOffice_book_8 : decode prog_1_method_21_code 8 = .ok (.iload_n 1, 1) := by decide +kernel
theorem dOffice_book_9 : decode prog_1_method_21_code 9 = .ok (.ifCond .lt 23, 3) := by decide +kernel
theorem dOffice_book_12 : decode prog_1_method_21_code 12 = .ok (.iload_n 1, 1) := by decide +kernel
theorem dOffice_book_13 : decode prog_1_method_21_code 13 = .ok (.aload_n 0, 1) := by decide +kernel
theorem dOffice_book_14 : decode prog_1_method_21_code 14 = .ok (.getfield 40, 3) := by decide +kernel
theorem dOffice_book_17 : decode prog_1_method_21_code 17 = .ok (.getfield 109, 3) := by decide +kernel
theorem dOffice_book_20 : decode prog_1_method_21_code 20 = .ok (.if_icmp .ge 12, 3) := by decide +kernel
theorem dOffice_book_23 : decode prog_1_method_21_code 23 = .ok (.iload_n 3, 1) := by decide +kernel
theorem dOffice_book_24 : decode prog_1_method_21_code 24 = .ok (.iconst 0, 1) := by decide +kernel
theorem dOffice_book_25 : decode prog_1_method_21_code 25 = .ok (.iconst 2, 1) := by decide +kernel
theorem dOffice_book_26 : decode prog_1_method_21_code 26 = .ok (.invokestatic 116, 3) := by decide +kernel
theorem dOffice_book_29 : decode prog_1_method_21_code 29 = .ok (.ifCond .ne 7, 3) := by decide +kernel
theorem dOffice_book_32 : decode prog_1_method_21_code 32 = .ok (.ldc2_w 162, 3) := by decide +kernel
theorem dOffice_book_35 : decode prog_1_method_21_code 35 = .ok (.lreturn, 1) := by decide +kernel
theorem dOffice_book_36 : decode prog_1_method_21_code 36 = .ok (.aload_n 0, 1) := by decide +kernel
theorem dOffice_book_37 : decode prog_1_method_21_code 37 = .ok (.getfield 58, 3) := by decide +kernel
theorem dOffice_book_40 : decode prog_1_method_21_code 40 = .ok (.getfield 172, 3) := by decide +kernel
theorem dOffice_book_43 : decode prog_1_method_21_code 43 = .ok (.getfield 184, 3) := by decide +kernel
theorem dOffice_book_46 : decode prog_1_method_21_code 46 = .ok (.iload_n 2, 1) := by decide +kernel
theorem dOffice_book_47 : decode prog_1_method_21_code 47 = .ok (.bipush 6, 2) := by decide +kernel
theorem dOffice_book_49 : decode prog_1_method_21_code 49 = .ok (.imul, 1) := by decide +kernel
theorem dOffice_book_50 : decode prog_1_method_21_code 50 = .ok (.iload_n 1, 1) := by decide +kernel
theorem dOffice_book_51 : decode prog_1_method_21_code 51 = .ok (.iadd, 1) := by decide +kernel
theorem dOffice_book_52 : decode prog_1_method_21_code 52 = .ok (.iconst 3, 1) := by decide +kernel
theorem dOffice_book_53 : decode prog_1_method_21_code 53 = .ok (.imul, 1) := by decide +kernel
theorem dOffice_book_54 : decode prog_1_method_21_code 54 = .ok (.iload_n 3, 1) := by decide +kernel
theorem dOffice_book_55 : decode prog_1_method_21_code 55 = .ok (.iadd, 1) := by decide +kernel
theorem dOffice_book_56 : decode prog_1_method_21_code 56 = .ok (.laload, 1) := by decide +kernel
theorem dOffice_book_57 : decode prog_1_method_21_code 57 = .ok (.lreturn, 1) := by decide +kernel
theorem dOffice_paper_0 : decode prog_1_method_22_code 0 = .ok (.aload_n 0, 1) := by decide +kernel
theorem dOffice_paper_1 : decode prog_1_method_22_code 1 = .ok (.getfield 58, 3) := by decide +kernel
theorem dOffice_paper_4 : decode prog_1_method_22_code 4 = .ok (.getfield 79, 3) := by decide +kernel
theorem dOffice_paper_7 : decode prog_1_method_22_code 7 = .ok (.ifCond .eq 21, 3) := by decide +kernel
theorem dOffice_paper_10 : decode prog_1_method_22_code 10 = .ok (.iload_n 1, 1) := by decide +kernel
theorem dOffice_paper_11 : decode prog_1_method_22_code 11 = .ok (.ifCond .lt 17, 3) := by decide +kernel
theorem dOffice_paper_14 : decode prog_1_method_22_code 14 = .ok (.iload_n 1, 1) := by decide +kernel
theorem dOffice_paper_15 : decode prog_1_method_22_code 15 = .ok (.aload_n 0, 1) := by decide +kernel
theorem dOffice_paper_16 : decode prog_1_method_22_code 16 = .ok (.getfield 58, 3) := by decide +kernel
theorem dOffice_paper_19 : decode prog_1_method_22_code 19 = .ok (.getfield 155, 3) := by decide +kernel
theorem dOffice_paper_22 : decode prog_1_method_22_code 22 = .ok (.getfield 159, 3) := by decide +kernel
theorem dOffice_paper_25 : decode prog_1_method_22_code 25 = .ok (.if_icmp .lt 5, 3) := by decide +kernel
theorem dOffice_paper_28 : decode prog_1_method_22_code 28 = .ok (.iconst (-1), 1) := by decide +kernel
theorem dOffice_paper_29 : decode prog_1_method_22_code 29 = .ok (.ireturn, 1) := by decide +kernel
theorem dOffice_paper_30 : decode prog_1_method_22_code 30 = .ok (.aload_n 0, 1) := by decide +kernel
theorem dOffice_paper_31 : decode prog_1_method_22_code 31 = .ok (.getfield 58, 3) := by decide +kernel
theorem dOffice_paper_34 : decode prog_1_method_22_code 34 = .ok (.getfield 155, 3) := by decide +kernel
theorem dOffice_paper_37 : decode prog_1_method_22_code 37 = .ok (.iload_n 1, 1) := by decide +kernel
theorem dOffice_paper_38 : decode prog_1_method_22_code 38 = .ok (.iload_n 2, 1) := by decide +kernel
theorem dOffice_paper_39 : decode prog_1_method_22_code 39 = .ok (.invokevirtual 187, 3) := by decide +kernel
theorem dOffice_paper_42 : decode prog_1_method_22_code 42 = .ok (.ireturn, 1) := by decide +kernel
theorem dOffice_way_0 : decode prog_1_method_23_code 0 = .ok (.aload_n 0, 1) := by decide +kernel
theorem dOffice_way_1 : decode prog_1_method_23_code 1 = .ok (.getfield 58, 3) := by decide +kernel
theorem dOffice_way_4 : decode prog_1_method_23_code 4 = .ok (.getfield 79, 3) := by decide +kernel
theorem dOffice_way_7 : decode prog_1_method_23_code 7 = .ok (.ifCond .eq 29, 3) := by decide +kernel
theorem dOffice_way_10 : decode prog_1_method_23_code 10 = .ok (.iload_n 1, 1) := by decide +kernel
theorem dOffice_way_11 : decode prog_1_method_23_code 11 = .ok (.ifCond .lt 25, 3) := by decide +kernel
theorem dOffice_way_14 : decode prog_1_method_23_code 14 = .ok (.iload_n 1, 1) := by decide +kernel
theorem dOffice_way_15 : decode prog_1_method_23_code 15 = .ok (.aload_n 0, 1) := by decide +kernel
theorem dOffice_way_16 : decode prog_1_method_23_code 16 = .ok (.getfield 40, 3) := by decide +kernel
theorem dOffice_way_19 : decode prog_1_method_23_code 19 = .ok (.getfield 109, 3) := by decide +kernel
theorem dOffice_way_22 : decode prog_1_method_23_code 22 = .ok (.if_icmp .ge 14, 3) := by decide +kernel
theorem dOffice_way_25 : decode prog_1_method_23_code 25 = .ok (.aload_n 0, 1) := by decide +kernel
theorem dOffice_way_26 : decode prog_1_method_23_code 26 = .ok (.getfield 58, 3) := by decide +kernel
theorem dOffice_way_29 : decode prog_1_method_23_code 29 = .ok (.iload_n 1, 1) := by decide +kernel
theorem dOffice_way_30 : decode prog_1_method_23_code 30 = .ok (.invokevirtual 190, 3) := by decide +kernel
theorem dOffice_way_33 : decode prog_1_method_23_code 33 = .ok (.ifCond .eq 7, 3) := by decide +kernel
theorem dOffice_way_36 : decode prog_1_method_23_code 36 = .ok (.ldc2_w 162, 3) := by decide +kernel
theorem dOffice_way_39 : decode prog_1_method_23_code 39 = .ok (.lreturn, 1) := by decide +kernel
theorem dOffice_way_40 : decode prog_1_method_23_code 40 = .ok (.aload_n 0, 1) := by decide +kernel
theorem dOffice_way_41 : decode prog_1_method_23_code 41 = .ok (.getfield 58, 3) := by decide +kernel
theorem dOffice_way_44 : decode prog_1_method_23_code 44 = .ok (.getfield 193, 3) := by decide +kernel
theorem dOffice_way_47 : decode prog_1_method_23_code 47 = .ok (.astore_n 3, 1) := by decide +kernel
theorem dOffice_way_48 : decode prog_1_method_23_code 48 = .ok (.aload_n 3, 1) := by decide +kernel
theorem dOffice_way_49 : decode prog_1_method_23_code 49 = .ok (.aload_n 0, 1) := by decide +kernel
theorem dOffice_way_50 : decode prog_1_method_23_code 50 = .ok (.getfield 58, 3) := by decide +kernel
theorem dOffice_way_53 : decode prog_1_method_23_code 53 = .ok (.iload_n 1, 1) := by decide +kernel
theorem dOffice_way_54 : decode prog_1_method_23_code 54 = .ok (.invokevirtual 197, 3) := by decide +kernel
theorem dOffice_way_57 : decode prog_1_method_23_code 57 = .ok (.iload_n 2, 1) := by decide +kernel
theorem dOffice_way_58 : decode prog_1_method_23_code 58 = .ok (.tableswitch 63 0 4 #[34, 40, 46, 52, 58], 34) := by decide +kernel
theorem dOffice_way_92 : decode prog_1_method_23_code 92 = .ok (.aload_n 3, 1) := by decide +kernel
theorem dOffice_way_93 : decode prog_1_method_23_code 93 = .ok (.getfield 203, 3) := by decide +kernel
theorem dOffice_way_96 : decode prog_1_method_23_code 96 = .ok (.i2l, 1) := by decide +kernel
theorem dOffice_way_97 : decode prog_1_method_23_code 97 = .ok (.lreturn, 1) := by decide +kernel
theorem dOffice_way_98 : decode prog_1_method_23_code 98 = .ok (.aload_n 3, 1) := by decide +kernel
theorem dOffice_way_99 : decode prog_1_method_23_code 99 = .ok (.getfield 206, 3) := by decide +kernel
theorem dOffice_way_102 : decode prog_1_method_23_code 102 = .ok (.i2l, 1) := by decide +kernel
theorem dOffice_way_103 : decode prog_1_method_23_code 103 = .ok (.lreturn, 1) := by decide +kernel
theorem dOffice_way_104 : decode prog_1_method_23_code 104 = .ok (.aload_n 3, 1) := by decide +kernel
theorem dOffice_way_105 : decode prog_1_method_23_code 105 = .ok (.getfield 209, 3) := by decide +kernel
theorem dOffice_way_108 : decode prog_1_method_23_code 108 = .ok (.i2l, 1) := by decide +kernel
theorem dOffice_way_109 : decode prog_1_method_23_code 109 = .ok (.lreturn, 1) := by decide +kernel
theorem dOffice_way_110 : decode prog_1_method_23_code 110 = .ok (.aload_n 3, 1) := by decide +kernel
theorem dOffice_way_111 : decode prog_1_method_23_code 111 = .ok (.getfield 212, 3) := by decide +kernel
theorem dOffice_way_114 : decode prog_1_method_23_code 114 = .ok (.i2l, 1) := by decide +kernel
theorem dOffice_way_115 : decode prog_1_method_23_code 115 = .ok (.lreturn, 1) := by decide +kernel
theorem dOffice_way_116 : decode prog_1_method_23_code 116 = .ok (.aload_n 3, 1) := by decide +kernel
theorem dOffice_way_117 : decode prog_1_method_23_code 117 = .ok (.getfield 215, 3) := by decide +kernel
theorem dOffice_way_120 : decode prog_1_method_23_code 120 = .ok (.lreturn, 1) := by decide +kernel
theorem dOffice_way_121 : decode prog_1_method_23_code 121 = .ok (.ldc2_w 162, 3) := by decide +kernel
theorem dOffice_way_124 : decode prog_1_method_23_code 124 = .ok (.lreturn, 1) := by decide +kernel
theorem dOffice_worth_0 : decode prog_1_method_24_code 0 = .ok (.aload_n 0, 1) := by decide +kernel
theorem dOffice_worth_1 : decode prog_1_method_24_code 1 = .ok (.getfield 58, 3) := by decide +kernel
theorem dOffice_worth_4 : decode prog_1_method_24_code 4 = .ok (.getfield 79, 3) := by decide +kernel
theorem dOffice_worth_7 : decode prog_1_method_24_code 7 = .ok (.ifCond .eq 18, 3) := by decide +kernel
theorem dOffice_worth_10 : decode prog_1_method_24_code 10 = .ok (.iload_n 1, 1) := by decide +kernel
theorem dOffice_worth_11 : decode prog_1_method_24_code 11 = .ok (.ifCond .lt 14, 3) := by decide +kernel
theorem dOffice_worth_14 : decode prog_1_method_24_code 14 = .ok (.iload_n 1, 1) := by decide +kernel
theorem dOffice_worth_15 : decode prog_1_method_24_code 15 = .ok (.aload_n 0, 1) := by decide +kernel
theorem dOffice_worth_16 : decode prog_1_method_24_code 16 = .ok (.getfield 19, 3) := by decide +kernel
theorem dOffice_worth_19 : decode prog_1_method_24_code 19 = .ok (.getfield 89, 3) := by decide +kernel
theorem dOffice_worth_22 : decode prog_1_method_24_code 22 = .ok (.if_icmp .lt 7, 3) := by decide +kernel
theorem dOffice_worth_25 : decode prog_1_method_24_code 25 = .ok (.ldc2_w 219, 3) := by decide +kernel
theorem dOffice_worth_28 : decode prog_1_method_24_code 28 = .ok (.lreturn, 1) := by decide +kernel
theorem dOffice_worth_29 : decode prog_1_method_24_code 29 = .ok (.aload_n 0, 1) := by decide +kernel
theorem dOffice_worth_30 : decode prog_1_method_24_code 30 = .ok (.getfield 58, 3) := by decide +kernel
theorem dOffice_worth_33 : decode prog_1_method_24_code 33 = .ok (.iload_n 1, 1) := by decide +kernel
theorem dOffice_worth_34 : decode prog_1_method_24_code 34 = .ok (.invokevirtual 221, 3) := by decide +kernel
theorem dOffice_worth_37 : decode prog_1_method_24_code 37 = .ok (.pop, 1) := by decide +kernel
theorem dOffice_worth_38 : decode prog_1_method_24_code 38 = .ok (.aload_n 0, 1) := by decide +kernel
theorem dOffice_worth_39 : decode prog_1_method_24_code 39 = .ok (.getfield 58, 3) := by decide +kernel
theorem dOffice_worth_42 : decode prog_1_method_24_code 42 = .ok (.getfield 225, 3) := by decide +kernel
theorem dOffice_worth_45 : decode prog_1_method_24_code 45 = .ok (.lreturn, 1) := by decide +kernel
theorem dOffice_judge_0 : decode prog_1_method_25_code 0 = .ok (.aload_n 0, 1) := by decide +kernel
theorem dOffice_judge_1 : decode prog_1_method_25_code 1 = .ok (.iload_n 1, 1) := by decide +kernel
theorem dOffice_judge_2 : decode prog_1_method_25_code 2 = .ok (.invokevirtual 147, 3) := by decide +kernel
theorem dOffice_judge_5 : decode prog_1_method_25_code 5 = .ok (.astore 5, 2) := by decide +kernel
theorem dOffice_judge_7 : decode prog_1_method_25_code 7 = .ok (.aload_n 0, 1) := by decide +kernel
theorem dOffice_judge_8 : decode prog_1_method_25_code 8 = .ok (.iload_n 2, 1) := by decide +kernel
theorem dOffice_judge_9 : decode prog_1_method_25_code 9 = .ok (.invokevirtual 147, 3) := by decide +kernel
theorem dOffice_judge_12 : decode prog_1_method_25_code 12 = .ok (.astore 6, 2) := by decide +kernel
theorem dOffice_judge_14 : decode prog_1_method_25_code 14 = .ok (.aload 5, 2) := by decide +kernel
theorem dOffice_judge_16 : decode prog_1_method_25_code 16 = .ok (.ifnull 19, 3) := by decide +kernel
theorem dOffice_judge_19 : decode prog_1_method_25_code 19 = .ok (.aload 6, 2) := by decide +kernel
theorem dOffice_judge_21 : decode prog_1_method_25_code 21 = .ok (.ifnull 14, 3) := by decide +kernel
theorem dOffice_judge_24 : decode prog_1_method_25_code 24 = .ok (.iload_n 3, 1) := by decide +kernel
theorem dOffice_judge_25 : decode prog_1_method_25_code 25 = .ok (.ifCond .lt 10, 3) := by decide +kernel
theorem dOffice_judge_28 : decode prog_1_method_25_code 28 = .ok (.iload_n 3, 1) := by decide +kernel
theorem dOffice_judge_29 : decode prog_1_method_25_code 29 = .ok (.sipush 240, 3) := by decide +kernel
theorem dOffice_judge_32 : decode prog_1_method_25_code 32 = .ok (.if_icmp .le 5, 3) := by decide +kernel
theorem dOffice_judge_35 : decode prog_1_method_25_code 35 = .ok (.iconst (-1), 1) := by decide +kernel
theorem dOffice_judge_36 : decode prog_1_method_25_code 36 = .ok (.ireturn, 1) := by decide +kernel
theorem dOffice_judge_37 : decode prog_1_method_25_code 37 = .ok (.aload_n 0, 1) := by decide +kernel
theorem dOffice_judge_38 : decode prog_1_method_25_code 38 = .ok (.getfield 62, 3) := by decide +kernel
theorem dOffice_judge_41 : decode prog_1_method_25_code 41 = .ok (.aload_n 0, 1) := by decide +kernel
theorem dOffice_judge_42 : decode prog_1_method_25_code 42 = .ok (.getfield 19, 3) := by decide +kernel
theorem dOffice_judge_45 : decode prog_1_method_25_code 45 = .ok (.aload_n 0, 1) := by decide +kernel
theorem dOffice_judge_46 : decode prog_1_method_25_code 46 = .ok (.getfield 40, 3) := by decide +kernel
theorem dOffice_judge_49 : decode prog_1_method_25_code 49 = .ok (.aload 5, 2) := by decide +kernel
theorem dOffice_judge_51 : decode prog_1_method_25_code 51 = .ok (.aload_n 0, 1) := by decide +kernel
theorem dOffice_judge_52 : decode prog_1_method_25_code 52 = .ok (.getfield 47, 3) := by decide +kernel
theorem dOffice_judge_55 : decode prog_1_method_25_code 55 = .ok (.iload_n 3, 1) := by decide +kernel
theorem dOffice_judge_56 : decode prog_1_method_25_code 56 = .ok (.iload 4, 2) := by decide +kernel
theorem dOffice_judge_58 : decode prog_1_method_25_code 58 = .ok (.invokevirtual 151, 3) := by decide +kernel
theorem dOffice_judge_61 : decode prog_1_method_25_code 61 = .ok (.aload_n 0, 1) := by decide +kernel
theorem dOffice_judge_62 : decode prog_1_method_25_code 62 = .ok (.getfield 62, 3) := by decide +kernel
theorem dOffice_judge_65 : decode prog_1_method_25_code 65 = .ok (.getfield 164, 3) := by decide +kernel
theorem dOffice_judge_68 : decode prog_1_method_25_code 68 = .ok (.iconst 0, 1) := by decide +kernel
theorem dOffice_judge_69 : decode prog_1_method_25_code 69 = .ok (.laload, 1) := by decide +kernel
theorem dOffice_judge_70 : decode prog_1_method_25_code 70 = .ok (.lstore 7, 2) := by decide +kernel
theorem dOffice_judge_72 : decode prog_1_method_25_code 72 = .ok (.aload_n 0, 1) := by decide +kernel
theorem dOffice_judge_73 : decode prog_1_method_25_code 73 = .ok (.getfield 62, 3) := by decide +kernel
theorem dOffice_judge_76 : decode prog_1_method_25_code 76 = .ok (.getfield 164, 3) := by decide +kernel
theorem dOffice_judge_79 : decode prog_1_method_25_code 79 = .ok (.bipush 8, 2) := by decide +kernel
theorem dOffice_judge_81 : decode prog_1_method_25_code 81 = .ok (.laload, 1) := by decide +kernel
theorem dOffice_judge_82 : decode prog_1_method_25_code 82 = .ok (.lstore 9, 2) := by decide +kernel
theorem dOffice_judge_84 : decode prog_1_method_25_code 84 = .ok (.aload_n 0, 1) := by decide +kernel
theorem dOffice_judge_85 : decode prog_1_method_25_code 85 = .ok (.getfield 62, 3) := by decide +kernel
theorem dOffice_judge_88 : decode prog_1_method_25_code 88 = .ok (.getfield 164, 3) := by decide +kernel
theorem dOffice_judge_91 : decode prog_1_method_25_code 91 = .ok (.bipush 9, 2) := by decide +kernel
theorem dOffice_judge_93 : decode prog_1_method_25_code 93 = .ok (.laload, 1) := by decide +kernel
theorem dOffice_judge_94 : decode prog_1_method_25_code 94 = .ok (.lstore 11, 2) := by decide +kernel
theorem dOffice_judge_96 : decode prog_1_method_25_code 96 = .ok (.aload_n 0, 1) := by decide +kernel
theorem dOffice_judge_97 : decode prog_1_method_25_code 97 = .ok (.getfield 62, 3) := by decide +kernel
theorem dOffice_judge_100 : decode prog_1_method_25_code 100 = .ok (.getfield 164, 3) := by decide +kernel
theorem dOffice_judge_103 : decode prog_1_method_25_code 103 = .ok (.iconst 2, 1) := by decide +kernel
theorem dOffice_judge_104 : decode prog_1_method_25_code 104 = .ok (.laload, 1) := by decide +kernel
theorem dOffice_judge_105 : decode prog_1_method_25_code 105 = .ok (.lstore 13, 2) := by decide +kernel
theorem dOffice_judge_107 : decode prog_1_method_25_code 107 = .ok (.aload_n 0, 1) := by decide +kernel
theorem dOffice_judge_108 : decode prog_1_method_25_code 108 = .ok (.getfield 62, 3) := by decide +kernel
theorem dOffice_judge_111 : decode prog_1_method_25_code 111 = .ok (.aload_n 0, 1) := by decide +kernel
theorem dOffice_judge_112 : decode prog_1_method_25_code 112 = .ok (.getfield 19, 3) := by decide +kernel
theorem dOffice_judge_115 : decode prog_1_method_25_code 115 = .ok (.aload_n 0, 1) := by decide +kernel
theorem dOffice_judge_116 : decode prog_1_method_25_code 116 = .ok (.getfield 40, 3) := by decide +kernel
theorem dOffice_judge_119 : decode prog_1_method_25_code 119 = .ok (.aload 6, 2) := by decide +kernel
theorem dOffice_judge_121 : decode prog_1_method_25_code 121 = .ok (.aload_n 0, 1) := by decide +kernel
theorem dOffice_judge_122 : decode prog_1_method_25_code 122 = .ok (.getfield 47, 3) := by decide +kernel
theorem dOffice_judge_125 : decode prog_1_method_25_code 125 = .ok (.iload_n 3, 1) := by decide +kernel
theorem dOffice_judge_126 : decode prog_1_method_25_code 126 = .ok (.iload 4, 2) := by decide +kernel
theorem dOffice_judge_128 : decode prog_1_method_25_code 128 = .ok (.invokevirtual 151, 3) := by decide +kernel
theorem dOffice_judge_131 : decode prog_1_method_25_code 131 = .ok (.lload 7, 2) := by decide +kernel
theorem dOffice_judge_133 : decode prog_1_method_25_code 133 = .ok (.aload_n 0, 1) := by decide +kernel
theorem dOffice_judge_134 : decode prog_1_method_25_code 134 = .ok (.getfield 62, 3) := by decide +kernel
theorem dOffice_judge_137 : decode prog_1_method_25_code 137 = .ok (.getfield 164, 3) := by decide +kernel
theorem dOffice_judge_140 : decode prog_1_method_25_code 140 = .ok (.iconst 0, 1) := by decide +kernel
theorem dOffice_judge_141 : decode prog_1_method_25_code 141 = .ok (.laload, 1) := by decide +kernel
theorem dOffice_judge_142 : decode prog_1_method_25_code 142 = .ok (.invokestatic 228, 3) := by decide +kernel
theorem dOffice_judge_145 : decode prog_1_method_25_code 145 = .ok (.istore 15, 2) := by decide +kernel
theorem dOffice_judge_147 : decode prog_1_method_25_code 147 = .ok (.iload 15, 2) := by decide +kernel
theorem dOffice_judge_149 : decode prog_1_method_25_code 149 = .ok (.ifCond .ne 32, 3) := by decide +kernel
theorem dOffice_judge_152 : decode prog_1_method_25_code 152 = .ok (.lload 9, 2) := by decide +kernel
theorem dOffice_judge_154 : decode prog_1_method_25_code 154 = .ok (.lload 11, 2) := by decide +kernel
theorem dOffice_judge_156 : decode prog_1_method_25_code 156 = .ok (.aload_n 0, 1) := by decide +kernel
theorem dOffice_judge_157 : decode prog_1_method_25_code 157 = .ok (.getfield 62, 3) := by decide +kernel
theorem dOffice_judge_160 : decode prog_1_method_25_code 160 = .ok (.getfield 164, 3) := by decide +kernel
theorem dOffice_judge_163 : decode prog_1_method_25_code 163 = .ok (.bipush 8, 2) := by decide +kernel
theorem dOffice_judge_165 : decode prog_1_method_25_code 165 = .ok (.laload, 1) := by decide +kernel
theorem dOffice_judge_166 : decode prog_1_method_25_code 166 = .ok (.aload_n 0, 1) := by decide +kernel
theorem dOffice_judge_167 : decode prog_1_method_25_code 167 = .ok (.getfield 62, 3) := by decide +kernel
theorem dOffice_judge_170 : decode prog_1_method_25_code 170 = .ok (.getfield 164, 3) := by decide +kernel
theorem dOffice_judge_173 : decode prog_1_method_25_code 173 = .ok (.bipush 9, 2) := by decide +kernel
theorem dOffice_judge_175 : decode prog_1_method_25_code 175 = .ok (.laload, 1) := by decide +kernel
theorem dOffice_judge_176 : decode prog_1_method_25_code 176 = .ok (.invokestatic 234, 3) := by decide +kernel
theorem dOffice_judge_179 : decode prog_1_method_25_code 179 = .ok (.istore 15, 2) := by decide +kernel
theorem dOffice_judge_181 : decode prog_1_method_25_code 181 = .ok (.iload 15, 2) := by decide +kernel
theorem dOffice_judge_183 : decode prog_1_method_25_code 183 = .ok (.ifCond .ne 19, 3) := by decide +kernel
theorem dOffice_judge_186 : decode prog_1_method_25_code 186 = .ok (.aload_n 0, 1) := by decide +kernel
theorem dOffice_judge_187 : decode prog_1_method_25_code 187 = .ok (.getfield 62, 3) := by decide +kernel
theorem dOffice_judge_190 : decode prog_1_method_25_code 190 = .ok (.getfield 164, 3) := by decide +kernel
theorem dOffice_judge_193 : decode prog_1_method_25_code 193 = .ok (.iconst 2, 1) := by decide +kernel
theorem dOffice_judge_194 : decode prog_1_method_25_code 194 = .ok (.laload, 1) := by decide +kernel
theorem dOffice_judge_195 : decode prog_1_method_25_code 195 = .ok (.lload 13, 2) := by decide +kernel
theorem dOffice_judge_197 : decode prog_1_method_25_code 197 = .ok (.invokestatic 228, 3) := by decide +kernel
theorem dOffice_judge_200 : decode prog_1_method_25_code 200 = .ok (.istore 15, 2) := by decide +kernel
theorem dOffice_judge_202 : decode prog_1_method_25_code 202 = .ok (.iload 15, 2) := by decide +kernel
theorem dOffice_judge_204 : decode prog_1_method_25_code 204 = .ok (.ifCond .ne 5, 3) := by decide +kernel
theorem dOffice_judge_207 : decode prog_1_method_25_code 207 = .ok (.iconst 2, 1) := by decide +kernel
theorem dOffice_judge_208 : decode prog_1_method_25_code 208 = .ok (.ireturn, 1) := by decide +kernel
theorem dOffice_judge_209 : decode prog_1_method_25_code 209 = .ok (.iload 15, 2) := by decide +kernel
theorem dOffice_judge_211 : decode prog_1_method_25_code 211 = .ok (.ifCond .ge 7, 3) := by decide +kernel
theorem dOffice_judge_214 : decode prog_1_method_25_code 214 = .ok (.iconst 0, 1) := by decide +kernel
theorem dOffice_judge_215 : decode prog_1_method_25_code 215 = .ok (.goto 4, 3) := by decide +kernel
theorem dOffice_judge_218 : decode prog_1_method_25_code 218 = .ok (.iconst 1, 1) := by decide +kernel
theorem dOffice_judge_219 : decode prog_1_method_25_code 219 = .ok (.ireturn, 1) := by decide +kernel
theorem dOffice_about_0 : decode prog_1_method_26_code 0 = .ok (.iload_n 1, 1) := by decide +kernel
theorem dOffice_about_1 : decode prog_1_method_26_code 1 = .ok (.tableswitch 108 0 7 #[47, 55, 63, 71, 79, 87, 95, 100], 47) := by decide +kernel
theorem dOffice_about_48 : decode prog_1_method_26_code 48 = .ok (.aload_n 0, 1) := by decide +kernel
theorem dOffice_about_49 : decode prog_1_method_26_code 49 = .ok (.getfield 19, 3) := by decide +kernel
theorem dOffice_about_52 : decode prog_1_method_26_code 52 = .ok (.getfield 86, 3) := by decide +kernel
theorem dOffice_about_55 : decode prog_1_method_26_code 55 = .ok (.ireturn, 1) := by decide +kernel
theorem dOffice_about_56 : decode prog_1_method_26_code 56 = .ok (.aload_n 0, 1) := by decide +kernel
theorem dOffice_about_57 : decode prog_1_method_26_code 57 = .ok (.getfield 19, 3) := by decide +kernel
theorem dOffice_about_60 : decode prog_1_method_26_code 60 = .ok (.getfield 89, 3) := by decide +kernel
theorem dOffice_about_63 : decode prog_1_method_26_code 63 = .ok (.ireturn, 1) := by decide +kernel
theorem dOffice_about_64 : decode prog_1_method_26_code 64 = .ok (.aload_n 0, 1) := by decide +kernel
theorem dOffice_about_65 : decode prog_1_method_26_code 65 = .ok (.getfield 19, 3) := by decide +kernel
theorem dOffice_about_68 : decode prog_1_method_26_code 68 = .ok (.getfield 92, 3) := by decide +kernel
theorem dOffice_about_71 : decode prog_1_method_26_code 71 = .ok (.ireturn, 1) := by decide +kernel
theorem dOffice_about_72 : decode prog_1_method_26_code 72 = .ok (.aload_n 0, 1) := by decide +kernel
theorem dOffice_about_73 : decode prog_1_method_26_code 73 = .ok (.getfield 19, 3) := by decide +kernel
theorem dOffice_about_76 : decode prog_1_method_26_code 76 = .ok (.getfield 83, 3) := by decide +kernel
theorem dOffice_about_79 : decode prog_1_method_26_code 79 = .ok (.ireturn, 1) := by decide +kernel
theorem dOffice_about_80 : decode prog_1_method_26_code 80 = .ok (.aload_n 0, 1) := by decide +kernel
theorem dOffice_about_81 : decode prog_1_method_26_code 81 = .ok (.getfield 40, 3) := by decide +kernel
theorem dOffice_about_84 : decode prog_1_method_26_code 84 = .ok (.getfield 109, 3) := by decide +kernel
theorem dOffice_about_87 : decode prog_1_method_26_code 87 = .ok (.ireturn, 1) := by decide +kernel
theorem dOffice_about_88 : decode prog_1_method_26_code 88 = .ok (.aload_n 0, 1) := by decide +kernel
theorem dOffice_about_89 : decode prog_1_method_26_code 89 = .ok (.getfield 47, 3) := by decide +kernel
theorem dOffice_about_92 : decode prog_1_method_26_code 92 = .ok (.getfield 76, 3) := by decide +kernel
theorem dOffice_about_95 : decode prog_1_method_26_code 95 = .ok (.ireturn, 1) := by decide +kernel
theorem dOffice_about_96 : decode prog_1_method_26_code 96 = .ok (.aload_n 0, 1) := by decide +kernel
theorem dOffice_about_97 : decode prog_1_method_26_code 97 = .ok (.getfield 51, 3) := by decide +kernel
theorem dOffice_about_100 : decode prog_1_method_26_code 100 = .ok (.ireturn, 1) := by decide +kernel
theorem dOffice_about_101 : decode prog_1_method_26_code 101 = .ok (.aload_n 0, 1) := by decide +kernel
theorem dOffice_about_102 : decode prog_1_method_26_code 102 = .ok (.getfield 12, 3) := by decide +kernel
theorem dOffice_about_105 : decode prog_1_method_26_code 105 = .ok (.getfield 65, 3) := by decide +kernel
theorem dOffice_about_108 : decode prog_1_method_26_code 108 = .ok (.ireturn, 1) := by decide +kernel
theorem dOffice_about_109 : decode prog_1_method_26_code 109 = .ok (.iload_n 1, 1) := by decide +kernel
theorem dOffice_about_110 : decode prog_1_method_26_code 110 = .ok (.bipush 10, 2) := by decide +kernel
theorem dOffice_about_112 : decode prog_1_method_26_code 112 = .ok (.if_icmp .ge 7, 3) := by decide +kernel
theorem dOffice_about_115 : decode prog_1_method_26_code 115 = .ok (.aconst_null, 1) := by decide +kernel
theorem dOffice_about_116 : decode prog_1_method_26_code 116 = .ok (.goto 11, 3) := by decide +kernel
theorem dOffice_about_119 : decode prog_1_method_26_code 119 = .ok (.aload_n 0, 1) := by decide +kernel
theorem dOffice_about_120 : decode prog_1_method_26_code 120 = .ok (.iload_n 1, 1) := by decide +kernel
theorem dOffice_about_121 : decode prog_1_method_26_code 121 = .ok (.bipush 10, 2) := by decide +kernel
theorem dOffice_about_123 : decode prog_1_method_26_code 123 = .ok (.isub, 1) := by decide +kernel
theorem dOffice_about_124 : decode prog_1_method_26_code 124 = .ok (.invokevirtual 147, 3) := by decide +kernel
theorem dOffice_about_127 : decode prog_1_method_26_code 127 = .ok (.astore_n 2, 1) := by decide +kernel
theorem dOffice_about_128 : decode prog_1_method_26_code 128 = .ok (.aload_n 2, 1) := by decide +kernel
theorem dOffice_about_129 : decode prog_1_method_26_code 129 = .ok (.ifnonnull 7, 3) := by decide +kernel
theorem dOffice_about_132 : decode prog_1_method_26_code 132 = .ok (.iconst (-1), 1) := by decide +kernel
theorem dOffice_about_133 : decode prog_1_method_26_code 133 = .ok (.goto 7, 3) := by decide +kernel
theorem dOffice_about_136 : decode prog_1_method_26_code 136 = .ok (.aload_n 2, 1) := by decide +kernel
theorem dOffice_about_137 : decode prog_1_method_26_code 137 = .ok (.getfield 96, 3) := by decide +kernel
theorem dOffice_about_140 : decode prog_1_method_26_code 140 = .ok (.ireturn, 1) := by decide +kernel
theorem dOffice_shelfAt_0 : decode prog_1_method_27_code 0 = .ok (.iload_n 1, 1) := by decide +kernel
theorem dOffice_shelfAt_1 : decode prog_1_method_27_code 1 = .ok (.ifCond .lt 8, 3) := by decide +kernel
theorem dOffice_shelfAt_4 : decode prog_1_method_27_code 4 = .ok (.iload_n 1, 1) := by decide +kernel
theorem dOffice_shelfAt_5 : decode prog_1_method_27_code 5 = .ok (.iconst 4, 1) := by decide +kernel
theorem dOffice_shelfAt_6 : decode prog_1_method_27_code 6 = .ok (.if_icmp .lt 7, 3) := by decide +kernel
theorem dOffice_shelfAt_9 : decode prog_1_method_27_code 9 = .ok (.aconst_null, 1) := by decide +kernel
theorem dOffice_shelfAt_10 : decode prog_1_method_27_code 10 = .ok (.goto 9, 3) := by decide +kernel
theorem dOffice_shelfAt_13 : decode prog_1_method_27_code 13 = .ok (.aload_n 0, 1) := by decide +kernel
theorem dOffice_shelfAt_14 : decode prog_1_method_27_code 14 = .ok (.getfield 28, 3) := by decide +kernel
theorem dOffice_shelfAt_17 : decode prog_1_method_27_code 17 = .ok (.iload_n 1, 1) := by decide +kernel
theorem dOffice_shelfAt_18 : decode prog_1_method_27_code 18 = .ok (.aaload, 1) := by decide +kernel
theorem dOffice_shelfAt_19 : decode prog_1_method_27_code 19 = .ok (.areturn, 1) := by decide +kernel
theorem dOffice_ranMonth_0 : decode prog_1_method_28_code 0 = .ok (.aload_n 0, 1) := by decide +kernel
theorem dOffice_ranMonth_1 : decode prog_1_method_28_code 1 = .ok (.getfield 58, 3) := by decide +kernel
theorem dOffice_ranMonth_4 : decode prog_1_method_28_code 4 = .ok (.getfield 79, 3) := by decide +kernel
theorem dOffice_ranMonth_7 : decode prog_1_method_28_code 7 = .ok (.ifCond .eq 22, 3) := by decide +kernel
theorem dOffice_ranMonth_10 : decode prog_1_method_28_code 10 = .ok (.iload_n 1, 1) := by decide +kernel
theorem dOffice_ranMonth_11 : decode prog_1_method_28_code 11 = .ok (.ifCond .lt 18, 3) := by decide +kernel
theorem dOffice_ranMonth_14 : decode prog_1_method_28_code 14 = .ok (.iload_n 1, 1) := by decide +kernel
theorem dOffice_ranMonth_15 : decode prog_1_method_28_code 15 = .ok (.aload_n 0, 1) := by decide +kernel
theorem dOffice_ranMonth_16 : decode prog_1_method_28_code 16 = .ok (.getfield 58, 3) := by decide +kernel
theorem dOffice_ranMonth_19 : decode prog_1_method_28_code 19 = .ok (.getfield 238, 3) := by decide +kernel
theorem dOffice_ranMonth_22 : decode prog_1_method_28_code 22 = .ok (.if_icmp .ge 7, 3) := by decide +kernel
theorem dOffice_ranMonth_25 : decode prog_1_method_28_code 25 = .ok (.iconst 1, 1) := by decide +kernel
theorem dOffice_ranMonth_26 : decode prog_1_method_28_code 26 = .ok (.goto 4, 3) := by decide +kernel
theorem dOffice_ranMonth_29 : decode prog_1_method_28_code 29 = .ok (.iconst 0, 1) := by decide +kernel
theorem dOffice_ranMonth_30 : decode prog_1_method_28_code 30 = .ok (.ireturn, 1) := by decide +kernel
theorem dOffice_monthsOfWay_0 : decode prog_1_method_29_code 0 = .ok (.iload_n 0, 1) := by decide +kernel
theorem dOffice_monthsOfWay_1 : decode prog_1_method_29_code 1 = .ok (.bipush 29, 2) := by decide +kernel
theorem dOffice_monthsOfWay_3 : decode prog_1_method_29_code 3 = .ok (.iadd, 1) := by decide +kernel
theorem dOffice_monthsOfWay_4 : decode prog_1_method_29_code 4 = .ok (.bipush 30, 2) := by decide +kernel
theorem dOffice_monthsOfWay_6 : decode prog_1_method_29_code 6 = .ok (.idiv, 1) := by decide +kernel
theorem dOffice_monthsOfWay_7 : decode prog_1_method_29_code 7 = .ok (.ireturn, 1) := by decide +kernel
theorem dOffice_within_0 : decode prog_1_method_30_code 0 = .ok (.iload_n 0, 1) := by decide +kernel
theorem dOffice_within_1 : decode prog_1_method_30_code 1 = .ok (.iload_n 1, 1) := by decide +kernel
theorem dOffice_within_2 : decode prog_1_method_30_code 2 = .ok (.if_icmp .lt 12, 3) := by decide +kernel
theorem dOffice_within_5 : decode prog_1_method_30_code 5 = .ok (.iload_n 0, 1) := by decide +kernel
theorem dOffice_within_6 : decode prog_1_method_30_code 6 = .ok (.iload_n 2, 1) := by decide +kernel
theorem dOffice_within_7 : decode prog_1_method_30_code 7 = .ok (.if_icmp .gt 7, 3) := by decide +kernel
theorem dOffice_within_10 : decode prog_1_method_30_code 10 = .ok (.iconst 1, 1) := by decide +kernel
theorem dOffice_within_11 : decode prog_1_method_30_code 11 = .ok (.goto 4, 3) := by decide +kernel
theorem dOffice_within_14 : decode prog_1_method_30_code 14 = .ok (.iconst 0, 1) := by decide +kernel
theorem dOffice_within_15 : decode prog_1_method_30_code 15 = .ok (.ireturn, 1) := by decide +kernel
theorem dOffice_compareWaits_0 : decode prog_1_method_31_code 0 = .ok (.lload_n 2, 1) := by decide +kernel
theorem dOffice_compareWaits_1 : decode prog_1_method_31_code 1 = .ok (.lconst 0, 1) := by decide +kernel
theorem dOffice_compareWaits_2 : decode prog_1_method_31_code 2 = .ok (.lcmp, 1) := by decide +kernel
theorem dOffice_compareWaits_3 : decode prog_1_method_31_code 3 = .ok (.ifCond .eq 10, 3) := by decide +kernel
theorem dOffice_compareWaits_6 : decode prog_1_method_31_code 6 = .ok (.lload 6, 2) := by decide +kernel
theorem dOffice_compareWaits_8 : decode prog_1_method_31_code 8 = .ok (.lconst 0, 1) := by decide +kernel
theorem dOffice_compareWaits_9 : decode prog_1_method_31_code 9 = .ok (.lcmp, 1) := by decide +kernel
theorem dOffice_compareWaits_10 : decode prog_1_method_31_code 10 = .ok (.ifCond .ne 30, 3) := by decide +kernel
theorem dOffice_compareWaits_13 : decode prog_1_method_31_code 13 = .ok (.lload 6, 2) := by decide +kernel
theorem dOffice_compareWaits_15 : decode prog_1_method_31_code 15 = .ok (.lconst 0, 1) := by decide +kernel
theorem dOffice_compareWaits_16 : decode prog_1_method_31_code 16 = .ok (.lcmp, 1) := by decide +kernel
theorem dOffice_compareWaits_17 : decode prog_1_method_31_code 17 = .ok (.ifCond .ne 7, 3) := by decide +kernel
theorem dOffice_compareWaits_20 : decode prog_1_method_31_code 20 = .ok (.lconst 0, 1) := by decide +kernel
theorem dOffice_compareWaits_21 : decode prog_1_method_31_code 21 = .ok (.goto 4, 3) := by decide +kernel
theorem dOffice_compareWaits_24 : decode prog_1_method_31_code 24 = .ok (.lconst 1, 1) := by decide +kernel
theorem dOffice_compareWaits_25 : decode prog_1_method_31_code 25 = .ok (.lload_n 2, 1) := by decide +kernel
theorem dOffice_compareWaits_26 : decode prog_1_method_31_code 26 = .ok (.lconst 0, 1) := by decide +kernel
theorem dOffice_compareWaits_27 : decode prog_1_method_31_code 27 = .ok (.lcmp, 1) := by decide +kernel
theorem dOffice_compareWaits_28 : decode prog_1_method_31_code 28 = .ok (.ifCond .ne 7, 3) := by decide +kernel
theorem dOffice_compareWaits_31 : decode prog_1_method_31_code 31 = .ok (.lconst 0, 1) := by decide +kernel
theorem dOffice_compareWaits_32 : decode prog_1_method_31_code 32 = .ok (.goto 4, 3) := by decide +kernel
theorem dOffice_compareWaits_35 : decode prog_1_method_31_code 35 = .ok (.lconst 1, 1) := by decide +kernel
theorem dOffice_compareWaits_36 : decode prog_1_method_31_code 36 = .ok (.invokestatic 228, 3) := by decide +kernel
theorem dOffice_compareWaits_39 : decode prog_1_method_31_code 39 = .ok (.ireturn, 1) := by decide +kernel
theorem dOffice_compareWaits_40 : decode prog_1_method_31_code 40 = .ok (.lload_n 0, 1) := by decide +kernel
theorem dOffice_compareWaits_41 : decode prog_1_method_31_code 41 = .ok (.lload 6, 2) := by decide +kernel
theorem dOffice_compareWaits_43 : decode prog_1_method_31_code 43 = .ok (.lmul, 1) := by decide +kernel
theorem dOffice_compareWaits_44 : decode prog_1_method_31_code 44 = .ok (.lload 4, 2) := by decide +kernel
theorem dOffice_compareWaits_46 : decode prog_1_method_31_code 46 = .ok (.lload_n 2, 1) := by decide +kernel
theorem dOffice_compareWaits_47 : decode prog_1_method_31_code 47 = .ok (.lmul, 1) := by decide +kernel
theorem dOffice_compareWaits_48 : decode prog_1_method_31_code 48 = .ok (.invokestatic 228, 3) := by decide +kernel
theorem dOffice_compareWaits_51 : decode prog_1_method_31_code 51 = .ok (.ireturn, 1) := by decide +kernel
theorem dModel_sign_0 : decode prog_14_method_1_code 0 = .ok (.iload_n 1, 1) := by decide +kernel
theorem dModel_sign_1 : decode prog_14_method_1_code 1 = .ok (.aload_n 0, 1) := by decide +kernel
theorem dModel_sign_2 : decode prog_14_method_1_code 2 = .ok (.getfield 1, 3) := by decide +kernel
theorem dModel_sign_5 : decode prog_14_method_1_code 5 = .ok (.if_icmp .ge 16, 3) := by decide +kernel
theorem dModel_sign_8 : decode prog_14_method_1_code 8 = .ok (.aload_n 0, 1) := by decide +kernel
theorem dModel_sign_9 : decode prog_14_method_1_code 9 = .ok (.getfield 7, 3) := by decide +kernel
theorem dModel_sign_12 : decode prog_14_method_1_code 12 = .ok (.iload_n 1, 1) := by decide +kernel
theorem dModel_sign_13 : decode prog_14_method_1_code 13 = .ok (.baload, 1) := by decide +kernel
theorem dModel_sign_14 : decode prog_14_method_1_code 14 = .ok (.sipush 255, 3) := by decide +kernel
theorem dModel_sign_17 : decode prog_14_method_1_code 17 = .ok (.iand, 1) := by decide +kernel
theorem dModel_sign_18 : decode prog_14_method_1_code 18 = .ok (.goto 4, 3) := by decide +kernel
theorem dModel_sign_21 : decode prog_14_method_1_code 21 = .ok (.iconst 0, 1) := by decide +kernel
theorem dModel_sign_22 : decode prog_14_method_1_code 22 = .ok (.ireturn, 1) := by decide +kernel
theorem dModel_isLetter_0 : decode prog_14_method_2_code 0 = .ok (.iload_n 0, 1) := by decide +kernel
theorem dModel_isLetter_1 : decode prog_14_method_2_code 1 = .ok (.bipush 97, 2) := by decide +kernel
theorem dModel_isLetter_3 : decode prog_14_method_2_code 3 = .ok (.if_icmp .lt 13, 3) := by decide +kernel
theorem dModel_isLetter_6 : decode prog_14_method_2_code 6 = .ok (.iload_n 0, 1) := by decide +kernel
theorem dModel_isLetter_7 : decode prog_14_method_2_code 7 = .ok (.bipush 122, 2) := by decide +kernel
theorem dModel_isLetter_9 : decode prog_14_method_2_code 9 = .ok (.if_icmp .gt 7, 3) := by decide +kernel
theorem dModel_isLetter_12 : decode prog_14_method_2_code 12 = .ok (.iconst 1, 1) := by decide +kernel
theorem dModel_isLetter_13 : decode prog_14_method_2_code 13 = .ok (.goto 4, 3) := by decide +kernel
theorem dModel_isLetter_16 : decode prog_14_method_2_code 16 = .ok (.iconst 0, 1) := by decide +kernel
theorem dModel_isLetter_17 : decode prog_14_method_2_code 17 = .ok (.ireturn, 1) := by decide +kernel
theorem dModel_isDigit_0 : decode prog_14_method_3_code 0 = .ok (.iload_n 0, 1) := by decide +kernel
theorem dModel_isDigit_1 : decode prog_14_method_3_code 1 = .ok (.bipush 48, 2) := by decide +kernel
theorem dModel_isDigit_3 : decode prog_14_method_3_code 3 = .ok (.if_icmp .lt 13, 3) := by decide +kernel
theorem dModel_isDigit_6 : decode prog_14_method_3_code 6 = .ok (.iload_n 0, 1) := by decide +kernel
theorem dModel_isDigit_7 : decode prog_14_method_3_code 7 = .ok (.bipush 57, 2) := by decide +kernel
theorem dModel_isDigit_9 : decode prog_14_method_3_code 9 = .ok (.if_icmp .gt 7, 3) := by decide +kernel
theorem dModel_isDigit_12 : decode prog_14_method_3_code 12 = .ok (.iconst 1, 1) := by decide +kernel
theorem dModel_isDigit_13 : decode prog_14_method_3_code 13 = .ok (.goto 4, 3) := by decide +kernel
theorem dModel_isDigit_16 : decode prog_14_method_3_code 16 = .ok (.iconst 0, 1) := by decide +kernel
theorem dModel_isDigit_17 : decode prog_14_method_3_code 17 = .ok (.ireturn, 1) := by decide +kernel
theorem dModel_fails_0 : decode prog_14_method_4_code 0 = .ok (.aload_n 0, 1) := by decide +kernel
theorem dModel_fails_1 : decode prog_14_method_4_code 1 = .ok (.getfield 11, 3) := by decide +kernel
theorem dModel_fails_4 : decode prog_14_method_4_code 4 = .ok (.ifCond .le 4, 3) := by decide +kernel
theorem dModel_fails_7 : decode prog_14_method_4_code 7 = .ok (.return_, 1) := by decide +kernel
theorem dModel_fails_8 : decode prog_14_method_4_code 8 = .ok (.aload_n 0, 1) := by decide +kernel
theorem dModel_fails_9 : decode prog_14_method_4_code 9 = .ok (.iload_n 1, 1) := by decide +kernel
theorem dModel_fails_10 : decode prog_14_method_4_code 10 = .ok (.putfield 11, 3) := by decide +kernel
theorem dModel_fails_13 : decode prog_14_method_4_code 13 = .ok (.aload_n 0, 1) := by decide +kernel
theorem dModel_fails_14 : decode prog_14_method_4_code 14 = .ok (.iload_n 2, 1) := by decide +kernel
theorem dModel_fails_15 : decode prog_14_method_4_code 15 = .ok (.putfield 14, 3) := by decide +kernel
theorem dModel_fails_18 : decode prog_14_method_4_code 18 = .ok (.return_, 1) := by decide +kernel
theorem dModel_isGood_0 : decode prog_14_method_5_code 0 = .ok (.aload_n 0, 1) := by decide +kernel
theorem dModel_isGood_1 : decode prog_14_method_5_code 1 = .ok (.getfield 11, 3) := by decide +kernel
theorem dModel_isGood_4 : decode prog_14_method_5_code 4 = .ok (.ifCond .ne 7, 3) := by decide +kernel
theorem dModel_isGood_7 : decode prog_14_method_5_code 7 = .ok (.iconst 1, 1) := by decide +kernel
theorem dModel_isGood_8 : decode prog_14_method_5_code 8 = .ok (.goto 4, 3) := by decide +kernel
theorem dModel_isGood_11 : decode prog_14_method_5_code 11 = .ok (.iconst 0, 1) := by decide +kernel
theorem dModel_isGood_12 : decode prog_14_method_5_code 12 = .ok (.ireturn, 1) := by decide +kernel
theorem dModel_isKept_0 : decode prog_14_method_6_code 0 = .ok (.lload_n 0, 1) := by decide +kernel
theorem dModel_isKept_1 : decode prog_14_method_6_code 1 = .ok (.ldc2_w 17, 3) := by decide +kernel
theorem dModel_isKept_4 : decode prog_14_method_6_code 4 = .ok (.lcmp, 1) := by decide +kernel
theorem dModel_isKept_5 : decode prog_14_method_6_code 5 = .ok (.ifCond .eq 123, 3) := by decide +kernel
theorem dModel_isKept_8 : decode prog_14_method_6_code 8 = .ok (.lload_n 0, 1) := by decide +kernel
theorem dModel_isKept_9 : decode prog_14_method_6_code 9 = .ok (.ldc2_w 19, 3) := by decide +kernel
theorem dModel_isKept_12 : decode prog_14_method_6_code 12 = .ok (.lcmp, 1) := by decide +kernel
theorem dModel_isKept_13 : decode prog_14_method_6_code 13 = .ok (.ifCond .eq 115, 3) := by decide +kernel
theorem dModel_isKept_16 : decode prog_14_method_6_code 16 = .ok (.lload_n 0, 1) := by decide +kernel
theorem dModel_isKept_17 : decode prog_14_method_6_code 17 = .ok (.ldc2_w 21, 3) := by decide +kernel
theorem dModel_isKept_20 : decode prog_14_method_6_code 20 = .ok (.lcmp, 1) := by decide +kernel
theorem dModel_isKept_21 : decode prog_14_method_6_code 21 = .ok (.ifCond .eq 107, 3) := by decide +kernel
theorem dModel_isKept_24 : decode prog_14_method_6_code 24 = .ok (.lload_n 0, 1) := by decide +kernel
theorem dModel_isKept_25 : decode prog_14_method_6_code 25 = .ok (.ldc2_w 23, 3) := by decide +kernel
theorem dModel_isKept_28 : decode prog_14_method_6_code 28 = .ok (.lcmp, 1) := by decide +kernel
theorem dModel_isKept_29 : decode prog_14_method_6_code 29 = .ok (.ifCond .eq 99, 3) := by decide +kernel
theorem dModel_isKept_32 : decode prog_14_method_6_code 32 = .ok (.lload_n 0, 1) := by decide +kernel
theorem dModel_isKept_33 : decode prog_14_method_6_code 33 = .ok (.ldc2_w 25, 3) := by decide +kernel
theorem dModel_isKept_36 : decode prog_14_method_6_code 36 = .ok (.lcmp, 1) := by decide +kernel
theorem dModel_isKept_37 : decode prog_14_method_6_code 37 = .ok (.ifCond .eq 91, 3) := by decide +kernel
theorem dModel_isKept_40 : decode prog_14_method_6_code 40 = .ok (.lload_n 0, 1) := by decide +kernel
theorem dModel_isKept_41 : decode prog_14_method_6_code 41 = .ok (.ldc2_w 27, 3) := by decide +kernel
theorem dModel_isKept_44 : decode prog_14_method_6_code 44 = .ok (.lcmp, 1) := by decide +kernel
theorem dModel_isKept_45 : decode prog_14_method_6_code 45 = .ok (.ifCond .eq 83, 3) := by decide +kernel
theorem dModel_isKept_48 : decode prog_14_method_6_code 48 = .ok (.lload_n 0, 1) := by decide +kernel
theorem dModel_isKept_49 : decode prog_14_method_6_code 49 = .ok (.ldc2_w 29, 3) := by decide +kernel
theorem dModel_isKept_52 : decode prog_14_method_6_code 52 = .ok (.lcmp, 1) := by decide +kernel
theorem dModel_isKept_53 : decode prog_14_method_6_code 53 = .ok (.ifCond .eq 75, 3) := by decide +kernel
theorem dModel_isKept_56 : decode prog_14_method_6_code 56 = .ok (.lload_n 0, 1) := by decide +kernel
theorem dModel_isKept_57 : decode prog_14_method_6_code 57 = .ok (.ldc2_w 31, 3) := by decide +kernel
theorem dModel_isKept_60 : decode prog_14_method_6_code 60 = .ok (.lcmp, 1) := by decide +kernel
theorem dModel_isKept_61 : decode prog_14_method_6_code 61 = .ok (.ifCond .eq 67, 3) := by decide +kernel
theorem dModel_isKept_64 : decode prog_14_method_6_code 64 = .ok (.lload_n 0, 1) := by decide +kernel
theorem dModel_isKept_65 : decode prog_14_method_6_code 65 = .ok (.ldc2_w 33, 3) := by decide +kernel
theorem dModel_isKept_68 : decode prog_14_method_6_code 68 = .ok (.lcmp, 1) := by decide +kernel
theorem dModel_isKept_69 : decode prog_14_method_6_code 69 = .ok (.ifCond .eq 59, 3) := by decide +kernel
theorem dModel_isKept_72 : decode prog_14_method_6_code 72 = .ok (.lload_n 0, 1) := by decide +kernel
theorem dModel_isKept_73 : decode prog_14_method_6_code 73 = .ok (.ldc2_w 35, 3) := by decide +kernel
theorem dModel_isKept_76 : decode prog_14_method_6_code 76 = .ok (.lcmp, 1) := by decide +kernel
theorem dModel_isKept_77 : decode prog_14_method_6_code 77 = .ok (.ifCond .eq 51, 3) := by decide +kernel
theorem dModel_isKept_80 : decode prog_14_method_6_code 80 = .ok (.lload_n 0, 1) := by decide +kernel
theorem dModel_isKept_81 : decode prog_14_method_6_code 81 = .ok (.ldc2_w 37, 3) := by decide +kernel
theorem dModel_isKept_84 : decode prog_14_method_6_code 84 = .ok (.lcmp, 1) := by decide +kernel
theorem dModel_isKept_85 : decode prog_14_method_6_code 85 = .ok (.ifCond .eq 43, 3) := by decide +kernel
theorem dModel_isKept_88 : decode prog_14_method_6_code 88 = .ok (.lload_n 0, 1) := by decide +kernel
theorem dModel_isKept_89 : decode prog_14_method_6_code 89 = .ok (.ldc2_w 39, 3) := by decide +kernel
theorem dModel_isKept_92 : decode prog_14_method_6_code 92 = .ok (.lcmp, 1) := by decide +kernel
theorem dModel_isKept_93 : decode prog_14_method_6_code 93 = .ok (.ifCond .eq 35, 3) := by decide +kernel
theorem dModel_isKept_96 : decode prog_14_method_6_code 96 = .ok (.lload_n 0, 1) := by decide +kernel
theorem dModel_isKept_97 : decode prog_14_method_6_code 97 = .ok (.ldc2_w 41, 3) := by decide +kernel
theorem dModel_isKept_100 : decode prog_14_method_6_code 100 = .ok (.lcmp, 1) := by decide +kernel
theorem dModel_isKept_101 : decode prog_14_method_6_code 101 = .ok (.ifCond .eq 27, 3) := by decide +kernel
theorem dModel_isKept_104 : decode prog_14_method_6_code 104 = .ok (.lload_n 0, 1) := by decide +kernel
theorem dModel_isKept_105 : decode prog_14_method_6_code 105 = .ok (.ldc2_w 43, 3) := by decide +kernel
theorem dModel_isKept_108 : decode prog_14_method_6_code 108 = .ok (.lcmp, 1) := by decide +kernel
theorem dModel_isKept_109 : decode prog_14_method_6_code 109 = .ok (.ifCond .eq 19, 3) := by decide +kernel
theorem dModel_isKept_112 : decode prog_14_method_6_code 112 = .ok (.lload_n 0, 1) := by decide +kernel
theorem dModel_isKept_113 : decode prog_14_method_6_code 113 = .ok (.ldc2_w 45, 3) := by decide +kernel
theorem dModel_isKept_116 : decode prog_14_method_6_code 116 = .ok (.lcmp, 1) := by decide +kernel
theorem dModel_isKept_117 : decode prog_14_method_6_code 117 = .ok (.ifCond .eq 11, 3) := by decide +kernel
theorem dModel_isKept_120 : decode prog_14_method_6_code 120 = .ok (.lload_n 0, 1) := by decide +kernel
theorem dModel_isKept_121 : decode prog_14_method_6_code 121 = .ok (.ldc2_w 47, 3) := by decide +kernel
theorem dModel_isKept_124 : decode prog_14_method_6_code 124 = .ok (.lcmp, 1) := by decide +kernel
theorem dModel_isKept_125 : decode prog_14_method_6_code 125 = .ok (.ifCond .ne 7, 3) := by decide +kernel
theorem dModel_isKept_128 : decode prog_14_method_6_code 128 = .ok (.iconst 1, 1) := by decide +kernel
theorem dModel_isKept_129 : decode prog_14_method_6_code 129 = .ok (.goto 4, 3) := by decide +kernel
theorem dModel_isKept_132 : decode prog_14_method_6_code 132 = .ok (.iconst 0, 1) := by decide +kernel
theorem dModel_isKept_133 : decode prog_14_method_6_code 133 = .ok (.istore_n 2, 1) := by decide +kernel
theorem dModel_isKept_134 : decode prog_14_method_6_code 134 = .ok (.iload_n 2, 1) := by decide +kernel
theorem dModel_isKept_135 : decode prog_14_method_6_code 135 = .ok (.ifCond .ne 131, 3) := by decide +kernel
theorem dModel_isKept_138 : decode prog_14_method_6_code 138 = .ok (.lload_n 0, 1) := by decide +kernel
theorem dModel_isKept_139 : decode prog_14_method_6_code 139 = .ok (.ldc2_w 49, 3) := by decide +kernel
theorem dModel_isKept_142 : decode prog_14_method_6_code 142 = .ok (.lcmp, 1) := by decide +kernel
theorem dModel_isKept_143 : decode prog_14_method_6_code 143 = .ok (.ifCond .eq 123, 3) := by decide +kernel
theorem dModel_isKept_146 : decode prog_14_method_6_code 146 = .ok (.lload_n 0, 1) := by decide +kernel
theorem dModel_isKept_147 : decode prog_14_method_6_code 147 = .ok (.ldc2_w 51, 3) := by decide +kernel
theorem dModel_isKept_150 : decode prog_14_method_6_code 150 = .ok (.lcmp, 1) := by decide +kernel
theorem dModel_isKept_151 : decode prog_14_method_6_code 151 = .ok (.ifCond .eq 115, 3) := by decide +kernel
theorem dModel_isKept_154 : decode prog_14_method_6_code 154 = .ok (.lload_n 0, 1) := by decide +kernel
theorem dModel_isKept_155 : decode prog_14_method_6_code 155 = .ok (.ldc2_w 53, 3) := by decide +kernel
theorem dModel_isKept_158 : decode prog_14_method_6_code 158 = .ok (.lcmp, 1) := by decide +kernel
theorem dModel_isKept_159 : decode prog_14_method_6_code 159 = .ok (.ifCond .eq 107, 3) := by decide +kernel
theorem dModel_isKept_162 : decode prog_14_method_6_code 162 = .ok (.lload_n 0, 1) := by decide +kernel
theorem dModel_isKept_163 : decode prog_14_method_6_code 163 = .ok (.ldc2_w 55, 3) := by decide +kernel
theorem dModel_isKept_166 : decode prog_14_method_6_code 166 = .ok (.lcmp, 1) := by decide +kernel
theorem dModel_isKept_167 : decode prog_14_method_6_code 167 = .ok (.ifCond .eq 99, 3) := by decide +kernel
theorem dModel_isKept_170 : decode prog_14_method_6_code 170 = .ok (.lload_n 0, 1) := by decide +kernel
theorem dModel_isKept_171 : decode prog_14_method_6_code 171 = .ok (.ldc2_w 57, 3) := by decide +kernel
theorem dModel_isKept_174 : decode prog_14_method_6_code 174 = .ok (.lcmp, 1) := by decide +kernel
theorem dModel_isKept_175 : decode prog_14_method_6_code 175 = .ok (.ifCond .eq 91, 3) := by decide +kernel
theorem dModel_isKept_178 : decode prog_14_method_6_code 178 = .ok (.lload_n 0, 1) := by decide +kernel
theorem dModel_isKept_179 : decode prog_14_method_6_code 179 = .ok (.ldc2_w 59, 3) := by decide +kernel
theorem dModel_isKept_182 : decode prog_14_method_6_code 182 = .ok (.lcmp, 1) := by decide +kernel
theorem dModel_isKept_183 : decode prog_14_method_6_code 183 = .ok (.ifCond .eq 83, 3) := by decide +kernel
theorem dModel_isKept_186 : decode prog_14_method_6_code 186 = .ok (.lload_n 0, 1) := by decide +kernel
theorem dModel_isKept_187 : decode prog_14_method_6_code 187 = .ok (.ldc2_w 61, 3) := by decide +kernel
theorem dModel_isKept_190 : decode prog_14_method_6_code 190 = .ok (.lcmp, 1) := by decide +kernel
theorem dModel_isKept_191 : decode prog_14_method_6_code 191 = .ok (.ifCond .eq 75, 3) := by decide +kernel
theorem dModel_isKept_194 : decode prog_14_method_6_code 194 = .ok (.lload_n 0, 1) := by decide +kernel
theorem dModel_isKept_195 : decode prog_14_method_6_code 195 = .ok (.ldc2_w 63, 3) := by decide +kernel
theorem dModel_isKept_198 : decode prog_14_method_6_code 198 = .ok (.lcmp, 1) := by decide +kernel
theorem dModel_isKept_199 : decode prog_14_method_6_code 199 = .ok (.ifCond .eq 67, 3) := by decide +kernel
theorem dModel_isKept_202 : decode prog_14_method_6_code 202 = .ok (.lload_n 0, 1) := by decide +kernel
theorem dModel_isKept_203 : decode prog_14_method_6_code 203 = .ok (.ldc2_w 65, 3) := by decide +kernel
theorem dModel_isKept_206 : decode prog_14_method_6_code 206 = .ok (.lcmp, 1) := by decide +kernel
theorem dModel_isKept_207 : decode prog_14_method_6_code 207 = .ok (.ifCond .eq 59, 3) := by decide +kernel
theorem dModel_isKept_210 : decode prog_14_method_6_code 210 = .ok (.lload_n 0, 1) := by decide +kernel
theorem dModel_isKept_211 : decode prog_14_method_6_code 211 = .ok (.ldc2_w 67, 3) := by decide +kernel
theorem dModel_isKept_214 : decode prog_14_method_6_code 214 = .ok (.lcmp, 1) := by decide +kernel
theorem dModel_isKept_215 : decode prog_14_method_6_code 215 = .ok (.ifCond .eq 51, 3) := by decide +kernel
theorem dModel_isKept_218 : decode prog_14_method_6_code 218 = .ok (.lload_n 0, 1) := by decide +kernel
theorem dModel_isKept_219 : decode prog_14_method_6_code 219 = .ok (.ldc2_w 69, 3) := by decide +kernel
theorem dModel_isKept_222 : decode prog_14_method_6_code 222 = .ok (.lcmp, 1) := by decide +kernel
theorem dModel_isKept_223 : decode prog_14_method_6_code 223 = .ok (.ifCond .eq 43, 3) := by decide +kernel
theorem dModel_isKept_226 : decode prog_14_method_6_code 226 = .ok (.lload_n 0, 1) := by decide +kernel
theorem dModel_isKept_227 : decode prog_14_method_6_code 227 = .ok (.ldc2_w 71, 3) := by decide +kernel
theorem dModel_isKept_230 : decode prog_14_method_6_code 230 = .ok (.lcmp, 1) := by decide +kernel
theorem dModel_isKept_231 : decode prog_14_method_6_code 231 = .ok (.ifCond .eq 35, 3) := by decide +kernel
theorem dModel_isKept_234 : decode prog_14_method_6_code 234 = .ok (.lload_n 0, 1) := by decide +kernel
theorem dModel_isKept_235 : decode prog_14_method_6_code 235 = .ok (.ldc2_w 73, 3) := by decide +kernel
theorem dModel_isKept_238 : decode prog_14_method_6_code 238 = .ok (.lcmp, 1) := by decide +kernel
theorem dModel_isKept_239 : decode prog_14_method_6_code 239 = .ok (.ifCond .eq 27, 3) := by decide +kernel
theorem dModel_isKept_242 : decode prog_14_method_6_code 242 = .ok (.lload_n 0, 1) := by decide +kernel
theorem dModel_isKept_243 : decode prog_14_method_6_code 243 = .ok (.ldc2_w 75, 3) := by decide +kernel
theorem dModel_isKept_246 : decode prog_14_method_6_code 246 = .ok (.lcmp, 1) := by decide +kernel
theorem dModel_isKept_247 : decode prog_14_method_6_code 247 = .ok (.ifCond .eq 19, 3) := by decide +kernel
theorem dModel_isKept_250 : decode prog_14_method_6_code 250 = .ok (.lload_n 0, 1) := by decide +kernel
theorem dModel_isKept_251 : decode prog_14_method_6_code 251 = .ok (.ldc2_w 77, 3) := by decide +kernel
theorem dModel_isKept_254 : decode prog_14_method_6_code 254 = .ok (.lcmp, 1) := by decide +kernel
theorem dModel_isKept_255 : decode prog_14_method_6_code 255 = .ok (.ifCond .eq 11, 3) := by decide +kernel
theorem dModel_isKept_258 : decode prog_14_method_6_code 258 = .ok (.lload_n 0, 1) := by decide +kernel
theorem dModel_isKept_259 : decode prog_14_method_6_code 259 = .ok (.ldc2_w 79, 3) := by decide +kernel
theorem dModel_isKept_262 : decode prog_14_method_6_code 262 = .ok (.lcmp, 1) := by decide +kernel
theorem dModel_isKept_263 : decode prog_14_method_6_code 263 = .ok (.ifCond .ne 7, 3) := by decide +kernel
theorem dModel_isKept_266 : decode prog_14_method_6_code 266 = .ok (.iconst 1, 1) := by decide +kernel
theorem dModel_isKept_267 : decode prog_14_method_6_code 267 = .ok (.goto 4, 3) := by decide +kernel
theorem dModel_isKept_270 : decode prog_14_method_6_code 270 = .ok (.iconst 0, 1) := by decide +kernel
theorem dModel_isKept_271 : decode prog_14_method_6_code 271 = .ok (.ireturn, 1) := by decide +kernel
theorem dModel_pointAt_0 : decode prog_14_method_7_code 0 = .ok (.iconst 0, 1) := by decide +kernel
theorem dModel_pointAt_1 : decode prog_14_method_7_code 1 = .ok (.istore_n 2, 1) := by decide +kernel
theorem dModel_pointAt_2 : decode prog_14_method_7_code 2 = .ok (.iconst 0, 1) := by decide +kernel
theorem dModel_pointAt_3 : decode prog_14_method_7_code 3 = .ok (.istore_n 3, 1) := by decide +kernel
theorem dModel_pointAt_4 : decode prog_14_method_7_code 4 = .ok (.iload_n 2, 1) := by decide +kernel
theorem dModel_pointAt_5 : decode prog_14_method_7_code 5 = .ok (.iconst 3, 1) := by decide +kernel
theorem dModel_pointAt_6 : decode prog_14_method_7_code 6 = .ok (.if_icmp .ge 38, 3) := by decide +kernel
theorem dModel_pointAt_9 : decode prog_14_method_7_code 9 = .ok (.aload_n 0, 1) := by decide +kernel
theorem dModel_pointAt_10 : decode prog_14_method_7_code 10 = .ok (.iload_n 1, 1) := by decide +kernel
theorem dModel_pointAt_11 : decode prog_14_method_7_code 11 = .ok (.iload_n 2, 1) := by decide +kernel
theorem dModel_pointAt_12 : decode prog_14_method_7_code 12 = .ok (.iadd, 1) := by decide +kernel
theorem dModel_pointAt_13 : decode prog_14_method_7_code 13 = .ok (.invokevirtual 81, 3) := by decide +kernel
theorem dModel_pointAt_16 : decode prog_14_method_7_code 16 = .ok (.invokestatic 85, 3) := by decide +kernel
theorem dModel_pointAt_19 : decode prog_14_method_7_code 19 = .ok (.ifCond .eq 25, 3) := by decide +kernel
theorem dModel_pointAt_22 : decode prog_14_method_7_code 22 = .ok (.bipush 10, 2) := by decide +kernel
theorem dModel_pointAt_24 : decode prog_14_method_7_code 24 = .ok (.iload_n 3, 1) := by decide +kernel
theorem dModel_pointAt_25 : decode prog_14_method_7_code 25 = .ok (.imul, 1) := by decide +kernel
theorem dModel_pointAt_26 : decode prog_14_method_7_code 26 = .ok (.aload_n 0, 1) := by decide +kernel
theorem dModel_pointAt_27 : decode prog_14_method_7_code 27 = .ok (.iload_n 1, 1) := by decide +kernel
theorem dModel_pointAt_28 : decode prog_14_method_7_code 28 = .ok (.iload_n 2, 1) := by decide +kernel
theorem dModel_pointAt_29 : decode prog_14_method_7_code 29 = .ok (.iadd, 1) := by decide +kernel
theorem dModel_pointAt_30 : decode prog_14_method_7_code 30 = .ok (.invokevirtual 81, 3) := by decide +kernel
theorem dModel_pointAt_33 : decode prog_14_method_7_code 33 = .ok (.iadd, 1) := by decide +kernel
theorem dModel_pointAt_34 : decode prog_14_method_7_code 34 = .ok (.bipush 48, 2) := by decide +kernel
theorem dModel_pointAt_36 : decode prog_14_method_7_code 36 = .ok (.isub, 1) := by decide +kernel
theorem dModel_pointAt_37 : decode prog_14_method_7_code 37 = .ok (.istore_n 3, 1) := by decide +kernel
theorem dModel_pointAt_38 : decode prog_14_method_7_code 38 = .ok (.iinc 2 1, 3) := by decide +kernel
theorem dModel_pointAt_41 : decode prog_14_method_7_code 41 = .ok (.goto (-37), 3) := by decide +kernel
theorem dModel_pointAt_44 : decode prog_14_method_7_code 44 = .ok (.iload_n 2, 1) := by decide +kernel
theorem dModel_pointAt_45 : decode prog_14_method_7_code 45 = .ok (.iconst 1, 1) := by decide +kernel
theorem dModel_pointAt_46 : decode prog_14_method_7_code 46 = .ok (.if_icmp .lt 27, 3) := by decide +kernel
theorem dModel_pointAt_49 : decode prog_14_method_7_code 49 = .ok (.iload_n 2, 1) := by decide +kernel
theorem dModel_pointAt_50 : decode prog_14_method_7_code 50 = .ok (.iconst 2, 1) := by decide +kernel
theorem dModel_pointAt_51 : decode prog_14_method_7_code 51 = .ok (.if_icmp .gt 22, 3) := by decide +kernel
theorem dModel_pointAt_54 : decode prog_14_method_7_code 54 = .ok (.iload_n 3, 1) := by decide +kernel
theorem dModel_pointAt_55 : decode prog_14_method_7_code 55 = .ok (.bipush 16, 2) := by decide +kernel
theorem dModel_pointAt_57 : decode prog_14_method_7_code 57 = .ok (.if_icmp .ge 16, 3) := by decide +kernel
theorem dModel_pointAt_60 : decode prog_14_method_7_code 60 = .ok (.aload_n 0, 1) := by decide +kernel
theorem dModel_pointAt_61 : decode prog_14_method_7_code 61 = .ok (.iload_n 1, 1) := by decide +kernel
theorem dModel_pointAt_62 : decode prog_14_method_7_code 62 = .ok (.iload_n 2, 1) := by decide +kernel
theorem dModel_pointAt_63 : decode prog_14_method_7_code 63 = .ok (.iadd, 1) := by decide +kernel
theorem dModel_pointAt_64 : decode prog_14_method_7_code 64 = .ok (.invokevirtual 81, 3) := by decide +kernel
theorem dModel_pointAt_67 : decode prog_14_method_7_code 67 = .ok (.invokestatic 89, 3) := by decide +kernel
theorem dModel_pointAt_70 : decode prog_14_method_7_code 70 = .ok (.ifCond .eq 7, 3) := by decide +kernel
theorem dModel_pointAt_73 : decode prog_14_method_7_code 73 = .ok (.iconst 0, 1) := by decide +kernel
theorem dModel_pointAt_74 : decode prog_14_method_7_code 74 = .ok (.goto 4, 3) := by decide +kernel
theorem dModel_pointAt_77 : decode prog_14_method_7_code 77 = .ok (.iload_n 2, 1) := by decide +kernel
theorem dModel_pointAt_78 : decode prog_14_method_7_code 78 = .ok (.ireturn, 1) := by decide +kernel
theorem dModel_isSign_0 : decode prog_14_method_8_code 0 = .ok (.iload_n 0, 1) := by decide +kernel
theorem dModel_isSign_1 : decode prog_14_method_8_code 1 = .ok (.bipush 59, 2) := by decide +kernel
theorem dModel_isSign_3 : decode prog_14_method_8_code 3 = .ok (.if_icmp .eq 57, 3) := by decide +kernel
theorem dModel_isSign_6 : decode prog_14_method_8_code 6 = .ok (.iload_n 0, 1) := by decide +kernel
theorem dModel_isSign_7 : decode prog_14_method_8_code 7 = .ok (.bipush 40, 2) := by decide +kernel
theorem dModel_isSign_9 : decode prog_14_method_8_code 9 = .ok (.if_icmp .eq 51, 3) := by decide +kernel
theorem dModel_isSign_12 : decode prog_14_method_8_code 12 = .ok (.iload_n 0, 1) := by decide +kernel
theorem dModel_isSign_13 : decode prog_14_method_8_code 13 = .ok (.bipush 41, 2) := by decide +kernel
theorem dModel_isSign_15 : decode prog_14_method_8_code 15 = .ok (.if_icmp .eq 45, 3) := by decide +kernel
theorem dModel_isSign_18 : decode prog_14_method_8_code 18 = .ok (.iload_n 0, 1) := by decide +kernel
theorem dModel_isSign_19 : decode prog_14_method_8_code 19 = .ok (.bipush 60, 2) := by decide +kernel
theorem dModel_isSign_21 : decode prog_14_method_8_code 21 = .ok (.if_icmp .eq 39, 3) := by decide +kernel
theorem dModel_isSign_24 : decode prog_14_method_8_code 24 = .ok (.iload_n 0, 1) := by decide +kernel
theorem dModel_isSign_25 : decode prog_14_method_8_code 25 = .ok (.bipush 62, 2) := by decide +kernel
theorem dModel_isSign_27 : decode prog_14_method_8_code 27 = .ok (.if_icmp .eq 33, 3) := by decide +kernel
theorem dModel_isSign_30 : decode prog_14_method_8_code 30 = .ok (.iload_n 0, 1) := by decide +kernel
theorem dModel_isSign_31 : decode prog_14_method_8_code 31 = .ok (.bipush 61, 2) := by decide +kernel
theorem dModel_isSign_33 : decode prog_14_method_8_code 33 = .ok (.if_icmp .eq 27, 3) := by decide +kernel
theorem dModel_isSign_36 : decode prog_14_method_8_code 36 = .ok (.iload_n 0, 1) := by decide +kernel
theorem dModel_isSign_37 : decode prog_14_method_8_code 37 = .ok (.bipush 43, 2) := by decide +kernel
theorem dModel_isSign_39 : decode prog_14_method_8_code 39 = .ok (.if_icmp .eq 21, 3) := by decide +kernel
theorem dModel_isSign_42 : decode prog_14_method_8_code 42 = .ok (.iload_n 0, 1) := by decide +kernel
theorem dModel_isSign_43 : decode prog_14_method_8_code 43 = .ok (.bipush 45, 2) := by decide +kernel
theorem dModel_isSign_45 : decode prog_14_method_8_code 45 = .ok (.if_icmp .eq 15, 3) := by decide +kernel
theorem dModel_isSign_48 : decode prog_14_method_8_code 48 = .ok (.iload_n 0, 1) := by decide +kernel
theorem dModel_isSign_49 : decode prog_14_method_8_code 49 = .ok (.bipush 42, 2) := by decide +kernel
theorem dModel_isSign_51 : decode prog_14_method_8_code 51 = .ok (.if_icmp .eq 9, 3) := by decide +kernel
theorem dModel_isSign_54 : decode prog_14_method_8_code 54 = .ok (.iload_n 0, 1) := by decide +kernel
theorem dModel_isSign_55 : decode prog_14_method_8_code 55 = .ok (.bipush 47, 2) := by decide +kernel
theorem dModel_isSign_57 : decode prog_14_method_8_code 57 = .ok (.if_icmp .ne 7, 3) := by decide +kernel
theorem dModel_isSign_60 : decode prog_14_method_8_code 60 = .ok (.iconst 1, 1) := by decide +kernel
theorem dModel_isSign_61 : decode prog_14_method_8_code 61 = .ok (.goto 4, 3) := by decide +kernel
theorem dModel_isSign_64 : decode prog_14_method_8_code 64 = .ok (.iconst 0, 1) := by decide +kernel
theorem dModel_isSign_65 : decode prog_14_method_8_code 65 = .ok (.ireturn, 1) := by decide +kernel
theorem dModel_next_0 : decode prog_14_method_9_code 0 = .ok (.aload_n 0, 1) := by decide +kernel
theorem dModel_next_1 : decode prog_14_method_9_code 1 = .ok (.aload_n 0, 1) := by decide +kernel
theorem dModel_next_2 : decode prog_14_method_9_code 2 = .ok (.getfield 92, 3) := by decide +kernel
theorem dModel_next_5 : decode prog_14_method_9_code 5 = .ok (.putfield 95, 3) := by decide +kernel
theorem dModel_next_8 : decode prog_14_method_9_code 8 = .ok (.aload_n 0, 1) := by decide +kernel
theorem dModel_next_9 : decode prog_14_method_9_code 9 = .ok (.getfield 95, 3) := by decide +kernel
theorem dModel_next_12 : decode prog_14_method_9_code 12 = .ok (.aload_n 0, 1) := by decide +kernel
theorem dModel_next_13 : decode prog_14_method_9_code 13 = .ok (.getfield 1, 3) := by decide +kernel
theorem dModel_next_16 : decode prog_14_method_9_code 16 = .ok (.if_icmp .ge 42, 3) := by decide +kernel
theorem dModel_next_19 : decode prog_14_method_9_code 19 = .ok (.aload_n 0, 1) := by decide +kernel
theorem dModel_next_20 : decode prog_14_method_9_code 20 = .ok (.aload_n 0, 1) := by decide +kernel
theorem dModel_next_21 : decode prog_14_method_9_code 21 = .ok (.getfield 95, 3) := by decide +kernel
theorem dModel_next_24 : decode prog_14_method_9_code 24 = .ok (.invokevirtual 81, 3) := by decide +kernel
theorem dModel_next_27 : decode prog_14_method_9_code 27 = .ok (.bipush 32, 2) := by decide +kernel
theorem dModel_next_29 : decode prog_14_method_9_code 29 = .ok (.if_icmp .eq 16, 3) := by decide +kernel
theorem dModel_next_32 : decode prog_14_method_9_code 32 = .ok (.aload_n 0, 1) := by decide +kernel
theorem dModel_next_33 : decode prog_14_method_9_code 33 = .ok (.aload_n 0, 1) := by decide +kernel
theorem dModel_next_34 : decode prog_14_method_9_code 34 = .ok (.getfield 95, 3) := by decide +kernel
theorem dModel_next_37 : decode prog_14_method_9_code 37 = .ok (.invokevirtual 81, 3) := by decide +kernel
theorem dModel_next_40 : decode prog_14_method_9_code 40 = .ok (.bipush 10, 2) := by decide +kernel
theorem dModel_next_42 : decode prog_14_method_9_code 42 = .ok (.if_icmp .ne 16, 3) := by decide +kernel
theorem dModel_next_45 : decode prog_14_method_9_code 45 = .ok (.aload_n 0, 1) := by decide +kernel
theorem dModel_next_46 : decode prog_14_method_9_code 46 = .ok (.dup, 1) := by decide +kernel
theorem dModel_next_47 : decode prog_14_method_9_code 47 = .ok (.getfield 95, 3) := by decide +kernel
theorem dModel_next_50 : decode prog_14_method_9_code 50 = .ok (.iconst 1, 1) := by decide +kernel
theorem dModel_next_51 : decode prog_14_method_9_code 51 = .ok (.iadd, 1) := by decide +kernel
theorem dModel_next_52 : decode prog_14_method_9_code 52 = .ok (.putfield 95, 3) := by decide +kernel
theorem dModel_next_55 : decode prog_14_method_9_code 55 = .ok (.goto (-47), 3) := by decide +kernel
theorem dModel_next_58 : decode prog_14_method_9_code 58 = .ok (.aload_n 0, 1) := by decide +kernel
theorem dModel_next_59 : decode prog_14_method_9_code 59 = .ok (.aload_n 0, 1) := by decide +kernel
theorem dModel_next_60 : decode prog_14_method_9_code 60 = .ok (.getfield 95, 3) := by decide +kernel
theorem dModel_next_63 : decode prog_14_method_9_code 63 = .ok (.invokevirtual 81, 3) := by decide +kernel
theorem dModel_next_66 : decode prog_14_method_9_code 66 = .ok (.istore_n 1, 1) := by decide +kernel
theorem dModel_next_67 : decode prog_14_method_9_code 67 = .ok (.aload_n 0, 1) := by decide +kernel
theorem dModel_next_68 : decode prog_14_method_9_code 68 = .ok (.aload_n 0, 1) := by decide +kernel
theorem dModel_next_69 : decode prog_14_method_9_code 69 = .ok (.getfield 95, 3) := by decide +kernel
theorem dModel_next_72 : decode prog_14_method_9_code 72 = .ok (.iconst 1, 1) := by decide +kernel
theorem dModel_next_73 : decode prog_14_method_9_code 73 = .ok (.iadd, 1) := by decide +kernel
theorem dModel_next_74 : decode prog_14_method_9_code 74 = .ok (.putfield 92, 3) := by decide +kernel
theorem dModel_next_77 : decode prog_14_method_9_code 77 = .ok (.aload_n 0, 1) := by decide +kernel
theorem dModel_next_78 : decode prog_14_method_9_code 78 = .ok (.getfield 95, 3) := by decide +kernel
theorem dModel_next_81 : decode prog_14_method_9_code 81 = .ok (.aload_n 0, 1) := by decide +kernel
theorem dModel_next_82 : decode prog_14_method_9_code 82 = .ok (.getfield 1, 3) := by decide +kernel
theorem dModel_next_85 : decode prog_14_method_9_code 85 = .ok (.if_icmp .lt 27, 3) := by decide +kernel
theorem dModel_next_88 : decode prog_14_method_9_code 88 = .ok (.aload_n 0, 1) := by decide +kernel
theorem dModel_next_89 : decode prog_14_method_9_code 89 = .ok (.iconst 0, 1) := by decide +kernel
theorem dModel_next_90 : decode prog_14_method_9_code 90 = .ok (.putfield 98, 3) := by decide +kernel
theorem dModel_next_93 : decode prog_14_method_9_code 93 = .ok (.aload_n 0, 1) := by decide +kernel
theorem dModel_next_94 : decode prog_14_method_9_code 94 = .ok (.aload_n 0, 1) := by decide +kernel
theorem dModel_next_95 : decode prog_14_method_9_code 95 = .ok (.getfield 1, 3) := by decide +kernel
theorem dModel_next_98 : decode prog_14_method_9_code 98 = .ok (.putfield 95, 3) := by decide +kernel
theorem dModel_next_101 : decode prog_14_method_9_code 101 = .ok (.aload_n 0, 1) := by decide +kernel
theorem dModel_next_102 : decode prog_14_method_9_code 102 = .ok (.aload_n 0, 1) := by decide +kernel
theorem dModel_next_103 : decode prog_14_method_9_code 103 = .ok (.getfield 1, 3) := by decide +kernel
theorem dModel_next_106 : decode prog_14_method_9_code 106 = .ok (.putfield 92, 3) := by decide +kernel
theorem dModel_next_109 : decode prog_14_method_9_code 109 = .ok (.goto 373, 3) := by decide +kernel
theorem dModel_next_112 : decode prog_14_method_9_code 112 = .ok (.aload_n 0, 1) := by decide +kernel
theorem dModel_next_113 : decode prog_14_method_9_code 113 = .ok (.getfield 101, 3) := by decide +kernel
theorem dModel_next_116 : decode prog_14_method_9_code 116 = .ok (.ifCond .ne 100, 3) := by decide +kernel
theorem dModel_next_119 : decode prog_14_method_9_code 119 = .ok (.iload_n 1, 1) := by decide +kernel
theorem dModel_next_120 : decode prog_14_method_9_code 120 = .ok (.bipush 112, 2) := by decide +kernel
theorem dModel_next_122 : decode prog_14_method_9_code 122 = .ok (.if_icmp .ne 94, 3) := by decide +kernel
theorem dModel_next_125 : decode prog_14_method_9_code 125 = .ok (.aload_n 0, 1) := by decide +kernel
theorem dModel_next_126 : decode prog_14_method_9_code 126 = .ok (.aload_n 0, 1) := by decide +kernel
theorem dModel_next_127 : decode prog_14_method_9_code 127 = .ok (.getfield 95, 3) := by decide +kernel
theorem dModel_next_130 : decode prog_14_method_9_code 130 = .ok (.iconst 1, 1) := by decide +kernel
theorem dModel_next_131 : decode prog_14_method_9_code 131 = .ok (.iadd, 1) := by decide +kernel
theorem dModel_next_132 : decode prog_14_method_9_code 132 = .ok (.invokevirtual 105, 3) := by decide +kernel
theorem dModel_next_135 : decode prog_14_method_9_code 135 = .ok (.ifCond .le 81, 3) := by decide +kernel
theorem dModel_next_138 : decode prog_14_method_9_code 138 = .ok (.aload_n 0, 1) := by decide +kernel
theorem dModel_next_139 : decode prog_14_method_9_code 139 = .ok (.aload_n 0, 1) := by decide +kernel
theorem dModel_next_140 : decode prog_14_method_9_code 140 = .ok (.getfield 95, 3) := by decide +kernel
theorem dModel_next_143 : decode prog_14_method_9_code 143 = .ok (.iconst 1, 1) := by decide +kernel
theorem dModel_next_144 : decode prog_14_method_9_code 144 = .ok (.iadd, 1) := by decide +kernel
theorem dModel_next_145 : decode prog_14_method_9_code 145 = .ok (.invokevirtual 105, 3) := by decide +kernel
theorem dModel_next_148 : decode prog_14_method_9_code 148 = .ok (.istore_n 2, 1) := by decide +kernel
theorem dModel_next_149 : decode prog_14_method_9_code 149 = .ok (.aload_n 0, 1) := by decide +kernel
theorem dModel_next_150 : decode prog_14_method_9_code 150 = .ok (.aload_n 0, 1) := by decide +kernel
theorem dModel_next_151 : decode prog_14_method_9_code 151 = .ok (.aload_n 0, 1) := by decide +kernel
theorem dModel_next_152 : decode prog_14_method_9_code 152 = .ok (.getfield 95, 3) := by decide +kernel
theorem dModel_next_155 : decode prog_14_method_9_code 155 = .ok (.iconst 1, 1) := by decide +kernel
theorem dModel_next_156 : decode prog_14_method_9_code 156 = .ok (.iadd, 1) := by decide +kernel
theorem dModel_next_157 : decode prog_14_method_9_code 157 = .ok (.invokevirtual 81, 3) := by decide +kernel
theorem dModel_next_160 : decode prog_14_method_9_code 160 = .ok (.bipush 48, 2) := by decide +kernel
theorem dModel_next_162 : decode prog_14_method_9_code 162 = .ok (.isub, 1) := by decide +kernel
theorem dModel_next_163 : decode prog_14_method_9_code 163 = .ok (.putfield 108, 3) := by decide +kernel
theorem dModel_next_166 : decode prog_14_method_9_code 166 = .ok (.iload_n 2, 1) := by decide +kernel
theorem dModel_next_167 : decode prog_14_method_9_code 167 = .ok (.iconst 2, 1) := by decide +kernel
theorem dModel_next_168 : decode prog_14_method_9_code 168 = .ok (.if_icmp .ne 28, 3) := by decide +kernel
theorem dModel_next_171 : decode prog_14_method_9_code 171 = .ok (.aload_n 0, 1) := by decide +kernel
theorem dModel_next_172 : decode prog_14_method_9_code 172 = .ok (.bipush 10, 2) := by decide +kernel
theorem dModel_next_174 : decode prog_14_method_9_code 174 = .ok (.aload_n 0, 1) := by decide +kernel
theorem dModel_next_175 : decode prog_14_method_9_code 175 = .ok (.getfield 108, 3) := by decide +kernel
theorem dModel_next_178 : decode prog_14_method_9_code 178 = .ok (.imul, 1) := by decide +kernel
theorem dModel_next_179 : decode prog_14_method_9_code 179 = .ok (.aload_n 0, 1) := by decide +kernel
theorem dModel_next_180 : decode prog_14_method_9_code 180 = .ok (.aload_n 0, 1) := by decide +kernel
theorem dModel_next_181 : decode prog_14_method_9_code 181 = .ok (.getfield 95, 3) := by decide +kernel
theorem dModel_next_184 : decode prog_14_method_9_code 184 = .ok (.iconst 2, 1) := by decide +kernel
theorem dModel_next_185 : decode prog_14_method_9_code 185 = .ok (.iadd, 1) := by decide +kernel
theorem dModel_next_186 : decode prog_14_method_9_code 186 = .ok (.invokevirtual 81, 3) := by decide +kernel
theorem dModel_next_189 : decode prog_14_method_9_code 189 = .ok (.iadd, 1) := by decide +kernel
theorem dModel_next_190 : decode prog_14_method_9_code 190 = .ok (.bipush 48, 2) := by decide +kernel
theorem dModel_next_192 : decode prog_14_method_9_code 192 = .ok (.isub, 1) := by decide +kernel
theorem dModel_next_193 : decode prog_14_method_9_code 193 = .ok (.putfield 108, 3) := by decide +kernel
theorem dModel_next_196 : decode prog_14_method_9_code 196 = .ok (.aload_n 0, 1) := by decide +kernel
theorem dModel_next_197 : decode prog_14_method_9_code 197 = .ok (.aload_n 0, 1) := by decide +kernel
theorem dModel_next_198 : decode prog_14_method_9_code 198 = .ok (.getfield 95, 3) := by decide +kernel
theorem dModel_next_201 : decode prog_14_method_9_code 201 = .ok (.iconst 1, 1) := by decide +kernel
theorem dModel_next_202 : decode prog_14_method_9_code 202 = .ok (.iadd, 1) := by decide +kernel
theorem dModel_next_203 : decode prog_14_method_9_code 203 = .ok (.iload_n 2, 1) := by decide +kernel
theorem dModel_next_204 : decode prog_14_method_9_code 204 = .ok (.iadd, 1) := by decide +kernel
theorem dModel_next_205 : decode prog_14_method_9_code 205 = .ok (.putfield 92, 3) := by decide +kernel
theorem dModel_next_208 : decode prog_14_method_9_code 208 = .ok (.aload_n 0, 1) := by decide +kernel
theorem dModel_next_209 : decode prog_14_method_9_code 209 = .ok (.iconst 5, 1) := by decide +kernel
theorem dModel_next_210 : decode prog_14_method_9_code 210 = .ok (.putfield 98, 3) := by decide +kernel
theorem dModel_next_213 : decode prog_14_method_9_code 213 = .ok (.goto 269, 3) := by decide +kernel
theorem dModel_next_216 : decode prog_14_method_9_code 216 = .ok (.iload_n 1, 1) := by decide +kernel
theorem dModel_next_217 : decode prog_14_method_9_code 217 = .ok (.invokestatic 89, 3) := by decide +kernel
theorem dModel_next_220 : decode prog_14_method_9_code 220 = .ok (.ifCond .eq 123, 3) := by decide +kernel
theorem dModel_next_223 : decode prog_14_method_9_code 223 = .ok (.aload_n 0, 1) := by decide +kernel
theorem dModel_next_224 : decode prog_14_method_9_code 224 = .ok (.aload_n 0, 1) := by decide +kernel
theorem dModel_next_225 : decode prog_14_method_9_code 225 = .ok (.getfield 92, 3) := by decide +kernel
theorem dModel_next_228 : decode prog_14_method_9_code 228 = .ok (.invokevirtual 81, 3) := by decide +kernel
theorem dModel_next_231 : decode prog_14_method_9_code 231 = .ok (.invokestatic 89, 3) := by decide +kernel
theorem dModel_next_234 : decode prog_14_method_9_code 234 = .ok (.ifCond .eq 16, 3) := by decide +kernel
theorem dModel_next_237 : decode prog_14_method_9_code 237 = .ok (.aload_n 0, 1) := by decide +kernel
theorem dModel_next_238 : decode prog_14_method_9_code 238 = .ok (.dup, 1) := by decide +kernel
theorem dModel_next_239 : decode prog_14_method_9_code 239 = .ok (.getfield 92, 3) := by decide +kernel
theorem dModel_next_242 : decode prog_14_method_9_code 242 = .ok (.iconst 1, 1) := by decide +kernel
theorem dModel_next_243 : decode prog_14_method_9_code 243 = .ok (.iadd, 1) := by decide +kernel
theorem dModel_next_244 : decode prog_14_method_9_code 244 = .ok (.putfield 92, 3) := by decide +kernel
theorem dModel_next_247 : decode prog_14_method_9_code 247 = .ok (.goto (-24), 3) := by decide +kernel
theorem dModel_next_250 : decode prog_14_method_9_code 250 = .ok (.aload_n 0, 1) := by decide +kernel
theorem dModel_next_251 : decode prog_14_method_9_code 251 = .ok (.lconst 0, 1) := by decide +kernel
theorem dModel_next_252 : decode prog_14_method_9_code 252 = .ok (.putfield 111, 3) := by decide +kernel
theorem dModel_next_255 : decode prog_14_method_9_code 255 = .ok (.aload_n 0, 1) := by decide +kernel
theorem dModel_next_256 : decode prog_14_method_9_code 256 = .ok (.getfield 95, 3) := by decide +kernel
theorem dModel_next_259 : decode prog_14_method_9_code 259 = .ok (.istore_n 2, 1) := by decide +kernel
theorem dModel_next_260 : decode prog_14_method_9_code 260 = .ok (.iload_n 2, 1) := by decide +kernel
theorem dModel_next_261 : decode prog_14_method_9_code 261 = .ok (.aload_n 0, 1) := by decide +kernel
theorem dModel_next_262 : decode prog_14_method_9_code 262 = .ok (.getfield 92, 3) := by decide +kernel
theorem dModel_next_265 : decode prog_14_method_9_code 265 = .ok (.if_icmp .ge 38, 3) := by decide +kernel
theorem dModel_next_268 : decode prog_14_method_9_code 268 = .ok (.iload_n 2, 1) := by decide +kernel
theorem dModel_next_269 : decode prog_14_method_9_code 269 = .ok (.aload_n 0, 1) := by decide +kernel
theorem dModel_next_270 : decode prog_14_method_9_code 270 = .ok (.getfield 95, 3) := by decide +kernel
theorem dModel_next_273 : decode prog_14_method_9_code 273 = .ok (.bipush 8, 2) := by decide +kernel
theorem dModel_next_275 : decode prog_14_method_9_code 275 = .ok (.iadd, 1) := by decide +kernel
theorem dModel_next_276 : decode prog_14_method_9_code 276 = .ok (.if_icmp .ge 27, 3) := by decide +kernel
theorem dModel_next_279 : decode prog_14_method_9_code 279 = .ok (.aload_n 0, 1) := by decide +kernel
theorem dModel_next_280 : decode prog_14_method_9_code 280 = .ok (.aload_n 0, 1) := by decide +kernel
theorem dModel_next_281 : decode prog_14_method_9_code 281 = .ok (.getfield 111, 3) := by decide +kernel
theorem dModel_next_284 : decode prog_14_method_9_code 284 = .ok (.bipush 8, 2) := by decide +kernel
theorem dModel_next_286 : decode prog_14_method_9_code 286 = .ok (.lshl, 1) := by decide +kernel
theorem dModel_next_287 : decode prog_14_method_9_code 287 = .ok (.aload_n 0, 1) := by decide +kernel
theorem dModel_next_288 : decode prog_14_method_9_code 288 = .ok (.iload_n 2, 1) := by decide +kernel
theorem dModel_next_289 : decode prog_14_method_9_code 289 = .ok (.invokevirtual 81, 3) := by decide +kernel
theorem dModel_next_292 : decode prog_14_method_9_code 292 = .ok (.i2l, 1) := by decide +kernel
theorem dModel_next_293 : decode prog_14_method_9_code 293 = .ok (.lor, 1) := by decide +kernel
theorem dModel_next_294 : decode prog_14_method_9_code 294 = .ok (.putfield 111, 3) := by decide +kernel
theorem dModel_next_297 : decode prog_14_method_9_code 297 = .ok (.iinc 2 1, 3) := by decide +kernel
theorem dModel_next_300 : decode prog_14_method_9_code 300 = .ok (.goto (-40), 3) := by decide +kernel
theorem dModel_next_303 : decode prog_14_method_9_code 303 = .ok (.aload_n 0, 1) := by decide +kernel
theorem dModel_next_304 : decode prog_14_method_9_code 304 = .ok (.aload_n 0, 1) := by decide +kernel
theorem dModel_next_305 : decode prog_14_method_9_code 305 = .ok (.getfield 92, 3) := by decide +kernel
theorem dModel_next_308 : decode prog_14_method_9_code 308 = .ok (.aload_n 0, 1) := by decide +kernel
theorem dModel_next_309 : decode prog_14_method_9_code 309 = .ok (.getfield 95, 3) := by decide +kernel
theorem dModel_next_312 : decode prog_14_method_9_code 312 = .ok (.isub, 1) := by decide +kernel
theorem dModel_next_313 : decode prog_14_method_9_code 313 = .ok (.bipush 8, 2) := by decide +kernel
theorem dModel_next_315 : decode prog_14_method_9_code 315 = .ok (.if_icmp .le 7, 3) := by decide +kernel
theorem dModel_next_318 : decode prog_14_method_9_code 318 = .ok (.iconst 1, 1) := by decide +kernel
theorem dModel_next_319 : decode prog_14_method_9_code 319 = .ok (.goto 18, 3) := by decide +kernel
theorem dModel_next_322 : decode prog_14_method_9_code 322 = .ok (.aload_n 0, 1) := by decide +kernel
theorem dModel_next_323 : decode prog_14_method_9_code 323 = .ok (.getfield 111, 3) := by decide +kernel
theorem dModel_next_326 : decode prog_14_method_9_code 326 = .ok (.invokestatic 115, 3) := by decide +kernel
theorem dModel_next_329 : decode prog_14_method_9_code 329 = .ok (.ifCond .eq 7, 3) := by decide +kernel
theorem dModel_next_332 : decode prog_14_method_9_code 332 = .ok (.iconst 3, 1) := by decide +kernel
theorem dModel_next_333 : decode prog_14_method_9_code 333 = .ok (.goto 4, 3) := by decide +kernel
theorem dModel_next_336 : decode prog_14_method_9_code 336 = .ok (.iconst 2, 1) := by decide +kernel
theorem dModel_next_337 : decode prog_14_method_9_code 337 = .ok (.putfield 98, 3) := by decide +kernel
theorem dModel_next_340 : decode prog_14_method_9_code 340 = .ok (.goto 142, 3) := by decide +kernel
theorem dModel_next_343 : decode prog_14_method_9_code 343 = .ok (.iload_n 1, 1) := by decide +kernel
theorem dModel_next_344 : decode prog_14_method_9_code 344 = .ok (.invokestatic 85, 3) := by decide +kernel
theorem dModel_next_347 : decode prog_14_method_9_code 347 = .ok (.ifCond .eq 118, 3) := by decide +kernel
theorem dModel_next_350 : decode prog_14_method_9_code 350 = .ok (.aload_n 0, 1) := by decide +kernel
theorem dModel_next_351 : decode prog_14_method_9_code 351 = .ok (.iconst 0, 1) := by decide +kernel
theorem dModel_next_352 : decode prog_14_method_9_code 352 = .ok (.putfield 108, 3) := by decide +kernel
theorem dModel_next_355 : decode prog_14_method_9_code 355 = .ok (.aload_n 0, 1) := by decide +kernel
theorem dModel_next_356 : decode prog_14_method_9_code 356 = .ok (.aload_n 0, 1) := by decide +kernel
theorem dModel_next_357 : decode prog_14_method_9_code 357 = .ok (.getfield 95, 3) := by decide +kernel
theorem dModel_next_360 : decode prog_14_method_9_code 360 = .ok (.putfield 92, 3) := by decide +kernel
theorem dModel_next_363 : decode prog_14_method_9_code 363 = .ok (.aload_n 0, 1) := by decide +kernel
theorem dModel_next_364 : decode prog_14_method_9_code 364 = .ok (.aload_n 0, 1) := by decide +kernel
theorem dModel_next_365 : decode prog_14_method_9_code 365 = .ok (.getfield 92, 3) := by decide +kernel
theorem dModel_next_368 : decode prog_14_method_9_code 368 = .ok (.invokevirtual 81, 3) := by decide +kernel
theorem dModel_next_371 : decode prog_14_method_9_code 371 = .ok (.invokestatic 85, 3) := by decide +kernel
theorem dModel_next_374 : decode prog_14_method_9_code 374 = .ok (.ifCond .eq 52, 3) := by decide +kernel
theorem dModel_next_377 : decode prog_14_method_9_code 377 = .ok (.aload_n 0, 1) := by decide +kernel
theorem dModel_next_378 : decode prog_14_method_9_code 378 = .ok (.getfield 92, 3) := by decide +kernel
theorem dModel_next_381 : decode prog_14_method_9_code 381 = .ok (.aload_n 0, 1) := by decide +kernel
theorem dModel_next_382 : decode prog_14_method_9_code 382 = .ok (.getfield 95, 3) := by decide +kernel
theorem dModel_next_385 : decode prog_14_method_9_code 385 = .ok (.isub, 1) := by decide +kernel
theorem dModel_next_386 : decode prog_14_method_9_code 386 = .ok (.iconst 4, 1) := by decide +kernel
theorem dModel_next_387 : decode prog_14_method_9_code 387 = .ok (.if_icmp .ge 26, 3) := by decide +kernel
theorem dModel_next_390 : decode prog_14_method_9_code 390 = .ok (.aload_n 0, 1) := by decide +kernel
theorem dModel_next_391 : decode prog_14_method_9_code 391 = .ok (.bipush 10, 2) := by decide +kernel
theorem dModel_next_393 : decode prog_14_method_9_code 393 = .ok (.aload_n 0, 1) := by decide +kernel
theorem dModel_next_394 : decode prog_14_method_9_code 394 = .ok (.getfield 108, 3) := by decide +kernel
theorem dModel_next_397 : decode prog_14_method_9_code 397 = .ok (.imul, 1) := by decide +kernel
theorem dModel_next_398 : decode prog_14_method_9_code 398 = .ok (.aload_n 0, 1) := by decide +kernel
theorem dModel_next_399 : decode prog_14_method_9_code 399 = .ok (.aload_n 0, 1) := by decide +kernel
theorem dModel_next_400 : decode prog_14_method_9_code 400 = .ok (.getfield 92, 3) := by decide +kernel
theorem dModel_next_403 : decode prog_14_method_9_code 403 = .ok (.invokevirtual 81, 3) := by decide +kernel
theorem dModel_next_406 : decode prog_14_method_9_code 406 = .ok (.iadd, 1) := by decide +kernel
theorem dModel_next_407 : decode prog_14_method_9_code 407 = .ok (.bipush 48, 2) := by decide +kernel
theorem dModel_next_409 : decode prog_14_method_9_code 409 = .ok (.isub, 1) := by decide +kernel
theorem dModel_next_410 : decode prog_14_method_9_code 410 = .ok (.putfield 108, 3) := by decide +kernel
theorem dModel_next_413 : decode prog_14_method_9_code 413 = .ok (.aload_n 0, 1) := by decide +kernel
theorem dModel_next_414 : decode prog_14_method_9_code 414 = .ok (.dup, 1) := by decide +kernel
theorem dModel_next_415 : decode prog_14_method_9_code 415 = .ok (.getfield 92, 3) := by decide +kernel
theorem dModel_next_418 : decode prog_14_method_9_code 418 = .ok (.iconst 1, 1) := by decide +kernel
theorem dModel_next_419 : decode prog_14_method_9_code 419 = .ok (.iadd, 1) := by decide +kernel
theorem dModel_next_420 : decode prog_14_method_9_code 420 = .ok (.putfield 92, 3) := by decide +kernel
theorem dModel_next_423 : decode prog_14_method_9_code 423 = .ok (.goto (-60), 3) := by decide +kernel
theorem dModel_next_426 : decode prog_14_method_9_code 426 = .ok (.aload_n 0, 1) := by decide +kernel
theorem dModel_next_427 : decode prog_14_method_9_code 427 = .ok (.aload_n 0, 1) := by decide +kernel
theorem dModel_next_428 : decode prog_14_method_9_code 428 = .ok (.getfield 92, 3) := by decide +kernel
theorem dModel_next_431 : decode prog_14_method_9_code 431 = .ok (.aload_n 0, 1) := by decide +kernel
theorem dModel_next_432 : decode prog_14_method_9_code 432 = .ok (.getfield 95, 3) := by decide +kernel
theorem dModel_next_435 : decode prog_14_method_9_code 435 = .ok (.isub, 1) := by decide +kernel
theorem dModel_next_436 : decode prog_14_method_9_code 436 = .ok (.iconst 4, 1) := by decide +kernel
theorem dModel_next_437 : decode prog_14_method_9_code 437 = .ok (.if_icmp .gt 17, 3) := by decide +kernel
theorem dModel_next_440 : decode prog_14_method_9_code 440 = .ok (.aload_n 0, 1) := by decide +kernel
theorem dModel_next_441 : decode prog_14_method_9_code 441 = .ok (.aload_n 0, 1) := by decide +kernel
theorem dModel_next_442 : decode prog_14_method_9_code 442 = .ok (.getfield 92, 3) := by decide +kernel
theorem dModel_next_445 : decode prog_14_method_9_code 445 = .ok (.invokevirtual 81, 3) := by decide +kernel
theorem dModel_next_448 : decode prog_14_method_9_code 448 = .ok (.invokestatic 89, 3) := by decide +kernel
theorem dModel_next_451 : decode prog_14_method_9_code 451 = .ok (.ifCond .eq 7, 3) := by decide +kernel
theorem dModel_next_454 : decode prog_14_method_9_code 454 = .ok (.iconst 1, 1) := by decide +kernel
theorem dModel_next_455 : decode prog_14_method_9_code 455 = .ok (.goto 4, 3) := by decide +kernel
theorem dModel_next_458 : decode prog_14_method_9_code 458 = .ok (.iconst 4, 1) := by decide +kernel
theorem dModel_next_459 : decode prog_14_method_9_code 459 = .ok (.putfield 98, 3) := by decide +kernel
theorem dModel_next_462 : decode prog_14_method_9_code 462 = .ok (.goto 20, 3) := by decide +kernel
theorem dModel_next_465 : decode prog_14_method_9_code 465 = .ok (.aload_n 0, 1) := by decide +kernel
theorem dModel_next_466 : decode prog_14_method_9_code 466 = .ok (.iload_n 1, 1) := by decide +kernel
theorem dModel_next_467 : decode prog_14_method_9_code 467 = .ok (.invokestatic 119, 3) := by decide +kernel
theorem dModel_next_470 : decode prog_14_method_9_code 470 = .ok (.ifCond .eq 8, 3) := by decide +kernel
theorem dModel_next_473 : decode prog_14_method_9_code 473 = .ok (.bipush 6, 2) := by decide +kernel
theorem dModel_next_475 : decode prog_14_method_9_code 475 = .ok (.goto 4, 3) := by decide +kernel
theorem dModel_next_478 : decode prog_14_method_9_code 478 = .ok (.iconst 1, 1) := by decide +kernel
theorem dModel_next_479 : decode prog_14_method_9_code 479 = .ok (.putfield 98, 3) := by decide +kernel
theorem dModel_next_482 : decode prog_14_method_9_code 482 = .ok (.return_, 1) := by decide +kernel
theorem dModel_is_0 : decode prog_14_method_10_code 0 = .ok (.aload_n 0, 1) := by decide +kernel
theorem dModel_is_1 : decode prog_14_method_10_code 1 = .ok (.getfield 98, 3) := by decide +kernel
theorem dModel_is_4 : decode prog_14_method_10_code 4 = .ok (.bipush 6, 2) := by decide +kernel
theorem dModel_is_6 : decode prog_14_method_10_code 6 = .ok (.if_icmp .ne 19, 3) := by decide +kernel
theorem dModel_is_9 : decode prog_14_method_10_code 9 = .ok (.aload_n 0, 1) := by decide +kernel
theorem dModel_is_10 : decode prog_14_method_10_code 10 = .ok (.aload_n 0, 1) := by decide +kernel
theorem dModel_is_11 : decode prog_14_method_10_code 11 = .ok (.getfield 95, 3) := by decide +kernel
theorem dModel_is_14 : decode prog_14_method_10_code 14 = .ok (.invokevirtual 81, 3) := by decide +kernel
theorem dModel_is_17 : decode prog_14_method_10_code 17 = .ok (.iload_n 1, 1) := by decide +kernel
theorem dModel_is_18 : decode prog_14_method_10_code 18 = .ok (.if_icmp .ne 7, 3) := by decide +kernel
theorem dModel_is_21 : decode prog_14_method_10_code 21 = .ok (.iconst 1, 1) := by decide +kernel
theorem dModel_is_22 : decode prog_14_method_10_code 22 = .ok (.goto 4, 3) := by decide +kernel
theorem dModel_is_25 : decode prog_14_method_10_code 25 = .ok (.iconst 0, 1) := by decide +kernel
theorem dModel_is_26 : decode prog_14_method_10_code 26 = .ok (.ireturn, 1) := by decide +kernel
theorem dModel_isWord_0 : decode prog_14_method_11_code 0 = .ok (.aload_n 0, 1) := by decide +kernel
theorem dModel_isWord_1 : decode prog_14_method_11_code 1 = .ok (.getfield 98, 3) := by decide +kernel
theorem dModel_isWord_4 : decode prog_14_method_11_code 4 = .ok (.iconst 3, 1) := by decide +kernel
theorem dModel_isWord_5 : decode prog_14_method_11_code 5 = .ok (.if_icmp .ne 16, 3) := by decide +kernel
theorem dModel_isWord_8 : decode prog_14_method_11_code 8 = .ok (.aload_n 0, 1) := by decide +kernel
theorem dModel_isWord_9 : decode prog_14_method_11_code 9 = .ok (.getfield 111, 3) := by decide +kernel
theorem dModel_isWord_12 : decode prog_14_method_11_code 12 = .ok (.lload_n 1, 1) := by decide +kernel
theorem dModel_isWord_13 : decode prog_14_method_11_code 13 = .ok (.lcmp, 1) := by decide +kernel
theorem dModel_isWord_14 : decode prog_14_method_11_code 14 = .ok (.ifCond .ne 7, 3) := by decide +kernel
theorem dModel_isWord_17 : decode prog_14_method_11_code 17 = .ok (.iconst 1, 1) := by decide +kernel
theorem dModel_isWord_18 : decode prog_14_method_11_code 18 = .ok (.goto 4, 3) := by decide +kernel
theorem dModel_isWord_21 : decode prog_14_method_11_code 21 = .ok (.iconst 0, 1) := by decide +kernel
theorem dModel_isWord_22 : decode prog_14_method_11_code 22 = .ok (.ireturn, 1) := by decide +kernel
theorem dModel_wrong_0 : decode prog_14_method_12_code 0 = .ok (.aload_n 0, 1) := by decide +kernel
theorem dModel_wrong_1 : decode prog_14_method_12_code 1 = .ok (.aload_n 0, 1) := by decide +kernel
theorem dModel_wrong_2 : decode prog_14_method_12_code 2 = .ok (.getfield 98, 3) := by decide +kernel
theorem dModel_wrong_5 : decode prog_14_method_12_code 5 = .ok (.iconst 1, 1) := by decide +kernel
theorem dModel_wrong_6 : decode prog_14_method_12_code 6 = .ok (.if_icmp .ne 7, 3) := by decide +kernel
theorem dModel_wrong_9 : decode prog_14_method_12_code 9 = .ok (.iconst 1, 1) := by decide +kernel
theorem dModel_wrong_10 : decode prog_14_method_12_code 10 = .ok (.goto 4, 3) := by decide +kernel
theorem dModel_wrong_13 : decode prog_14_method_12_code 13 = .ok (.iconst 2, 1) := by decide +kernel
theorem dModel_wrong_14 : decode prog_14_method_12_code 14 = .ok (.aload_n 0, 1) := by decide +kernel
theorem dModel_wrong_15 : decode prog_14_method_12_code 15 = .ok (.getfield 95, 3) := by decide +kernel
theorem dModel_wrong_18 : decode prog_14_method_12_code 18 = .ok (.invokevirtual 122, 3) := by decide +kernel
theorem dModel_wrong_21 : decode prog_14_method_12_code 21 = .ok (.return_, 1) := by decide +kernel
theorem dModel_must_0 : decode prog_14_method_13_code 0 = .ok (.aload_n 0, 1) := by decide +kernel
theorem dModel_must_1 : decode prog_14_method_13_code 1 = .ok (.invokevirtual 126, 3) := by decide +kernel
theorem dModel_must_4 : decode prog_14_method_13_code 4 = .ok (.ifCond .ne 4, 3) := by decide +kernel
theorem dModel_must_7 : decode prog_14_method_13_code 7 = .ok (.return_, 1) := by decide +kernel
theorem dModel_must_8 : decode prog_14_method_13_code 8 = .ok (.iload_n 1, 1) := by decide +kernel
theorem dModel_must_9 : decode prog_14_method_13_code 9 = .ok (.ifCond .eq 10, 3) := by decide +kernel
theorem dModel_must_12 : decode prog_14_method_13_code 12 = .ok (.aload_n 0, 1) := by decide +kernel
theorem dModel_must_13 : decode prog_14_method_13_code 13 = .ok (.invokevirtual 130, 3) := by decide +kernel
theorem dModel_must_16 : decode prog_14_method_13_code 16 = .ok (.goto 7, 3) := by decide +kernel
theorem dModel_must_19 : decode prog_14_method_13_code 19 = .ok (.aload_n 0, 1) := by decide +kernel
theorem dModel_must_20 : decode prog_14_method_13_code 20 = .ok (.invokevirtual 134, 3) := by decide +kernel
theorem dModel_must_23 : decode prog_14_method_13_code 23 = .ok (.return_, 1) := by decide +kernel
theorem dModel_numeral_0 : decode prog_14_method_14_code 0 = .ok (.aload_n 0, 1) := by decide +kernel
theorem dModel_numeral_1 : decode prog_14_method_14_code 1 = .ok (.invokevirtual 126, 3) := by decide +kernel
theorem dModel_numeral_4 : decode prog_14_method_14_code 4 = .ok (.ifCond .ne 5, 3) := by decide +kernel
theorem dModel_numeral_7 : decode prog_14_method_14_code 7 = .ok (.iload_n 1, 1) := by decide +kernel
theorem dModel_numeral_8 : decode prog_14_method_14_code 8 = .ok (.ireturn, 1) := by decide +kernel
theorem dModel_numeral_9 : decode prog_14_method_14_code 9 = .ok (.aload_n 0, 1) := by decide +kernel
theorem dModel_numeral_10 : decode prog_14_method_14_code 10 = .ok (.getfield 98, 3) := by decide +kernel
theorem dModel_numeral_13 : decode prog_14_method_14_code 13 = .ok (.iconst 4, 1) := by decide +kernel
theorem dModel_numeral_14 : decode prog_14_method_14_code 14 = .ok (.if_icmp .eq 7, 3) := by decide +kernel
theorem dModel_numeral_17 : decode prog_14_method_14_code 17 = .ok (.aload_n 0, 1) := by decide +kernel
theorem dModel_numeral_18 : decode prog_14_method_14_code 18 = .ok (.invokevirtual 134, 3) := by decide +kernel
theorem dModel_numeral_21 : decode prog_14_method_14_code 21 = .ok (.aload_n 0, 1) := by decide +kernel
theorem dModel_numeral_22 : decode prog_14_method_14_code 22 = .ok (.invokevirtual 126, 3) := by decide +kernel
theorem dModel_numeral_25 : decode prog_14_method_14_code 25 = .ok (.ifCond .eq 28, 3) := by decide +kernel
theorem dModel_numeral_28 : decode prog_14_method_14_code 28 = .ok (.aload_n 0, 1) := by decide +kernel
theorem dModel_numeral_29 : decode prog_14_method_14_code 29 = .ok (.getfield 108, 3) := by decide +kernel
theorem dModel_numeral_32 : decode prog_14_method_14_code 32 = .ok (.iload_n 1, 1) := by decide +kernel
theorem dModel_numeral_33 : decode prog_14_method_14_code 33 = .ok (.if_icmp .lt 11, 3) := by decide +kernel
theorem dModel_numeral_36 : decode prog_14_method_14_code 36 = .ok (.aload_n 0, 1) := by decide +kernel
theorem dModel_numeral_37 : decode prog_14_method_14_code 37 = .ok (.getfield 108, 3) := by decide +kernel
theorem dModel_numeral_40 : decode prog_14_method_14_code 40 = .ok (.iload_n 2, 1) := by decide +kernel
theorem dModel_numeral_41 : decode prog_14_method_14_code 41 = .ok (.if_icmp .le 12, 3) := by decide +kernel
theorem dModel_numeral_44 : decode prog_14_method_14_code 44 = .ok (.aload_n 0, 1) := by decide +kernel
theorem dModel_numeral_45 : decode prog_14_method_14_code 45 = .ok (.iconst 4, 1) := by decide +kernel
theorem dModel_numeral_46 : decode prog_14_method_14_code 46 = .ok (.aload_n 0, 1) := by decide +kernel
theorem dModel_numeral_47 : decode prog_14_method_14_code 47 = .ok (.getfield 95, 3) := by decide +kernel
theorem dModel_numeral_50 : decode prog_14_method_14_code 50 = .ok (.invokevirtual 122, 3) := by decide +kernel
theorem dModel_numeral_53 : decode prog_14_method_14_code 53 = .ok (.aload_n 0, 1) := by decide +kernel
theorem dModel_numeral_54 : decode prog_14_method_14_code 54 = .ok (.getfield 108, 3) := by decide +kernel
theorem dModel_numeral_57 : decode prog_14_method_14_code 57 = .ok (.istore_n 3, 1) := by decide +kernel
theorem dModel_numeral_58 : decode prog_14_method_14_code 58 = .ok (.aload_n 0, 1) := by decide +kernel
theorem dModel_numeral_59 : decode prog_14_method_14_code 59 = .ok (.invokevirtual 126, 3) := by decide +kernel
theorem dModel_numeral_62 : decode prog_14_method_14_code 62 = .ok (.ifCond .eq 7, 3) := by decide +kernel
theorem dModel_numeral_65 : decode prog_14_method_14_code 65 = .ok (.aload_n 0, 1) := by decide +kernel
theorem dModel_numeral_66 : decode prog_14_method_14_code 66 = .ok (.invokevirtual 130, 3) := by decide +kernel
theorem dModel_numeral_69 : decode prog_14_method_14_code 69 = .ok (.aload_n 0, 1) := by decide +kernel
theorem dModel_numeral_70 : decode prog_14_method_14_code 70 = .ok (.invokevirtual 126, 3) := by decide +kernel
theorem dModel_numeral_73 : decode prog_14_method_14_code 73 = .ok (.ifCond .eq 7, 3) := by decide +kernel
theorem dModel_numeral_76 : decode prog_14_method_14_code 76 = .ok (.iload_n 3, 1) := by decide +kernel
theorem dModel_numeral_77 : decode prog_14_method_14_code 77 = .ok (.goto 4, 3) := by decide +kernel
theorem dModel_numeral_80 : decode prog_14_method_14_code 80 = .ok (.iload_n 1, 1) := by decide +kernel
theorem dModel_numeral_81 : decode prog_14_method_14_code 81 = .ok (.ireturn, 1) := by decide +kernel
theorem dModel_takeTape_0 : decode prog_14_method_15_code 0 = .ok (.aload_n 0, 1) := by decide +kernel
theorem dModel_takeTape_1 : decode prog_14_method_15_code 1 = .ok (.iload_n 1, 1) := by decide +kernel
theorem dModel_takeTape_2 : decode prog_14_method_15_code 2 = .ok (.putfield 101, 3) := by decide +kernel
theorem dModel_takeTape_5 : decode prog_14_method_15_code 5 = .ok (.aload_n 0, 1) := by decide +kernel
theorem dModel_takeTape_6 : decode prog_14_method_15_code 6 = .ok (.iconst 0, 1) := by decide +kernel
theorem dModel_takeTape_7 : decode prog_14_method_15_code 7 = .ok (.putfield 11, 3) := by decide +kernel
theorem dModel_takeTape_10 : decode prog_14_method_15_code 10 = .ok (.aload_n 0, 1) := by decide +kernel
theorem dModel_takeTape_11 : decode prog_14_method_15_code 11 = .ok (.iconst (-1), 1) := by decide +kernel
theorem dModel_takeTape_12 : decode prog_14_method_15_code 12 = .ok (.putfield 14, 3) := by decide +kernel
theorem dModel_takeTape_15 : decode prog_14_method_15_code 15 = .ok (.aload_n 0, 1) := by decide +kernel
theorem dModel_takeTape_16 : decode prog_14_method_15_code 16 = .ok (.aload_n 0, 1) := by decide +kernel
theorem dModel_takeTape_17 : decode prog_14_method_15_code 17 = .ok (.getfield 137, 3) := by decide +kernel
theorem dModel_takeTape_20 : decode prog_14_method_15_code 20 = .ok (.putfield 1, 3) := by decide +kernel
theorem dModel_takeTape_23 : decode prog_14_method_15_code 23 = .ok (.iconst 0, 1) := by decide +kernel
theorem dModel_takeTape_24 : decode prog_14_method_15_code 24 = .ok (.istore_n 2, 1) := by decide +kernel
theorem dModel_takeTape_25 : decode prog_14_method_15_code 25 = .ok (.iload_n 2, 1) := by decide +kernel
theorem dModel_takeTape_26 : decode prog_14_method_15_code 26 = .ok (.aload_n 0, 1) := by decide +kernel
theorem dModel_takeTape_27 : decode prog_14_method_15_code 27 = .ok (.getfield 1, 3) := by decide +kernel
theorem dModel_takeTape_30 : decode prog_14_method_15_code 30 = .ok (.if_icmp .ge 21, 3) := by decide +kernel
theorem dModel_takeTape_33 : decode prog_14_method_15_code 33 = .ok (.aload_n 0, 1) := by decide +kernel
theorem dModel_takeTape_34 : decode prog_14_method_15_code 34 = .ok (.getfield 7, 3) := by decide +kernel
theorem dModel_takeTape_37 : decode prog_14_method_15_code 37 = .ok (.iload_n 2, 1) := by decide +kernel
theorem dModel_takeTape_38 : decode prog_14_method_15_code 38 = .ok (.aload_n 0, 1) := by decide +kernel
theorem dModel_takeTape_39 : decode prog_14_method_15_code 39 = .ok (.getfield 140, 3) := by decide +kernel
theorem dModel_takeTape_42 : decode prog_14_method_15_code 42 = .ok (.iload_n 2, 1) := by decide +kernel
theorem dModel_takeTape_43 : decode prog_14_method_15_code 43 = .ok (.baload, 1) := by decide +kernel
theorem dModel_takeTape_44 : decode prog_14_method_15_code 44 = .ok (.bastore, 1) := by decide +kernel
theorem dModel_takeTape_45 : decode prog_14_method_15_code 45 = .ok (.iinc 2 1, 3) := by decide +kernel
theorem dModel_takeTape_48 : decode prog_14_method_15_code 48 = .ok (.goto (-23), 3) := by decide +kernel
theorem dModel_takeTape_51 : decode prog_14_method_15_code 51 = .ok (.aload_n 0, 1) := by decide +kernel
theorem dModel_takeTape_52 : decode prog_14_method_15_code 52 = .ok (.iconst 0, 1) := by decide +kernel
theorem dModel_takeTape_53 : decode prog_14_method_15_code 53 = .ok (.putfield 137, 3) := by decide +kernel
theorem dModel_takeTape_56 : decode prog_14_method_15_code 56 = .ok (.aload_n 0, 1) := by decide +kernel
theorem dModel_takeTape_57 : decode prog_14_method_15_code 57 = .ok (.iconst 0, 1) := by decide +kernel
theorem dModel_takeTape_58 : decode prog_14_method_15_code 58 = .ok (.putfield 92, 3) := by decide +kernel
theorem dModel_takeTape_61 : decode prog_14_method_15_code 61 = .ok (.return_, 1) := by decide +kernel
theorem dModel_land_0 : decode prog_14_method_16_code 0 = .ok (.aload_n 0, 1) := by decide +kernel
theorem dModel_land_1 : decode prog_14_method_16_code 1 = .ok (.iconst 0, 1) := by decide +kernel
theorem dModel_land_2 : decode prog_14_method_16_code 2 = .ok (.invokevirtual 143, 3) := by decide +kernel
theorem dModel_land_5 : decode prog_14_method_16_code 5 = .ok (.aload_n 0, 1) := by decide +kernel
theorem dModel_land_6 : decode prog_14_method_16_code 6 = .ok (.iconst 1, 1) := by decide +kernel
theorem dModel_land_7 : decode prog_14_method_16_code 7 = .ok (.aload_n 0, 1) := by decide +kernel
theorem dModel_land_8 : decode prog_14_method_16_code 8 = .ok (.getfield 147, 3) := by decide +kernel
theorem dModel_land_11 : decode prog_14_method_16_code 11 = .ok (.isub, 1) := by decide +kernel
theorem dModel_land_12 : decode prog_14_method_16_code 12 = .ok (.putfield 150, 3) := by decide +kernel
theorem dModel_land_15 : decode prog_14_method_16_code 15 = .ok (.aload_n 0, 1) := by decide +kernel
theorem dModel_land_16 : decode prog_14_method_16_code 16 = .ok (.getfield 153, 3) := by decide +kernel
theorem dModel_land_19 : decode prog_14_method_16_code 19 = .ok (.aload_n 0, 1) := by decide +kernel
theorem dModel_land_20 : decode prog_14_method_16_code 20 = .ok (.getfield 150, 3) := by decide +kernel
theorem dModel_land_23 : decode prog_14_method_16_code 23 = .ok (.iconst 0, 1) := by decide +kernel
theorem dModel_land_24 : decode prog_14_method_16_code 24 = .ok (.iastore, 1) := by decide +kernel
theorem dModel_land_25 : decode prog_14_method_16_code 25 = .ok (.aload_n 0, 1) := by decide +kernel
theorem dModel_land_26 : decode prog_14_method_16_code 26 = .ok (.getfield 157, 3) := by decide +kernel
theorem dModel_land_29 : decode prog_14_method_16_code 29 = .ok (.aload_n 0, 1) := by decide +kernel
theorem dModel_land_30 : decode prog_14_method_16_code 30 = .ok (.getfield 150, 3) := by decide +kernel
theorem dModel_land_33 : decode prog_14_method_16_code 33 = .ok (.iconst 0, 1) := by decide +kernel
theorem dModel_land_34 : decode prog_14_method_16_code 34 = .ok (.iastore, 1) := by decide +kernel
theorem dModel_land_35 : decode prog_14_method_16_code 35 = .ok (.aload_n 0, 1) := by decide +kernel
theorem dModel_land_36 : decode prog_14_method_16_code 36 = .ok (.getfield 160, 3) := by decide +kernel
theorem dModel_land_39 : decode prog_14_method_16_code 39 = .ok (.aload_n 0, 1) := by decide +kernel
theorem dModel_land_40 : decode prog_14_method_16_code 40 = .ok (.getfield 150, 3) := by decide +kernel
theorem dModel_land_43 : decode prog_14_method_16_code 43 = .ok (.iconst 0, 1) := by decide +kernel
theorem dModel_land_44 : decode prog_14_method_16_code 44 = .ok (.iastore, 1) := by decide +kernel
theorem dModel_land_45 : decode prog_14_method_16_code 45 = .ok (.aload_n 0, 1) := by decide +kernel
theorem dModel_land_46 : decode prog_14_method_16_code 46 = .ok (.getfield 163, 3) := by decide +kernel
theorem dModel_land_49 : decode prog_14_method_16_code 49 = .ok (.aload_n 0, 1) := by decide +kernel
theorem dModel_land_50 : decode prog_14_method_16_code 50 = .ok (.getfield 150, 3) := by decide +kernel
theorem dModel_land_53 : decode prog_14_method_16_code 53 = .ok (.iconst 0, 1) := by decide +kernel
theorem dModel_land_54 : decode prog_14_method_16_code 54 = .ok (.iastore, 1) := by decide +kernel
theorem dModel_land_55 : decode prog_14_method_16_code 55 = .ok (.aload_n 0, 1) := by decide +kernel
theorem dModel_land_56 : decode prog_14_method_16_code 56 = .ok (.invokevirtual 130, 3) := by decide +kernel
theorem dModel_land_59 : decode prog_14_method_16_code 59 = .ok (.aload_n 0, 1) := by decide +kernel
theorem dModel_land_60 : decode prog_14_method_16_code 60 = .ok (.invokevirtual 126, 3) := by decide +kernel
theorem dModel_land_63 : decode prog_14_method_16_code 63 = .ok (.ifCond .eq 17, 3) := by decide +kernel
theorem dModel_land_66 : decode prog_14_method_16_code 66 = .ok (.aload_n 0, 1) := by decide +kernel
theorem dModel_land_67 : decode prog_14_method_16_code 67 = .ok (.getfield 98, 3) := by decide +kernel
theorem dModel_land_70 : decode prog_14_method_16_code 70 = .ok (.ifCond .eq 10, 3) := by decide +kernel
theorem dModel_land_73 : decode prog_14_method_16_code 73 = .ok (.aload_n 0, 1) := by decide +kernel
theorem dModel_land_74 : decode prog_14_method_16_code 74 = .ok (.invokevirtual 166, 3) := by decide +kernel
theorem dModel_land_77 : decode prog_14_method_16_code 77 = .ok (.goto (-18), 3) := by decide +kernel
theorem dModel_land_80 : decode prog_14_method_16_code 80 = .ok (.aload_n 0, 1) := by decide +kernel
theorem dModel_land_81 : decode prog_14_method_16_code 81 = .ok (.invokevirtual 126, 3) := by decide +kernel
theorem dModel_land_84 : decode prog_14_method_16_code 84 = .ok (.ifCond .ne 5, 3) := by decide +kernel
theorem dModel_land_87 : decode prog_14_method_16_code 87 = .ok (.iconst (-1), 1) := by decide +kernel
theorem dModel_land_88 : decode prog_14_method_16_code 88 = .ok (.ireturn, 1) := by decide +kernel
theorem dModel_land_89 : decode prog_14_method_16_code 89 = .ok (.aload_n 0, 1) := by decide +kernel
theorem dModel_land_90 : decode prog_14_method_16_code 90 = .ok (.aload_n 0, 1) := by decide +kernel
theorem dModel_land_91 : decode prog_14_method_16_code 91 = .ok (.getfield 150, 3) := by decide +kernel
theorem dModel_land_94 : decode prog_14_method_16_code 94 = .ok (.putfield 147, 3) := by decide +kernel
theorem dModel_land_97 : decode prog_14_method_16_code 97 = .ok (.aload_n 0, 1) := by decide +kernel
theorem dModel_land_98 : decode prog_14_method_16_code 98 = .ok (.iconst 0, 1) := by decide +kernel
theorem dModel_land_99 : decode prog_14_method_16_code 99 = .ok (.putfield 169, 3) := by decide +kernel
theorem dModel_land_102 : decode prog_14_method_16_code 102 = .ok (.aload_n 0, 1) := by decide +kernel
theorem dModel_land_103 : decode prog_14_method_16_code 103 = .ok (.iconst 0, 1) := by decide +kernel
theorem dModel_land_104 : decode prog_14_method_16_code 104 = .ok (.putfield 172, 3) := by decide +kernel
theorem dModel_land_107 : decode prog_14_method_16_code 107 = .ok (.aload_n 0, 1) := by decide +kernel
theorem dModel_land_108 : decode prog_14_method_16_code 108 = .ok (.invokevirtual 175, 3) := by decide +kernel
theorem dModel_land_111 : decode prog_14_method_16_code 111 = .ok (.aload_n 0, 1) := by decide +kernel
theorem dModel_land_112 : decode prog_14_method_16_code 112 = .ok (.getfield 153, 3) := by decide +kernel
theorem dModel_land_115 : decode prog_14_method_16_code 115 = .ok (.aload_n 0, 1) := by decide +kernel
theorem dModel_land_116 : decode prog_14_method_16_code 116 = .ok (.getfield 147, 3) := by decide +kernel
theorem dModel_land_119 : decode prog_14_method_16_code 119 = .ok (.iaload, 1) := by decide +kernel
theorem dModel_land_120 : decode prog_14_method_16_code 120 = .ok (.aload_n 0, 1) := by decide +kernel
theorem dModel_land_121 : decode prog_14_method_16_code 121 = .ok (.getfield 157, 3) := by decide +kernel
theorem dModel_land_124 : decode prog_14_method_16_code 124 = .ok (.aload_n 0, 1) := by decide +kernel
theorem dModel_land_125 : decode prog_14_method_16_code 125 = .ok (.getfield 147, 3) := by decide +kernel
theorem dModel_land_128 : decode prog_14_method_16_code 128 = .ok (.iaload, 1) := by decide +kernel
theorem dModel_land_129 : decode prog_14_method_16_code 129 = .ok (.iadd, 1) := by decide +kernel
theorem dModel_land_130 : decode prog_14_method_16_code 130 = .ok (.aload_n 0, 1) := by decide +kernel
theorem dModel_land_131 : decode prog_14_method_16_code 131 = .ok (.getfield 160, 3) := by decide +kernel
theorem dModel_land_134 : decode prog_14_method_16_code 134 = .ok (.aload_n 0, 1) := by decide +kernel
theorem dModel_land_135 : decode prog_14_method_16_code 135 = .ok (.getfield 147, 3) := by decide +kernel
theorem dModel_land_138 : decode prog_14_method_16_code 138 = .ok (.iaload, 1) := by decide +kernel
theorem dModel_land_139 : decode prog_14_method_16_code 139 = .ok (.iadd, 1) := by decide +kernel
theorem dModel_land_140 : decode prog_14_method_16_code 140 = .ok (.aload_n 0, 1) := by decide +kernel
theorem dModel_land_141 : decode prog_14_method_16_code 141 = .ok (.getfield 163, 3) := by decide +kernel
theorem dModel_land_144 : decode prog_14_method_16_code 144 = .ok (.aload_n 0, 1) := by decide +kernel
theorem dModel_land_145 : decode prog_14_method_16_code 145 = .ok (.getfield 147, 3) := by decide +kernel
theorem dModel_land_148 : decode prog_14_method_16_code 148 = .ok (.iaload, 1) := by decide +kernel
theorem dModel_land_149 : decode prog_14_method_16_code 149 = .ok (.iadd, 1) := by decide +kernel
theorem dModel_land_150 : decode prog_14_method_16_code 150 = .ok (.ireturn, 1) := by decide +kernel
theorem dModel_readLine_0 : decode prog_14_method_17_code 0 = .ok (.aload_n 0, 1) := by decide +kernel
theorem dModel_readLine_1 : decode prog_14_method_17_code 1 = .ok (.ldc2_w 17, 3) := by decide +kernel
theorem dModel_readLine_4 : decode prog_14_method_17_code 4 = .ok (.invokevirtual 178, 3) := by decide +kernel
theorem dModel_readLine_7 : decode prog_14_method_17_code 7 = .ok (.istore_n 1, 1) := by decide +kernel
theorem dModel_readLine_8 : decode prog_14_method_17_code 8 = .ok (.aload_n 0, 1) := by decide +kernel
theorem dModel_readLine_9 : decode prog_14_method_17_code 9 = .ok (.ldc2_w 19, 3) := by decide +kernel
theorem dModel_readLine_12 : decode prog_14_method_17_code 12 = .ok (.invokevirtual 178, 3) := by decide +kernel
theorem dModel_readLine_15 : decode prog_14_method_17_code 15 = .ok (.istore_n 2, 1) := by decide +kernel
theorem dModel_readLine_16 : decode prog_14_method_17_code 16 = .ok (.aload_n 0, 1) := by decide +kernel
theorem dModel_readLine_17 : decode prog_14_method_17_code 17 = .ok (.ldc2_w 27, 3) := by decide +kernel
theorem dModel_readLine_20 : decode prog_14_method_17_code 20 = .ok (.invokevirtual 178, 3) := by decide +kernel
theorem dModel_readLine_23 : decode prog_14_method_17_code 23 = .ok (.istore_n 3, 1) := by decide +kernel
theorem dModel_readLine_24 : decode prog_14_method_17_code 24 = .ok (.iload_n 1, 1) := by decide +kernel
theorem dModel_readLine_25 : decode prog_14_method_17_code 25 = .ok (.ifCond .eq 25, 3) := by decide +kernel
theorem dModel_readLine_28 : decode prog_14_method_17_code 28 = .ok (.aload_n 0, 1) := by decide +kernel
theorem dModel_readLine_29 : decode prog_14_method_17_code 29 = .ok (.getfield 153, 3) := by decide +kernel
theorem dModel_readLine_32 : decode prog_14_method_17_code 32 = .ok (.aload_n 0, 1) := by decide +kernel
theorem dModel_readLine_33 : decode prog_14_method_17_code 33 = .ok (.getfield 150, 3) := by decide +kernel
theorem dModel_readLine_36 : decode prog_14_method_17_code 36 = .ok (.iaload, 1) := by decide +kernel
theorem dModel_readLine_37 : decode prog_14_method_17_code 37 = .ok (.bipush 24, 2) := by decide +kernel
theorem dModel_readLine_39 : decode prog_14_method_17_code 39 = .ok (.if_icmp .ne 7, 3) := by decide +kernel
theorem dModel_readLine_42 : decode prog_14_method_17_code 42 = .ok (.iconst 1, 1) := by decide +kernel
theorem dModel_readLine_43 : decode prog_14_method_17_code 43 = .ok (.goto 85, 3) := by decide +kernel
theorem dModel_readLine_46 : decode prog_14_method_17_code 46 = .ok (.iconst 0, 1) := by decide +kernel
theorem dModel_readLine_47 : decode prog_14_method_17_code 47 = .ok (.goto 81, 3) := by decide +kernel
theorem dModel_readLine_50 : decode prog_14_method_17_code 50 = .ok (.iload_n 2, 1) := by decide +kernel
theorem dModel_readLine_51 : decode prog_14_method_17_code 51 = .ok (.ifCond .eq 24, 3) := by decide +kernel
theorem dModel_readLine_54 : decode prog_14_method_17_code 54 = .ok (.aload_n 0, 1) := by decide +kernel
theorem dModel_readLine_55 : decode prog_14_method_17_code 55 = .ok (.getfield 157, 3) := by decide +kernel
theorem dModel_readLine_58 : decode prog_14_method_17_code 58 = .ok (.aload_n 0, 1) := by decide +kernel
theorem dModel_readLine_59 : decode prog_14_method_17_code 59 = .ok (.getfield 150, 3) := by decide +kernel
theorem dModel_readLine_62 : decode prog_14_method_17_code 62 = .ok (.iaload, 1) := by decide +kernel
theorem dModel_readLine_63 : decode prog_14_method_17_code 63 = .ok (.iconst 3, 1) := by decide +kernel
theorem dModel_readLine_64 : decode prog_14_method_17_code 64 = .ok (.if_icmp .ne 7, 3) := by decide +kernel
theorem dModel_readLine_67 : decode prog_14_method_17_code 67 = .ok (.iconst 1, 1) := by decide +kernel
theorem dModel_readLine_68 : decode prog_14_method_17_code 68 = .ok (.goto 60, 3) := by decide +kernel
theorem dModel_readLine_71 : decode prog_14_method_17_code 71 = .ok (.iconst 0, 1) := by decide +kernel
theorem dModel_readLine_72 : decode prog_14_method_17_code 72 = .ok (.goto 56, 3) := by decide +kernel
theorem dModel_readLine_75 : decode prog_14_method_17_code 75 = .ok (.iload_n 3, 1) := by decide +kernel
theorem dModel_readLine_76 : decode prog_14_method_17_code 76 = .ok (.ifCond .eq 24, 3) := by decide +kernel
theorem dModel_readLine_79 : decode prog_14_method_17_code 79 = .ok (.aload_n 0, 1) := by decide +kernel
theorem dModel_readLine_80 : decode prog_14_method_17_code 80 = .ok (.getfield 160, 3) := by decide +kernel
theorem dModel_readLine_83 : decode prog_14_method_17_code 83 = .ok (.aload_n 0, 1) := by decide +kernel
theorem dModel_readLine_84 : decode prog_14_method_17_code 84 = .ok (.getfield 150, 3) := by decide +kernel
theorem dModel_readLine_87 : decode prog_14_method_17_code 87 = .ok (.iaload, 1) := by decide +kernel
theorem dModel_readLine_88 : decode prog_14_method_17_code 88 = .ok (.iconst 3, 1) := by decide +kernel
theorem dModel_readLine_89 : decode prog_14_method_17_code 89 = .ok (.if_icmp .ne 7, 3) := by decide +kernel
theorem dModel_readLine_92 : decode prog_14_method_17_code 92 = .ok (.iconst 1, 1) := by decide +kernel
theorem dModel_readLine_93 : decode prog_14_method_17_code 93 = .ok (.goto 35, 3) := by decide +kernel
theorem dModel_readLine_96 : decode prog_14_method_17_code 96 = .ok (.iconst 0, 1) := by decide +kernel
theorem dModel_readLine_97 : decode prog_14_method_17_code 97 = .ok (.goto 31, 3) := by decide +kernel
theorem dModel_readLine_100 : decode prog_14_method_17_code 100 = .ok (.aload_n 0, 1) := by decide +kernel
theorem dModel_readLine_101 : decode prog_14_method_17_code 101 = .ok (.ldc2_w 33, 3) := by decide +kernel
theorem dModel_readLine_104 : decode prog_14_method_17_code 104 = .ok (.invokevirtual 178, 3) := by decide +kernel
theorem dModel_readLine_107 : decode prog_14_method_17_code 107 = .ok (.ifCond .eq 16, 3) := by decide +kernel
theorem dModel_readLine_110 : decode prog_14_method_17_code 110 = .ok (.aload_n 0, 1) := by decide +kernel
theorem dModel_readLine_111 : decode prog_14_method_17_code 111 = .ok (.getfield 163, 3) := by decide +kernel
theorem dModel_readLine_114 : decode prog_14_method_17_code 114 = .ok (.aload_n 0, 1) := by decide +kernel
theorem dModel_readLine_115 : decode prog_14_method_17_code 115 = .ok (.getfield 150, 3) := by decide +kernel
theorem dModel_readLine_118 : decode prog_14_method_17_code 118 = .ok (.iaload, 1) := by decide +kernel
theorem dModel_readLine_119 : decode prog_14_method_17_code 119 = .ok (.iconst 5, 1) := by decide +kernel
theorem dModel_readLine_120 : decode prog_14_method_17_code 120 = .ok (.if_icmp .ne 7, 3) := by decide +kernel
theorem dModel_readLine_123 : decode prog_14_method_17_code 123 = .ok (.iconst 1, 1) := by decide +kernel
theorem dModel_readLine_124 : decode prog_14_method_17_code 124 = .ok (.goto 4, 3) := by decide +kernel
theorem dModel_readLine_127 : decode prog_14_method_17_code 127 = .ok (.iconst 0, 1) := by decide +kernel
theorem dModel_readLine_128 : decode prog_14_method_17_code 128 = .ok (.istore 4, 2) := by decide +kernel
theorem dModel_readLine_130 : decode prog_14_method_17_code 130 = .ok (.iload 4, 2) := by decide +kernel
theorem dModel_readLine_132 : decode prog_14_method_17_code 132 = .ok (.ifCond .eq 7, 3) := by decide +kernel
theorem dModel_readLine_135 : decode prog_14_method_17_code 135 = .ok (.aload_n 0, 1) := by decide +kernel
theorem dModel_readLine_136 : decode prog_14_method_17_code 136 = .ok (.invokevirtual 134, 3) := by decide +kernel
theorem dModel_readLine_139 : decode prog_14_method_17_code 139 = .ok (.aload_n 0, 1) := by decide +kernel
theorem dModel_readLine_140 : decode prog_14_method_17_code 140 = .ok (.invokevirtual 126, 3) := by decide +kernel
theorem dModel_readLine_143 : decode prog_14_method_17_code 143 = .ok (.ifCond .ne 4, 3) := by decide +kernel
theorem dModel_readLine_146 : decode prog_14_method_17_code 146 = .ok (.return_, 1) := by decide +kernel
theorem dModel_readLine_147 : decode prog_14_method_17_code 147 = .ok (.aload_n 0, 1) := by decide +kernel
theorem dModel_readLine_148 : decode prog_14_method_17_code 148 = .ok (.invokevirtual 130, 3) := by decide +kernel
theorem dModel_readLine_151 : decode prog_14_method_17_code 151 = .ok (.iload_n 1, 1) := by decide +kernel
theorem dModel_readLine_152 : decode prog_14_method_17_code 152 = .ok (.ifCond .eq 10, 3) := by decide +kernel
theorem dModel_readLine_155 : decode prog_14_method_17_code 155 = .ok (.aload_n 0, 1) := by decide +kernel
theorem dModel_readLine_156 : decode prog_14_method_17_code 156 = .ok (.invokevirtual 181, 3) := by decide +kernel
theorem dModel_readLine_159 : decode prog_14_method_17_code 159 = .ok (.goto 29, 3) := by decide +kernel
theorem dModel_readLine_162 : decode prog_14_method_17_code 162 = .ok (.iload_n 2, 1) := by decide +kernel
theorem dModel_readLine_163 : decode prog_14_method_17_code 163 = .ok (.ifCond .eq 10, 3) := by decide +kernel
theorem dModel_readLine_166 : decode prog_14_method_17_code 166 = .ok (.aload_n 0, 1) := by decide +kernel
theorem dModel_readLine_167 : decode prog_14_method_17_code 167 = .ok (.invokevirtual 184, 3) := by decide +kernel
theorem dModel_readLine_170 : decode prog_14_method_17_code 170 = .ok (.goto 18, 3) := by decide +kernel
theorem dModel_readLine_173 : decode prog_14_method_17_code 173 = .ok (.iload_n 3, 1) := by decide +kernel
theorem dModel_readLine_174 : decode prog_14_method_17_code 174 = .ok (.ifCond .eq 10, 3) := by decide +kernel
theorem dModel_readLine_177 : decode prog_14_method_17_code 177 = .ok (.aload_n 0, 1) := by decide +kernel
theorem dModel_readLine_178 : decode prog_14_method_17_code 178 = .ok (.invokevirtual 187, 3) := by decide +kernel
theorem dModel_readLine_181 : decode prog_14_method_17_code 181 = .ok (.goto 7, 3) := by decide +kernel
theorem dModel_readLine_184 : decode prog_14_method_17_code 184 = .ok (.aload_n 0, 1) := by decide +kernel
theorem dModel_readLine_185 : decode prog_14_method_17_code 185 = .ok (.invokevirtual 190, 3) := by decide +kernel
theorem dModel_readLine_188 : decode prog_14_method_17_code 188 = .ok (.aload_n 0, 1) := by decide +kernel
theorem dModel_readLine_189 : decode prog_14_method_17_code 189 = .ok (.aload_n 0, 1) := by decide +kernel
theorem dModel_readLine_190 : decode prog_14_method_17_code 190 = .ok (.bipush 59, 2) := by decide +kernel
theorem dModel_readLine_192 : decode prog_14_method_17_code 192 = .ok (.invokevirtual 193, 3) := by decide +kernel
theorem dModel_readLine_195 : decode prog_14_method_17_code 195 = .ok (.invokevirtual 196, 3) := by decide +kernel
theorem dModel_readLine_198 : decode prog_14_method_17_code 198 = .ok (.return_, 1) := by decide +kernel
theorem dModel_point_0 : decode prog_14_method_18_code 0 = .ok (.aload_n 0, 1) := by decide +kernel
theorem dModel_point_1 : decode prog_14_method_18_code 1 = .ok (.getfield 108, 3) := by decide +kernel
theorem dModel_point_4 : decode prog_14_method_18_code 4 = .ok (.istore_n 1, 1) := by decide +kernel
theorem dModel_point_5 : decode prog_14_method_18_code 5 = .ok (.aload_n 0, 1) := by decide +kernel
theorem dModel_point_6 : decode prog_14_method_18_code 6 = .ok (.aload_n 0, 1) := by decide +kernel
theorem dModel_point_7 : decode prog_14_method_18_code 7 = .ok (.getfield 98, 3) := by decide +kernel
theorem dModel_point_10 : decode prog_14_method_18_code 10 = .ok (.iconst 5, 1) := by decide +kernel
theorem dModel_point_11 : decode prog_14_method_18_code 11 = .ok (.if_icmp .ne 7, 3) := by decide +kernel
theorem dModel_point_14 : decode prog_14_method_18_code 14 = .ok (.iconst 1, 1) := by decide +kernel
theorem dModel_point_15 : decode prog_14_method_18_code 15 = .ok (.goto 4, 3) := by decide +kernel
theorem dModel_point_18 : decode prog_14_method_18_code 18 = .ok (.iconst 0, 1) := by decide +kernel
theorem dModel_point_19 : decode prog_14_method_18_code 19 = .ok (.invokevirtual 196, 3) := by decide +kernel
theorem dModel_point_22 : decode prog_14_method_18_code 22 = .ok (.aload_n 0, 1) := by decide +kernel
theorem dModel_point_23 : decode prog_14_method_18_code 23 = .ok (.invokevirtual 126, 3) := by decide +kernel
theorem dModel_point_26 : decode prog_14_method_18_code 26 = .ok (.ifCond .eq 7, 3) := by decide +kernel
theorem dModel_point_29 : decode prog_14_method_18_code 29 = .ok (.iload_n 1, 1) := by decide +kernel
theorem dModel_point_30 : decode prog_14_method_18_code 30 = .ok (.goto 4, 3) := by decide +kernel
theorem dModel_point_33 : decode prog_14_method_18_code 33 = .ok (.iconst 0, 1) := by decide +kernel
theorem dModel_point_34 : decode prog_14_method_18_code 34 = .ok (.ireturn, 1) := by decide +kernel
theorem dModel_readRoad_0 : decode prog_14_method_19_code 0 = .ok (.bipush 24, 2) := by decide +kernel
theorem dModel_readRoad_2 : decode prog_14_method_19_code 2 = .ok (.aload_n 0, 1) := by decide +kernel
theorem dModel_readRoad_3 : decode prog_14_method_19_code 3 = .ok (.getfield 150, 3) := by decide +kernel
theorem dModel_readRoad_6 : decode prog_14_method_19_code 6 = .ok (.imul, 1) := by decide +kernel
theorem dModel_readRoad_7 : decode prog_14_method_19_code 7 = .ok (.aload_n 0, 1) := by decide +kernel
theorem dModel_readRoad_8 : decode prog_14_method_19_code 8 = .ok (.getfield 153, 3) := by decide +kernel
theorem dModel_readRoad_11 : decode prog_14_method_19_code 11 = .ok (.aload_n 0, 1) := by decide +kernel
theorem dModel_readRoad_12 : decode prog_14_method_19_code 12 = .ok (.getfield 150, 3) := by decide +kernel
theorem dModel_readRoad_15 : decode prog_14_method_19_code 15 = .ok (.iaload, 1) := by decide +kernel
theorem dModel_readRoad_16 : decode prog_14_method_19_code 16 = .ok (.iadd, 1) := by decide +kernel
theorem dModel_readRoad_17 : decode prog_14_method_19_code 17 = .ok (.istore_n 1, 1) := by decide +kernel
theorem dModel_readRoad_18 : decode prog_14_method_19_code 18 = .ok (.aload_n 0, 1) := by decide +kernel
theorem dModel_readRoad_19 : decode prog_14_method_19_code 19 = .ok (.getfield 199, 3) := by decide +kernel
theorem dModel_readRoad_22 : decode prog_14_method_19_code 22 = .ok (.iload_n 1, 1) := by decide +kernel
theorem dModel_readRoad_23 : decode prog_14_method_19_code 23 = .ok (.aload_n 0, 1) := by decide +kernel
theorem dModel_readRoad_24 : decode prog_14_method_19_code 24 = .ok (.invokevirtual 202, 3) := by decide +kernel
theorem dModel_readRoad_27 : decode prog_14_method_19_code 27 = .ok (.iastore, 1) := by decide +kernel
theorem dModel_readRoad_28 : decode prog_14_method_19_code 28 = .ok (.aload_n 0, 1) := by decide +kernel
theorem dModel_readRoad_29 : decode prog_14_method_19_code 29 = .ok (.invokevirtual 126, 3) := by decide +kernel
theorem dModel_readRoad_32 : decode prog_14_method_19_code 32 = .ok (.ifCond .eq 33, 3) := by decide +kernel
theorem dModel_readRoad_35 : decode prog_14_method_19_code 35 = .ok (.aload_n 0, 1) := by decide +kernel
theorem dModel_readRoad_36 : decode prog_14_method_19_code 36 = .ok (.getfield 98, 3) := by decide +kernel
theorem dModel_readRoad_39 : decode prog_14_method_19_code 39 = .ok (.iconst 5, 1) := by decide +kernel
theorem dModel_readRoad_40 : decode prog_14_method_19_code 40 = .ok (.if_icmp .ne 25, 3) := by decide +kernel
theorem dModel_readRoad_43 : decode prog_14_method_19_code 43 = .ok (.aload_n 0, 1) := by decide +kernel
theorem dModel_readRoad_44 : decode prog_14_method_19_code 44 = .ok (.getfield 108, 3) := by decide +kernel
theorem dModel_readRoad_47 : decode prog_14_method_19_code 47 = .ok (.aload_n 0, 1) := by decide +kernel
theorem dModel_readRoad_48 : decode prog_14_method_19_code 48 = .ok (.getfield 199, 3) := by decide +kernel
theorem dModel_readRoad_51 : decode prog_14_method_19_code 51 = .ok (.iload_n 1, 1) := by decide +kernel
theorem dModel_readRoad_52 : decode prog_14_method_19_code 52 = .ok (.iaload, 1) := by decide +kernel
theorem dModel_readRoad_53 : decode prog_14_method_19_code 53 = .ok (.if_icmp .ne 12, 3) := by decide +kernel
theorem dModel_readRoad_56 : decode prog_14_method_19_code 56 = .ok (.aload_n 0, 1) := by decide +kernel
theorem dModel_readRoad_57 : decode prog_14_method_19_code 57 = .ok (.iconst 4, 1) := by decide +kernel
theorem dModel_readRoad_58 : decode prog_14_method_19_code 58 = .ok (.aload_n 0, 1) := by decide +kernel
theorem dModel_readRoad_59 : decode prog_14_method_19_code 59 = .ok (.getfield 95, 3) := by decide +kernel
theorem dModel_readRoad_62 : decode prog_14_method_19_code 62 = .ok (.invokevirtual 122, 3) := by decide +kernel
theorem dModel_readRoad_65 : decode prog_14_method_19_code 65 = .ok (.aload_n 0, 1) := by decide +kernel
theorem dModel_readRoad_66 : decode prog_14_method_19_code 66 = .ok (.getfield 206, 3) := by decide +kernel
theorem dModel_readRoad_69 : decode prog_14_method_19_code 69 = .ok (.iload_n 1, 1) := by decide +kernel
theorem dModel_readRoad_70 : decode prog_14_method_19_code 70 = .ok (.aload_n 0, 1) := by decide +kernel
theorem dModel_readRoad_71 : decode prog_14_method_19_code 71 = .ok (.invokevirtual 202, 3) := by decide +kernel
theorem dModel_readRoad_74 : decode prog_14_method_19_code 74 = .ok (.iastore, 1) := by decide +kernel
theorem dModel_readRoad_75 : decode prog_14_method_19_code 75 = .ok (.aload_n 0, 1) := by decide +kernel
theorem dModel_readRoad_76 : decode prog_14_method_19_code 76 = .ok (.getfield 209, 3) := by decide +kernel
theorem dModel_readRoad_79 : decode prog_14_method_19_code 79 = .ok (.iload_n 1, 1) := by decide +kernel
theorem dModel_readRoad_80 : decode prog_14_method_19_code 80 = .ok (.aload_n 0, 1) := by decide +kernel
theorem dModel_readRoad_81 : decode prog_14_method_19_code 81 = .ok (.iconst 1, 1) := by decide +kernel
theorem dModel_readRoad_82 : decode prog_14_method_19_code 82 = .ok (.bipush 90, 2) := by decide +kernel
theorem dModel_readRoad_84 : decode prog_14_method_19_code 84 = .ok (.invokevirtual 212, 3) := by decide +kernel
theorem dModel_readRoad_87 : decode prog_14_method_19_code 87 = .ok (.iastore, 1) := by decide +kernel
theorem dModel_readRoad_88 : decode prog_14_method_19_code 88 = .ok (.aload_n 0, 1) := by decide +kernel
theorem dModel_readRoad_89 : decode prog_14_method_19_code 89 = .ok (.invokevirtual 126, 3) := by decide +kernel
theorem dModel_readRoad_92 : decode prog_14_method_19_code 92 = .ok (.ifCond .eq 16, 3) := by decide +kernel
theorem dModel_readRoad_95 : decode prog_14_method_19_code 95 = .ok (.aload_n 0, 1) := by decide +kernel
theorem dModel_readRoad_96 : decode prog_14_method_19_code 96 = .ok (.getfield 153, 3) := by decide +kernel
theorem dModel_readRoad_99 : decode prog_14_method_19_code 99 = .ok (.aload_n 0, 1) := by decide +kernel
theorem dModel_readRoad_100 : decode prog_14_method_19_code 100 = .ok (.getfield 150, 3) := by decide +kernel
theorem dModel_readRoad_103 : decode prog_14_method_19_code 103 = .ok (.dup2, 1) := by decide +kernel
theorem dModel_readRoad_104 : decode prog_14_method_19_code 104 = .ok (.iaload, 1) := by decide +kernel
theorem dModel_readRoad_105 : decode prog_14_method_19_code 105 = .ok (.iconst 1, 1) := by decide +kernel
theorem dModel_readRoad_106 : decode prog_14_method_19_code 106 = .ok (.iadd, 1) := by decide +kernel
theorem dModel_readRoad_107 : decode prog_14_method_19_code 107 = .ok (.iastore, 1) := by decide +kernel
theorem dModel_readRoad_108 : decode prog_14_method_19_code 108 = .ok (.return_, 1) := by decide +kernel
theorem dModel_isTold_0 : decode prog_14_method_20_code 0 = .ok (.iconst 3, 1) := by decide +kernel
theorem dModel_isTold_1 : decode prog_14_method_20_code 1 = .ok (.aload_n 0, 1) := by decide +kernel
theorem dModel_isTold_2 : decode prog_14_method_20_code 2 = .ok (.getfield 150, 3) := by decide +kernel
theorem dModel_isTold_5 : decode prog_14_method_20_code 5 = .ok (.imul, 1) := by decide +kernel
theorem dModel_isTold_6 : decode prog_14_method_20_code 6 = .ok (.istore_n 3, 1) := by decide +kernel
theorem dModel_isTold_7 : decode prog_14_method_20_code 7 = .ok (.iload_n 3, 1) := by decide +kernel
theorem dModel_isTold_8 : decode prog_14_method_20_code 8 = .ok (.iconst 3, 1) := by decide +kernel
theorem dModel_isTold_9 : decode prog_14_method_20_code 9 = .ok (.aload_n 0, 1) := by decide +kernel
theorem dModel_isTold_10 : decode prog_14_method_20_code 10 = .ok (.getfield 150, 3) := by decide +kernel
theorem dModel_isTold_13 : decode prog_14_method_20_code 13 = .ok (.imul, 1) := by decide +kernel
theorem dModel_isTold_14 : decode prog_14_method_20_code 14 = .ok (.aload_n 0, 1) := by decide +kernel
theorem dModel_isTold_15 : decode prog_14_method_20_code 15 = .ok (.getfield 157, 3) := by decide +kernel
theorem dModel_isTold_18 : decode prog_14_method_20_code 18 = .ok (.aload_n 0, 1) := by decide +kernel
theorem dModel_isTold_19 : decode prog_14_method_20_code 19 = .ok (.getfield 150, 3) := by decide +kernel
theorem dModel_isTold_22 : decode prog_14_method_20_code 22 = .ok (.iaload, 1) := by decide +kernel
theorem dModel_isTold_23 : decode prog_14_method_20_code 23 = .ok (.iadd, 1) := by decide +kernel
theorem dModel_isTold_24 : decode prog_14_method_20_code 24 = .ok (.if_icmp .ge 22, 3) := by decide +kernel
theorem dModel_isTold_27 : decode prog_14_method_20_code 27 = .ok (.aload_n 0, 1) := by decide +kernel
theorem dModel_isTold_28 : decode prog_14_method_20_code 28 = .ok (.getfield 216, 3) := by decide +kernel
theorem dModel_isTold_31 : decode prog_14_method_20_code 31 = .ok (.iload_n 3, 1) := by decide +kernel
theorem dModel_isTold_32 : decode prog_14_method_20_code 32 = .ok (.laload, 1) := by decide +kernel
theorem dModel_isTold_33 : decode prog_14_method_20_code 33 = .ok (.lload_n 1, 1) := by decide +kernel
theorem dModel_isTold_34 : decode prog_14_method_20_code 34 = .ok (.lcmp, 1) := by decide +kernel
theorem dModel_isTold_35 : decode prog_14_method_20_code 35 = .ok (.ifCond .ne 5, 3) := by decide +kernel
theorem dModel_isTold_38 : decode prog_14_method_20_code 38 = .ok (.iconst 1, 1) := by decide +kernel
theorem dModel_isTold_39 : decode prog_14_method_20_code 39 = .ok (.ireturn, 1) := by decide +kernel
theorem dModel_isTold_40 : decode prog_14_method_20_code 40 = .ok (.iinc 3 1, 3) := by decide +kernel
theorem dModel_isTold_43 : decode prog_14_method_20_code 43 = .ok (.goto (-36), 3) := by decide +kernel
theorem dModel_isTold_46 : decode prog_14_method_20_code 46 = .ok (.iconst 3, 1) := by decide +kernel
theorem dModel_isTold_47 : decode prog_14_method_20_code 47 = .ok (.aload_n 0, 1) := by decide +kernel
theorem dModel_isTold_48 : decode prog_14_method_20_code 48 = .ok (.getfield 150, 3) := by decide +kernel
theorem dModel_isTold_51 : decode prog_14_method_20_code 51 = .ok (.imul, 1) := by decide +kernel
theorem dModel_isTold_52 : decode prog_14_method_20_code 52 = .ok (.istore_n 3, 1) := by decide +kernel
theorem dModel_isTold_53 : decode prog_14_method_20_code 53 = .ok (.iload_n 3, 1) := by decide +kernel
theorem dModel_isTold_54 : decode prog_14_method_20_code 54 = .ok (.iconst 3, 1) := by decide +kernel
theorem dModel_isTold_55 : decode prog_14_method_20_code 55 = .ok (.aload_n 0, 1) := by decide +kernel
theorem dModel_isTold_56 : decode prog_14_method_20_code 56 = .ok (.getfield 150, 3) := by decide +kernel
theorem dModel_isTold_59 : decode prog_14_method_20_code 59 = .ok (.imul, 1) := by decide +kernel
theorem dModel_isTold_60 : decode prog_14_method_20_code 60 = .ok (.aload_n 0, 1) := by decide +kernel
theorem dModel_isTold_61 : decode prog_14_method_20_code 61 = .ok (.getfield 160, 3) := by decide +kernel
theorem dModel_isTold_64 : decode prog_14_method_20_code 64 = .ok (.aload_n 0, 1) := by decide +kernel
theorem dModel_isTold_65 : decode prog_14_method_20_code 65 = .ok (.getfield 150, 3) := by decide +kernel
theorem dModel_isTold_68 : decode prog_14_method_20_code 68 = .ok (.iaload, 1) := by decide +kernel
theorem dModel_isTold_69 : decode prog_14_method_20_code 69 = .ok (.iadd, 1) := by decide +kernel
theorem dModel_isTold_70 : decode prog_14_method_20_code 70 = .ok (.if_icmp .ge 22, 3) := by decide +kernel
theorem dModel_isTold_73 : decode prog_14_method_20_code 73 = .ok (.aload_n 0, 1) := by decide +kernel
theorem dModel_isTold_74 : decode prog_14_method_20_code 74 = .ok (.getfield 220, 3) := by decide +kernel
theorem dModel_isTold_77 : decode prog_14_method_20_code 77 = .ok (.iload_n 3, 1) := by decide +kernel
theorem dModel_isTold_78 : decode prog_14_method_20_code 78 = .ok (.laload, 1) := by decide +kernel
theorem dModel_isTold_79 : decode prog_14_method_20_code 79 = .ok (.lload_n 1, 1) := by decide +kernel
theorem dModel_isTold_80 : decode prog_14_method_20_code 80 = .ok (.lcmp, 1) := by decide +kernel
theorem dModel_isTold_81 : decode prog_14_method_20_code 81 = .ok (.ifCond .ne 5, 3) := by decide +kernel
theorem dModel_isTold_84 : decode prog_14_method_20_code 84 = .ok (.iconst 1, 1) := by decide +kernel
theorem dModel_isTold_85 : decode prog_14_method_20_code 85 = .ok (.ireturn, 1) := by decide +kernel
theorem dModel_isTold_86 : decode prog_14_method_20_code 86 = .ok (.iinc 3 1, 3) := by decide +kernel
theorem dModel_isTold_89 : decode prog_14_method_20_code 89 = .ok (.goto (-36), 3) := by decide +kernel
theorem dModel_isTold_92 : decode prog_14_method_20_code 92 = .ok (.iconst 5, 1) := by decide +kernel
theorem dModel_isTold_93 : decode prog_14_method_20_code 93 = .ok (.aload_n 0, 1) := by decide +kernel
theorem dModel_isTold_94 : decode prog_14_method_20_code 94 = .ok (.getfield 150, 3) := by decide +kernel
theorem dModel_isTold_97 : decode prog_14_method_20_code 97 = .ok (.imul, 1) := by decide +kernel
theorem dModel_isTold_98 : decode prog_14_method_20_code 98 = .ok (.istore_n 3, 1) := by decide +kernel
theorem dModel_isTold_99 : decode prog_14_method_20_code 99 = .ok (.iload_n 3, 1) := by decide +kernel
theorem dModel_isTold_100 : decode prog_14_method_20_code 100 = .ok (.iconst 5, 1) := by decide +kernel
theorem dModel_isTold_101 : decode prog_14_method_20_code 101 = .ok (.aload_n 0, 1) := by decide +kernel
theorem dModel_isTold_102 : decode prog_14_method_20_code 102 = .ok (.getfield 150, 3) := by decide +kernel
theorem dModel_isTold_105 : decode prog_14_method_20_code 105 = .ok (.imul, 1) := by decide +kernel
theorem dModel_isTold_106 : decode prog_14_method_20_code 106 = .ok (.aload_n 0, 1) := by decide +kernel
theorem dModel_isTold_107 : decode prog_14_method_20_code 107 = .ok (.getfield 163, 3) := by decide +kernel
theorem dModel_isTold_110 : decode prog_14_method_20_code 110 = .ok (.aload_n 0, 1) := by decide +kernel
theorem dModel_isTold_111 : decode prog_14_method_20_code 111 = .ok (.getfield 150, 3) := by decide +kernel
theorem dModel_isTold_114 : decode prog_14_method_20_code 114 = .ok (.iaload, 1) := by decide +kernel
theorem dModel_isTold_115 : decode prog_14_method_20_code 115 = .ok (.iadd, 1) := by decide +kernel
theorem dModel_isTold_116 : decode prog_14_method_20_code 116 = .ok (.if_icmp .ge 22, 3) := by decide +kernel
theorem dModel_isTold_119 : decode prog_14_method_20_code 119 = .ok (.aload_n 0, 1) := by decide +kernel
theorem dModel_isTold_120 : decode prog_14_method_20_code 120 = .ok (.getfield 223, 3) := by decide +kernel
theorem dModel_isTold_123 : decode prog_14_method_20_code 123 = .ok (.iload_n 3, 1) := by decide +kernel
theorem dModel_isTold_124 : decode prog_14_method_20_code 124 = .ok (.laload, 1) := by decide +kernel
theorem dModel_isTold_125 : decode prog_14_method_20_code 125 = .ok (.lload_n 1, 1) := by decide +kernel
theorem dModel_isTold_126 : decode prog_14_method_20_code 126 = .ok (.lcmp, 1) := by decide +kernel
theorem dModel_isTold_127 : decode prog_14_method_20_code 127 = .ok (.ifCond .ne 5, 3) := by decide +kernel
theorem dModel_isTold_130 : decode prog_14_method_20_code 130 = .ok (.iconst 1, 1) := by decide +kernel
theorem dModel_isTold_131 : decode prog_14_method_20_code 131 = .ok (.ireturn, 1) := by decide +kernel
theorem dModel_isTold_132 : decode prog_14_method_20_code 132 = .ok (.iinc 3 1, 3) := by decide +kernel
theorem dModel_isTold_135 : decode prog_14_method_20_code 135 = .ok (.goto (-36), 3) := by decide +kernel
theorem dModel_isTold_138 : decode prog_14_method_20_code 138 = .ok (.iconst 0, 1) := by decide +kernel
theorem dModel_isTold_139 : decode prog_14_method_20_code 139 = .ok (.ireturn, 1) := by decide +kernel
theorem dModel_newName_0 : decode prog_14_method_21_code 0 = .ok (.aload_n 0, 1) := by decide +kernel
theorem dModel_newName_1 : decode prog_14_method_21_code 1 = .ok (.getfield 111, 3) := by decide +kernel
theorem dModel_newName_4 : decode prog_14_method_21_code 4 = .ok (.lstore_n 1, 1) := by decide +kernel
theorem dModel_newName_5 : decode prog_14_method_21_code 5 = .ok (.aload_n 0, 1) := by decide +kernel
theorem dModel_newName_6 : decode prog_14_method_21_code 6 = .ok (.invokevirtual 126, 3) := by decide +kernel
theorem dModel_newName_9 : decode prog_14_method_21_code 9 = .ok (.ifCond .eq 28, 3) := by decide +kernel
theorem dModel_newName_12 : decode prog_14_method_21_code 12 = .ok (.aload_n 0, 1) := by decide +kernel
theorem dModel_newName_13 : decode prog_14_method_21_code 13 = .ok (.getfield 98, 3) := by decide +kernel
theorem dModel_newName_16 : decode prog_14_method_21_code 16 = .ok (.iconst 2, 1) := by decide +kernel
theorem dModel_newName_17 : decode prog_14_method_21_code 17 = .ok (.if_icmp .ne 20, 3) := by decide +kernel
theorem dModel_newName_20 : decode prog_14_method_21_code 20 = .ok (.aload_n 0, 1) := by decide +kernel
theorem dModel_newName_21 : decode prog_14_method_21_code 21 = .ok (.lload_n 1, 1) := by decide +kernel
theorem dModel_newName_22 : decode prog_14_method_21_code 22 = .ok (.invokevirtual 226, 3) := by decide +kernel
theorem dModel_newName_25 : decode prog_14_method_21_code 25 = .ok (.ifCond .eq 12, 3) := by decide +kernel
theorem dModel_newName_28 : decode prog_14_method_21_code 28 = .ok (.aload_n 0, 1) := by decide +kernel
theorem dModel_newName_29 : decode prog_14_method_21_code 29 = .ok (.iconst 3, 1) := by decide +kernel
theorem dModel_newName_30 : decode prog_14_method_21_code 30 = .ok (.aload_n 0, 1) := by decide +kernel
theorem dModel_newName_31 : decode prog_14_method_21_code 31 = .ok (.getfield 95, 3) := by decide +kernel
theorem dModel_newName_34 : decode prog_14_method_21_code 34 = .ok (.invokevirtual 122, 3) := by decide +kernel
theorem dModel_newName_37 : decode prog_14_method_21_code 37 = .ok (.aload_n 0, 1) := by decide +kernel
theorem dModel_newName_38 : decode prog_14_method_21_code 38 = .ok (.aload_n 0, 1) := by decide +kernel
theorem dModel_newName_39 : decode prog_14_method_21_code 39 = .ok (.getfield 98, 3) := by decide +kernel
theorem dModel_newName_42 : decode prog_14_method_21_code 42 = .ok (.iconst 2, 1) := by decide +kernel
theorem dModel_newName_43 : decode prog_14_method_21_code 43 = .ok (.if_icmp .ne 7, 3) := by decide +kernel
theorem dModel_newName_46 : decode prog_14_method_21_code 46 = .ok (.iconst 1, 1) := by decide +kernel
theorem dModel_newName_47 : decode prog_14_method_21_code 47 = .ok (.goto 4, 3) := by decide +kernel
theorem dModel_newName_50 : decode prog_14_method_21_code 50 = .ok (.iconst 0, 1) := by decide +kernel
theorem dModel_newName_51 : decode prog_14_method_21_code 51 = .ok (.invokevirtual 196, 3) := by decide +kernel
theorem dModel_newName_54 : decode prog_14_method_21_code 54 = .ok (.aload_n 0, 1) := by decide +kernel
theorem dModel_newName_55 : decode prog_14_method_21_code 55 = .ok (.aload_n 0, 1) := by decide +kernel
theorem dModel_newName_56 : decode prog_14_method_21_code 56 = .ok (.ldc2_w 21, 3) := by decide +kernel
theorem dModel_newName_59 : decode prog_14_method_21_code 59 = .ok (.invokevirtual 178, 3) := by decide +kernel
theorem dModel_newName_62 : decode prog_14_method_21_code 62 = .ok (.invokevirtual 196, 3) := by decide +kernel
theorem dModel_newName_65 : decode prog_14_method_21_code 65 = .ok (.lload_n 1, 1) := by decide +kernel
theorem dModel_newName_66 : decode prog_14_method_21_code 66 = .ok (.lreturn, 1) := by decide +kernel
theorem dModel_readFort_0 : decode prog_14_method_22_code 0 = .ok (.iconst 3, 1) := by decide +kernel
theorem dModel_readFort_1 : decode prog_14_method_22_code 1 = .ok (.aload_n 0, 1) := by decide +kernel
theorem dModel_readFort_2 : decode prog_14_method_22_code 2 = .ok (.getfield 150, 3) := by decide +kernel
theorem dModel_readFort_5 : decode prog_14_method_22_code 5 = .ok (.imul, 1) := by decide +kernel
theorem dModel_readFort_6 : decode prog_14_method_22_code 6 = .ok (.aload_n 0, 1) := by decide +kernel
theorem dModel_readFort_7 : decode prog_14_method_22_code 7 = .ok (.getfield 157, 3) := by decide +kernel
theorem dModel_readFort_10 : decode prog_14_method_22_code 10 = .ok (.aload_n 0, 1) := by decide +kernel
theorem dModel_readFort_11 : decode prog_14_method_22_code 11 = .ok (.getfield 150, 3) := by decide +kernel
theorem dModel_readFort_14 : decode prog_14_method_22_code 14 = .ok (.iaload, 1) := by decide +kernel
theorem dModel_readFort_15 : decode prog_14_method_22_code 15 = .ok (.iadd, 1) := by decide +kernel
theorem dModel_readFort_16 : decode prog_14_method_22_code 16 = .ok (.istore_n 1, 1) := by decide +kernel
theorem dModel_readFort_17 : decode prog_14_method_22_code 17 = .ok (.aload_n 0, 1) := by decide +kernel
theorem dModel_readFort_18 : decode prog_14_method_22_code 18 = .ok (.getfield 216, 3) := by decide +kernel
theorem dModel_readFort_21 : decode prog_14_method_22_code 21 = .ok (.iload_n 1, 1) := by decide +kernel
theorem dModel_readFort_22 : decode prog_14_method_22_code 22 = .ok (.aload_n 0, 1) := by decide +kernel
theorem dModel_readFort_23 : decode prog_14_method_22_code 23 = .ok (.invokevirtual 229, 3) := by decide +kernel
theorem dModel_readFort_26 : decode prog_14_method_22_code 26 = .ok (.lastore, 1) := by decide +kernel
theorem dModel_readFort_27 : decode prog_14_method_22_code 27 = .ok (.aload_n 0, 1) := by decide +kernel
theorem dModel_readFort_28 : decode prog_14_method_22_code 28 = .ok (.getfield 233, 3) := by decide +kernel
theorem dModel_readFort_31 : decode prog_14_method_22_code 31 = .ok (.iload_n 1, 1) := by decide +kernel
theorem dModel_readFort_32 : decode prog_14_method_22_code 32 = .ok (.aload_n 0, 1) := by decide +kernel
theorem dModel_readFort_33 : decode prog_14_method_22_code 33 = .ok (.invokevirtual 202, 3) := by decide +kernel
theorem dModel_readFort_36 : decode prog_14_method_22_code 36 = .ok (.iastore, 1) := by decide +kernel
