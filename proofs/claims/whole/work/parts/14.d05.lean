/-! Decode rows: by program. -/
theorem dModel_untell_28 : decode prog_14_method_58_code 28 = .ok (.aload_n 0, 1) := by decide +kernel
theorem dModel_untell_29 : decode prog_14_method_58_code 29 = .ok (.getfield 427, 3) := by decide +kernel
theorem dModel_untell_32 : decode prog_14_method_58_code 32 = .ok (.iastore, 1) := by decide +kernel
theorem dModel_untell_33 : decode prog_14_method_58_code 33 = .ok (.iconst 1, 1) := by decide +kernel
theorem dModel_untell_34 : decode prog_14_method_58_code 34 = .ok (.ireturn, 1) := by decide +kernel
theorem dModel_later_0 : decode prog_14_method_59_code 0 = .ok (.iload_n 1, 1) := by decide +kernel
theorem dModel_later_1 : decode prog_14_method_59_code 1 = .ok (.ifCond .lt 22, 3) := by decide +kernel
theorem dModel_later_4 : decode prog_14_method_59_code 4 = .ok (.iload_n 1, 1) := by decide +kernel
theorem dModel_later_5 : decode prog_14_method_59_code 5 = .ok (.sipush 1000, 3) := by decide +kernel
theorem dModel_later_8 : decode prog_14_method_59_code 8 = .ok (.if_icmp .gt 15, 3) := by decide +kernel
theorem dModel_later_11 : decode prog_14_method_59_code 11 = .ok (.aload_n 0, 1) := by decide +kernel
theorem dModel_later_12 : decode prog_14_method_59_code 12 = .ok (.getfield 427, 3) := by decide +kernel
theorem dModel_later_15 : decode prog_14_method_59_code 15 = .ok (.iload_n 1, 1) := by decide +kernel
theorem dModel_later_16 : decode prog_14_method_59_code 16 = .ok (.iadd, 1) := by decide +kernel
theorem dModel_later_17 : decode prog_14_method_59_code 17 = .ok (.ldc_w 443, 3) := by decide +kernel
theorem dModel_later_20 : decode prog_14_method_59_code 20 = .ok (.if_icmp .le 5, 3) := by decide +kernel
theorem dModel_later_23 : decode prog_14_method_59_code 23 = .ok (.iconst (-1), 1) := by decide +kernel
theorem dModel_later_24 : decode prog_14_method_59_code 24 = .ok (.ireturn, 1) := by decide +kernel
theorem dModel_later_25 : decode prog_14_method_59_code 25 = .ok (.aload_n 0, 1) := by decide +kernel
theorem dModel_later_26 : decode prog_14_method_59_code 26 = .ok (.dup, 1) := by decide +kernel
theorem dModel_later_27 : decode prog_14_method_59_code 27 = .ok (.getfield 427, 3) := by decide +kernel
theorem dModel_later_30 : decode prog_14_method_59_code 30 = .ok (.iload_n 1, 1) := by decide +kernel
theorem dModel_later_31 : decode prog_14_method_59_code 31 = .ok (.iadd, 1) := by decide +kernel
theorem dModel_later_32 : decode prog_14_method_59_code 32 = .ok (.putfield 427, 3) := by decide +kernel
theorem dModel_later_35 : decode prog_14_method_59_code 35 = .ok (.aload_n 0, 1) := by decide +kernel
theorem dModel_later_36 : decode prog_14_method_59_code 36 = .ok (.getfield 427, 3) := by decide +kernel
theorem dModel_later_39 : decode prog_14_method_59_code 39 = .ok (.ireturn, 1) := by decide +kernel
theorem dModel_counts_0 : decode prog_14_method_60_code 0 = .ok (.aload_n 0, 1) := by decide +kernel
theorem dModel_counts_1 : decode prog_14_method_60_code 1 = .ok (.getfield 412, 3) := by decide +kernel
theorem dModel_counts_4 : decode prog_14_method_60_code 4 = .ok (.iload_n 1, 1) := by decide +kernel
theorem dModel_counts_5 : decode prog_14_method_60_code 5 = .ok (.iaload, 1) := by decide +kernel
theorem dModel_counts_6 : decode prog_14_method_60_code 6 = .ok (.iload_n 2, 1) := by decide +kernel
theorem dModel_counts_7 : decode prog_14_method_60_code 7 = .ok (.if_icmp .ne 42, 3) := by decide +kernel
theorem dModel_counts_10 : decode prog_14_method_60_code 10 = .ok (.aload_n 0, 1) := by decide +kernel
theorem dModel_counts_11 : decode prog_14_method_60_code 11 = .ok (.getfield 424, 3) := by decide +kernel
theorem dModel_counts_14 : decode prog_14_method_60_code 14 = .ok (.iload_n 1, 1) := by decide +kernel
theorem dModel_counts_15 : decode prog_14_method_60_code 15 = .ok (.iaload, 1) := by decide +kernel
theorem dModel_counts_16 : decode prog_14_method_60_code 16 = .ok (.aload_n 0, 1) := by decide +kernel
theorem dModel_counts_17 : decode prog_14_method_60_code 17 = .ok (.getfield 444, 3) := by decide +kernel
theorem dModel_counts_20 : decode prog_14_method_60_code 20 = .ok (.if_icmp .gt 29, 3) := by decide +kernel
theorem dModel_counts_23 : decode prog_14_method_60_code 23 = .ok (.aload_n 0, 1) := by decide +kernel
theorem dModel_counts_24 : decode prog_14_method_60_code 24 = .ok (.getfield 430, 3) := by decide +kernel
theorem dModel_counts_27 : decode prog_14_method_60_code 27 = .ok (.iload_n 1, 1) := by decide +kernel
theorem dModel_counts_28 : decode prog_14_method_60_code 28 = .ok (.iaload, 1) := by decide +kernel
theorem dModel_counts_29 : decode prog_14_method_60_code 29 = .ok (.ifCond .lt 16, 3) := by decide +kernel
theorem dModel_counts_32 : decode prog_14_method_60_code 32 = .ok (.aload_n 0, 1) := by decide +kernel
theorem dModel_counts_33 : decode prog_14_method_60_code 33 = .ok (.getfield 430, 3) := by decide +kernel
theorem dModel_counts_36 : decode prog_14_method_60_code 36 = .ok (.iload_n 1, 1) := by decide +kernel
theorem dModel_counts_37 : decode prog_14_method_60_code 37 = .ok (.iaload, 1) := by decide +kernel
theorem dModel_counts_38 : decode prog_14_method_60_code 38 = .ok (.aload_n 0, 1) := by decide +kernel
theorem dModel_counts_39 : decode prog_14_method_60_code 39 = .ok (.getfield 444, 3) := by decide +kernel
theorem dModel_counts_42 : decode prog_14_method_60_code 42 = .ok (.if_icmp .le 7, 3) := by decide +kernel
theorem dModel_counts_45 : decode prog_14_method_60_code 45 = .ok (.iconst 1, 1) := by decide +kernel
theorem dModel_counts_46 : decode prog_14_method_60_code 46 = .ok (.goto 4, 3) := by decide +kernel
theorem dModel_counts_49 : decode prog_14_method_60_code 49 = .ok (.iconst 0, 1) := by decide +kernel
theorem dModel_counts_50 : decode prog_14_method_60_code 50 = .ok (.ireturn, 1) := by decide +kernel
theorem dModel_waits_0 : decode prog_14_method_61_code 0 = .ok (.aload_n 0, 1) := by decide +kernel
theorem dModel_waits_1 : decode prog_14_method_61_code 1 = .ok (.getfield 447, 3) := by decide +kernel
theorem dModel_waits_4 : decode prog_14_method_61_code 4 = .ok (.iload_n 1, 1) := by decide +kernel
theorem dModel_waits_5 : decode prog_14_method_61_code 5 = .ok (.iaload, 1) := by decide +kernel
theorem dModel_waits_6 : decode prog_14_method_61_code 6 = .ok (.ifCond .ge 16, 3) := by decide +kernel
theorem dModel_waits_9 : decode prog_14_method_61_code 9 = .ok (.aload_n 0, 1) := by decide +kernel
theorem dModel_waits_10 : decode prog_14_method_61_code 10 = .ok (.getfield 450, 3) := by decide +kernel
theorem dModel_waits_13 : decode prog_14_method_61_code 13 = .ok (.iload_n 1, 1) := by decide +kernel
theorem dModel_waits_14 : decode prog_14_method_61_code 14 = .ok (.baload, 1) := by decide +kernel
theorem dModel_waits_15 : decode prog_14_method_61_code 15 = .ok (.ifCond .ne 7, 3) := by decide +kernel
theorem dModel_waits_18 : decode prog_14_method_61_code 18 = .ok (.iconst 1, 1) := by decide +kernel
theorem dModel_waits_19 : decode prog_14_method_61_code 19 = .ok (.goto 4, 3) := by decide +kernel
theorem dModel_waits_22 : decode prog_14_method_61_code 22 = .ok (.iconst 0, 1) := by decide +kernel
theorem dModel_waits_23 : decode prog_14_method_61_code 23 = .ok (.ireturn, 1) := by decide +kernel
theorem dModel_waitingAt_0 : decode prog_14_method_62_code 0 = .ok (.iconst 0, 1) := by decide +kernel
theorem dModel_waitingAt_1 : decode prog_14_method_62_code 1 = .ok (.istore_n 2, 1) := by decide +kernel
theorem dModel_waitingAt_2 : decode prog_14_method_62_code 2 = .ok (.iconst 0, 1) := by decide +kernel
theorem dModel_waitingAt_3 : decode prog_14_method_62_code 3 = .ok (.istore_n 3, 1) := by decide +kernel
theorem dModel_waitingAt_4 : decode prog_14_method_62_code 4 = .ok (.iload_n 3, 1) := by decide +kernel
theorem dModel_waitingAt_5 : decode prog_14_method_62_code 5 = .ok (.aload_n 0, 1) := by decide +kernel
theorem dModel_waitingAt_6 : decode prog_14_method_62_code 6 = .ok (.getfield 454, 3) := by decide +kernel
theorem dModel_waitingAt_9 : decode prog_14_method_62_code 9 = .ok (.if_icmp .ge 36, 3) := by decide +kernel
theorem dModel_waitingAt_12 : decode prog_14_method_62_code 12 = .ok (.aload_n 0, 1) := by decide +kernel
theorem dModel_waitingAt_13 : decode prog_14_method_62_code 13 = .ok (.getfield 457, 3) := by decide +kernel
theorem dModel_waitingAt_16 : decode prog_14_method_62_code 16 = .ok (.iload_n 3, 1) := by decide +kernel
theorem dModel_waitingAt_17 : decode prog_14_method_62_code 17 = .ok (.iaload, 1) := by decide +kernel
theorem dModel_waitingAt_18 : decode prog_14_method_62_code 18 = .ok (.iload_n 1, 1) := by decide +kernel
theorem dModel_waitingAt_19 : decode prog_14_method_62_code 19 = .ok (.if_icmp .ne 20, 3) := by decide +kernel
theorem dModel_waitingAt_22 : decode prog_14_method_62_code 22 = .ok (.aload_n 0, 1) := by decide +kernel
theorem dModel_waitingAt_23 : decode prog_14_method_62_code 23 = .ok (.iload_n 3, 1) := by decide +kernel
theorem dModel_waitingAt_24 : decode prog_14_method_62_code 24 = .ok (.invokevirtual 460, 3) := by decide +kernel
theorem dModel_waitingAt_27 : decode prog_14_method_62_code 27 = .ok (.ifCond .eq 12, 3) := by decide +kernel
theorem dModel_waitingAt_30 : decode prog_14_method_62_code 30 = .ok (.iload_n 2, 1) := by decide +kernel
theorem dModel_waitingAt_31 : decode prog_14_method_62_code 31 = .ok (.aload_n 0, 1) := by decide +kernel
theorem dModel_waitingAt_32 : decode prog_14_method_62_code 32 = .ok (.getfield 463, 3) := by decide +kernel
theorem dModel_waitingAt_35 : decode prog_14_method_62_code 35 = .ok (.iload_n 3, 1) := by decide +kernel
theorem dModel_waitingAt_36 : decode prog_14_method_62_code 36 = .ok (.iaload, 1) := by decide +kernel
theorem dModel_waitingAt_37 : decode prog_14_method_62_code 37 = .ok (.iadd, 1) := by decide +kernel
theorem dModel_waitingAt_38 : decode prog_14_method_62_code 38 = .ok (.istore_n 2, 1) := by decide +kernel
theorem dModel_waitingAt_39 : decode prog_14_method_62_code 39 = .ok (.iinc 3 1, 3) := by decide +kernel
theorem dModel_waitingAt_42 : decode prog_14_method_62_code 42 = .ok (.goto (-38), 3) := by decide +kernel
theorem dModel_waitingAt_45 : decode prog_14_method_62_code 45 = .ok (.iload_n 2, 1) := by decide +kernel
theorem dModel_waitingAt_46 : decode prog_14_method_62_code 46 = .ok (.ireturn, 1) := by decide +kernel
theorem dModel_waitingAll_0 : decode prog_14_method_63_code 0 = .ok (.iconst 0, 1) := by decide +kernel
theorem dModel_waitingAll_1 : decode prog_14_method_63_code 1 = .ok (.istore_n 1, 1) := by decide +kernel
theorem dModel_waitingAll_2 : decode prog_14_method_63_code 2 = .ok (.iconst 0, 1) := by decide +kernel
theorem dModel_waitingAll_3 : decode prog_14_method_63_code 3 = .ok (.istore_n 2, 1) := by decide +kernel
theorem dModel_waitingAll_4 : decode prog_14_method_63_code 4 = .ok (.iload_n 2, 1) := by decide +kernel
theorem dModel_waitingAll_5 : decode prog_14_method_63_code 5 = .ok (.aload_n 0, 1) := by decide +kernel
theorem dModel_waitingAll_6 : decode prog_14_method_63_code 6 = .ok (.invokevirtual 433, 3) := by decide +kernel
theorem dModel_waitingAll_9 : decode prog_14_method_63_code 9 = .ok (.if_icmp .ge 17, 3) := by decide +kernel
theorem dModel_waitingAll_12 : decode prog_14_method_63_code 12 = .ok (.iload_n 1, 1) := by decide +kernel
theorem dModel_waitingAll_13 : decode prog_14_method_63_code 13 = .ok (.aload_n 0, 1) := by decide +kernel
theorem dModel_waitingAll_14 : decode prog_14_method_63_code 14 = .ok (.iload_n 2, 1) := by decide +kernel
theorem dModel_waitingAll_15 : decode prog_14_method_63_code 15 = .ok (.invokevirtual 466, 3) := by decide +kernel
theorem dModel_waitingAll_18 : decode prog_14_method_63_code 18 = .ok (.iadd, 1) := by decide +kernel
theorem dModel_waitingAll_19 : decode prog_14_method_63_code 19 = .ok (.istore_n 1, 1) := by decide +kernel
theorem dModel_waitingAll_20 : decode prog_14_method_63_code 20 = .ok (.iinc 2 1, 3) := by decide +kernel
theorem dModel_waitingAll_23 : decode prog_14_method_63_code 23 = .ok (.goto (-19), 3) := by decide +kernel
theorem dModel_waitingAll_26 : decode prog_14_method_63_code 26 = .ok (.iload_n 1, 1) := by decide +kernel
theorem dModel_waitingAll_27 : decode prog_14_method_63_code 27 = .ok (.ireturn, 1) := by decide +kernel
theorem dModel_madeAll_0 : decode prog_14_method_64_code 0 = .ok (.iconst 0, 1) := by decide +kernel
theorem dModel_madeAll_1 : decode prog_14_method_64_code 1 = .ok (.istore_n 1, 1) := by decide +kernel
theorem dModel_madeAll_2 : decode prog_14_method_64_code 2 = .ok (.iconst 0, 1) := by decide +kernel
theorem dModel_madeAll_3 : decode prog_14_method_64_code 3 = .ok (.istore_n 2, 1) := by decide +kernel
theorem dModel_madeAll_4 : decode prog_14_method_64_code 4 = .ok (.iload_n 2, 1) := by decide +kernel
theorem dModel_madeAll_5 : decode prog_14_method_64_code 5 = .ok (.aload_n 0, 1) := by decide +kernel
theorem dModel_madeAll_6 : decode prog_14_method_64_code 6 = .ok (.invokevirtual 433, 3) := by decide +kernel
theorem dModel_madeAll_9 : decode prog_14_method_64_code 9 = .ok (.if_icmp .ge 18, 3) := by decide +kernel
theorem dModel_madeAll_12 : decode prog_14_method_64_code 12 = .ok (.iload_n 1, 1) := by decide +kernel
theorem dModel_madeAll_13 : decode prog_14_method_64_code 13 = .ok (.aload_n 0, 1) := by decide +kernel
theorem dModel_madeAll_14 : decode prog_14_method_64_code 14 = .ok (.getfield 469, 3) := by decide +kernel
theorem dModel_madeAll_17 : decode prog_14_method_64_code 17 = .ok (.iload_n 2, 1) := by decide +kernel
theorem dModel_madeAll_18 : decode prog_14_method_64_code 18 = .ok (.iaload, 1) := by decide +kernel
theorem dModel_madeAll_19 : decode prog_14_method_64_code 19 = .ok (.iadd, 1) := by decide +kernel
theorem dModel_madeAll_20 : decode prog_14_method_64_code 20 = .ok (.istore_n 1, 1) := by decide +kernel
theorem dModel_madeAll_21 : decode prog_14_method_64_code 21 = .ok (.iinc 2 1, 3) := by decide +kernel
theorem dModel_madeAll_24 : decode prog_14_method_64_code 24 = .ok (.goto (-20), 3) := by decide +kernel
theorem dModel_madeAll_27 : decode prog_14_method_64_code 27 = .ok (.iload_n 1, 1) := by decide +kernel
theorem dModel_madeAll_28 : decode prog_14_method_64_code 28 = .ok (.ireturn, 1) := by decide +kernel
theorem dModel_priceOf_0 : decode prog_14_method_65_code 0 = .ok (.aload_n 0, 1) := by decide +kernel
theorem dModel_priceOf_1 : decode prog_14_method_65_code 1 = .ok (.getfield 257, 3) := by decide +kernel
theorem dModel_priceOf_4 : decode prog_14_method_65_code 4 = .ok (.iconst 5, 1) := by decide +kernel
theorem dModel_priceOf_5 : decode prog_14_method_65_code 5 = .ok (.aload_n 0, 1) := by decide +kernel
theorem dModel_priceOf_6 : decode prog_14_method_65_code 6 = .ok (.getfield 147, 3) := by decide +kernel
theorem dModel_priceOf_9 : decode prog_14_method_65_code 9 = .ok (.imul, 1) := by decide +kernel
theorem dModel_priceOf_10 : decode prog_14_method_65_code 10 = .ok (.iload_n 1, 1) := by decide +kernel
theorem dModel_priceOf_11 : decode prog_14_method_65_code 11 = .ok (.iadd, 1) := by decide +kernel
theorem dModel_priceOf_12 : decode prog_14_method_65_code 12 = .ok (.iaload, 1) := by decide +kernel
theorem dModel_priceOf_13 : decode prog_14_method_65_code 13 = .ok (.istore_n 2, 1) := by decide +kernel
theorem dModel_priceOf_14 : decode prog_14_method_65_code 14 = .ok (.aload_n 0, 1) := by decide +kernel
theorem dModel_priceOf_15 : decode prog_14_method_65_code 15 = .ok (.getfield 260, 3) := by decide +kernel
theorem dModel_priceOf_18 : decode prog_14_method_65_code 18 = .ok (.iconst 5, 1) := by decide +kernel
theorem dModel_priceOf_19 : decode prog_14_method_65_code 19 = .ok (.aload_n 0, 1) := by decide +kernel
theorem dModel_priceOf_20 : decode prog_14_method_65_code 20 = .ok (.getfield 147, 3) := by decide +kernel
theorem dModel_priceOf_23 : decode prog_14_method_65_code 23 = .ok (.imul, 1) := by decide +kernel
theorem dModel_priceOf_24 : decode prog_14_method_65_code 24 = .ok (.iload_n 1, 1) := by decide +kernel
theorem dModel_priceOf_25 : decode prog_14_method_65_code 25 = .ok (.iadd, 1) := by decide +kernel
theorem dModel_priceOf_26 : decode prog_14_method_65_code 26 = .ok (.iaload, 1) := by decide +kernel
theorem dModel_priceOf_27 : decode prog_14_method_65_code 27 = .ok (.istore_n 3, 1) := by decide +kernel
theorem dModel_priceOf_28 : decode prog_14_method_65_code 28 = .ok (.iload_n 2, 1) := by decide +kernel
theorem dModel_priceOf_29 : decode prog_14_method_65_code 29 = .ok (.ifCond .ne 5, 3) := by decide +kernel
theorem dModel_priceOf_32 : decode prog_14_method_65_code 32 = .ok (.iload_n 3, 1) := by decide +kernel
theorem dModel_priceOf_33 : decode prog_14_method_65_code 33 = .ok (.ireturn, 1) := by decide +kernel
theorem dModel_priceOf_34 : decode prog_14_method_65_code 34 = .ok (.iload_n 3, 1) := by decide +kernel
theorem dModel_priceOf_35 : decode prog_14_method_65_code 35 = .ok (.i2l, 1) := by decide +kernel
theorem dModel_priceOf_36 : decode prog_14_method_65_code 36 = .ok (.ldc2_w 472, 3) := by decide +kernel
theorem dModel_priceOf_39 : decode prog_14_method_65_code 39 = .ok (.iload_n 2, 1) := by decide +kernel
theorem dModel_priceOf_40 : decode prog_14_method_65_code 40 = .ok (.i2l, 1) := by decide +kernel
theorem dModel_priceOf_41 : decode prog_14_method_65_code 41 = .ok (.lmul, 1) := by decide +kernel
theorem dModel_priceOf_42 : decode prog_14_method_65_code 42 = .ok (.aload_n 0, 1) := by decide +kernel
theorem dModel_priceOf_43 : decode prog_14_method_65_code 43 = .ok (.getfield 474, 3) := by decide +kernel
theorem dModel_priceOf_46 : decode prog_14_method_65_code 46 = .ok (.iload_n 1, 1) := by decide +kernel
theorem dModel_priceOf_47 : decode prog_14_method_65_code 47 = .ok (.iaload, 1) := by decide +kernel
theorem dModel_priceOf_48 : decode prog_14_method_65_code 48 = .ok (.i2l, 1) := by decide +kernel
theorem dModel_priceOf_49 : decode prog_14_method_65_code 49 = .ok (.lsub, 1) := by decide +kernel
theorem dModel_priceOf_50 : decode prog_14_method_65_code 50 = .ok (.lmul, 1) := by decide +kernel
theorem dModel_priceOf_51 : decode prog_14_method_65_code 51 = .ok (.iload_n 2, 1) := by decide +kernel
theorem dModel_priceOf_52 : decode prog_14_method_65_code 52 = .ok (.i2l, 1) := by decide +kernel
theorem dModel_priceOf_53 : decode prog_14_method_65_code 53 = .ok (.ldiv, 1) := by decide +kernel
theorem dModel_priceOf_54 : decode prog_14_method_65_code 54 = .ok (.lstore 4, 2) := by decide +kernel
theorem dModel_priceOf_56 : decode prog_14_method_65_code 56 = .ok (.lload 4, 2) := by decide +kernel
theorem dModel_priceOf_58 : decode prog_14_method_65_code 58 = .ok (.iload_n 3, 1) := by decide +kernel
theorem dModel_priceOf_59 : decode prog_14_method_65_code 59 = .ok (.iconst 4, 1) := by decide +kernel
theorem dModel_priceOf_60 : decode prog_14_method_65_code 60 = .ok (.idiv, 1) := by decide +kernel
theorem dModel_priceOf_61 : decode prog_14_method_65_code 61 = .ok (.i2l, 1) := by decide +kernel
theorem dModel_priceOf_62 : decode prog_14_method_65_code 62 = .ok (.lcmp, 1) := by decide +kernel
theorem dModel_priceOf_63 : decode prog_14_method_65_code 63 = .ok (.ifCond .ge 9, 3) := by decide +kernel
theorem dModel_priceOf_66 : decode prog_14_method_65_code 66 = .ok (.iload_n 3, 1) := by decide +kernel
theorem dModel_priceOf_67 : decode prog_14_method_65_code 67 = .ok (.iconst 4, 1) := by decide +kernel
theorem dModel_priceOf_68 : decode prog_14_method_65_code 68 = .ok (.idiv, 1) := by decide +kernel
theorem dModel_priceOf_69 : decode prog_14_method_65_code 69 = .ok (.goto 6, 3) := by decide +kernel
theorem dModel_priceOf_72 : decode prog_14_method_65_code 72 = .ok (.lload 4, 2) := by decide +kernel
theorem dModel_priceOf_74 : decode prog_14_method_65_code 74 = .ok (.l2i, 1) := by decide +kernel
theorem dModel_priceOf_75 : decode prog_14_method_65_code 75 = .ok (.ireturn, 1) := by decide +kernel
theorem dModel_monthsOf_0 : decode prog_14_method_66_code 0 = .ok (.iload_n 0, 1) := by decide +kernel
theorem dModel_monthsOf_1 : decode prog_14_method_66_code 1 = .ok (.bipush 29, 2) := by decide +kernel
theorem dModel_monthsOf_3 : decode prog_14_method_66_code 3 = .ok (.iadd, 1) := by decide +kernel
theorem dModel_monthsOf_4 : decode prog_14_method_66_code 4 = .ok (.bipush 30, 2) := by decide +kernel
theorem dModel_monthsOf_6 : decode prog_14_method_66_code 6 = .ok (.idiv, 1) := by decide +kernel
theorem dModel_monthsOf_7 : decode prog_14_method_66_code 7 = .ok (.ireturn, 1) := by decide +kernel
theorem dModel_atLeastOne_0 : decode prog_14_method_67_code 0 = .ok (.iload_n 0, 1) := by decide +kernel
theorem dModel_atLeastOne_1 : decode prog_14_method_67_code 1 = .ok (.iconst 1, 1) := by decide +kernel
theorem dModel_atLeastOne_2 : decode prog_14_method_67_code 2 = .ok (.if_icmp .ge 7, 3) := by decide +kernel
theorem dModel_atLeastOne_5 : decode prog_14_method_67_code 5 = .ok (.iconst 1, 1) := by decide +kernel
theorem dModel_atLeastOne_6 : decode prog_14_method_67_code 6 = .ok (.goto 4, 3) := by decide +kernel
theorem dModel_atLeastOne_9 : decode prog_14_method_67_code 9 = .ok (.iload_n 0, 1) := by decide +kernel
theorem dModel_atLeastOne_10 : decode prog_14_method_67_code 10 = .ok (.ireturn, 1) := by decide +kernel
theorem dModel_aTwelfth_0 : decode prog_14_method_68_code 0 = .ok (.iconst 0, 1) := by decide +kernel
theorem dModel_aTwelfth_1 : decode prog_14_method_68_code 1 = .ok (.istore_n 2, 1) := by decide +kernel
theorem dModel_aTwelfth_2 : decode prog_14_method_68_code 2 = .ok (.iconst 0, 1) := by decide +kernel
theorem dModel_aTwelfth_3 : decode prog_14_method_68_code 3 = .ok (.istore_n 3, 1) := by decide +kernel
theorem dModel_aTwelfth_4 : decode prog_14_method_68_code 4 = .ok (.iload_n 3, 1) := by decide +kernel
theorem dModel_aTwelfth_5 : decode prog_14_method_68_code 5 = .ok (.bipush 12, 2) := by decide +kernel
theorem dModel_aTwelfth_7 : decode prog_14_method_68_code 7 = .ok (.if_icmp .ge 30, 3) := by decide +kernel
theorem dModel_aTwelfth_10 : decode prog_14_method_68_code 10 = .ok (.iload_n 2, 1) := by decide +kernel
theorem dModel_aTwelfth_11 : decode prog_14_method_68_code 11 = .ok (.aload_n 0, 1) := by decide +kernel
theorem dModel_aTwelfth_12 : decode prog_14_method_68_code 12 = .ok (.getfield 245, 3) := by decide +kernel
theorem dModel_aTwelfth_15 : decode prog_14_method_68_code 15 = .ok (.bipush 12, 2) := by decide +kernel
theorem dModel_aTwelfth_17 : decode prog_14_method_68_code 17 = .ok (.iconst 3, 1) := by decide +kernel
theorem dModel_aTwelfth_18 : decode prog_14_method_68_code 18 = .ok (.aload_n 0, 1) := by decide +kernel
theorem dModel_aTwelfth_19 : decode prog_14_method_68_code 19 = .ok (.getfield 147, 3) := by decide +kernel
theorem dModel_aTwelfth_22 : decode prog_14_method_68_code 22 = .ok (.imul, 1) := by decide +kernel
theorem dModel_aTwelfth_23 : decode prog_14_method_68_code 23 = .ok (.iload_n 1, 1) := by decide +kernel
theorem dModel_aTwelfth_24 : decode prog_14_method_68_code 24 = .ok (.iadd, 1) := by decide +kernel
theorem dModel_aTwelfth_25 : decode prog_14_method_68_code 25 = .ok (.imul, 1) := by decide +kernel
theorem dModel_aTwelfth_26 : decode prog_14_method_68_code 26 = .ok (.iload_n 3, 1) := by decide +kernel
theorem dModel_aTwelfth_27 : decode prog_14_method_68_code 27 = .ok (.iadd, 1) := by decide +kernel
theorem dModel_aTwelfth_28 : decode prog_14_method_68_code 28 = .ok (.iaload, 1) := by decide +kernel
theorem dModel_aTwelfth_29 : decode prog_14_method_68_code 29 = .ok (.iadd, 1) := by decide +kernel
theorem dModel_aTwelfth_30 : decode prog_14_method_68_code 30 = .ok (.istore_n 2, 1) := by decide +kernel
theorem dModel_aTwelfth_31 : decode prog_14_method_68_code 31 = .ok (.iinc 3 1, 3) := by decide +kernel
theorem dModel_aTwelfth_34 : decode prog_14_method_68_code 34 = .ok (.goto (-30), 3) := by decide +kernel
theorem dModel_aTwelfth_37 : decode prog_14_method_68_code 37 = .ok (.iload_n 2, 1) := by decide +kernel
theorem dModel_aTwelfth_38 : decode prog_14_method_68_code 38 = .ok (.bipush 12, 2) := by decide +kernel
theorem dModel_aTwelfth_40 : decode prog_14_method_68_code 40 = .ok (.idiv, 1) := by decide +kernel
theorem dModel_aTwelfth_41 : decode prog_14_method_68_code 41 = .ok (.invokestatic 477, 3) := by decide +kernel
theorem dModel_aTwelfth_44 : decode prog_14_method_68_code 44 = .ok (.ireturn, 1) := by decide +kernel
theorem dModel_worthOf_0 : decode prog_14_method_69_code 0 = .ok (.aload_n 0, 1) := by decide +kernel
theorem dModel_worthOf_1 : decode prog_14_method_69_code 1 = .ok (.iconst (-1), 1) := by decide +kernel
theorem dModel_worthOf_2 : decode prog_14_method_69_code 2 = .ok (.putfield 480, 3) := by decide +kernel
theorem dModel_worthOf_5 : decode prog_14_method_69_code 5 = .ok (.ldc2_w 483, 3) := by decide +kernel
theorem dModel_worthOf_8 : decode prog_14_method_69_code 8 = .ok (.lstore_n 2, 1) := by decide +kernel
theorem dModel_worthOf_9 : decode prog_14_method_69_code 9 = .ok (.aload_n 0, 1) := by decide +kernel
theorem dModel_worthOf_10 : decode prog_14_method_69_code 10 = .ok (.iload_n 1, 1) := by decide +kernel
theorem dModel_worthOf_11 : decode prog_14_method_69_code 11 = .ok (.invokevirtual 466, 3) := by decide +kernel
theorem dModel_worthOf_14 : decode prog_14_method_69_code 14 = .ok (.aload_n 0, 1) := by decide +kernel
theorem dModel_worthOf_15 : decode prog_14_method_69_code 15 = .ok (.iload_n 1, 1) := by decide +kernel
theorem dModel_worthOf_16 : decode prog_14_method_69_code 16 = .ok (.invokevirtual 485, 3) := by decide +kernel
theorem dModel_worthOf_19 : decode prog_14_method_69_code 19 = .ok (.idiv, 1) := by decide +kernel
theorem dModel_worthOf_20 : decode prog_14_method_69_code 20 = .ok (.i2l, 1) := by decide +kernel
theorem dModel_worthOf_21 : decode prog_14_method_69_code 21 = .ok (.lstore 4, 2) := by decide +kernel
theorem dModel_worthOf_23 : decode prog_14_method_69_code 23 = .ok (.iconst 0, 1) := by decide +kernel
theorem dModel_worthOf_24 : decode prog_14_method_69_code 24 = .ok (.istore 6, 2) := by decide +kernel
theorem dModel_worthOf_26 : decode prog_14_method_69_code 26 = .ok (.iload 6, 2) := by decide +kernel
theorem dModel_worthOf_28 : decode prog_14_method_69_code 28 = .ok (.aload_n 0, 1) := by decide +kernel
theorem dModel_worthOf_29 : decode prog_14_method_69_code 29 = .ok (.invokevirtual 488, 3) := by decide +kernel
theorem dModel_worthOf_32 : decode prog_14_method_69_code 32 = .ok (.if_icmp .ge 144, 3) := by decide +kernel
theorem dModel_worthOf_35 : decode prog_14_method_69_code 35 = .ok (.aload_n 0, 1) := by decide +kernel
theorem dModel_worthOf_36 : decode prog_14_method_69_code 36 = .ok (.getfield 269, 3) := by decide +kernel
theorem dModel_worthOf_39 : decode prog_14_method_69_code 39 = .ok (.bipush 16, 2) := by decide +kernel
theorem dModel_worthOf_41 : decode prog_14_method_69_code 41 = .ok (.aload_n 0, 1) := by decide +kernel
theorem dModel_worthOf_42 : decode prog_14_method_69_code 42 = .ok (.iload_n 1, 1) := by decide +kernel
theorem dModel_worthOf_43 : decode prog_14_method_69_code 43 = .ok (.invokevirtual 491, 3) := by decide +kernel
theorem dModel_worthOf_46 : decode prog_14_method_69_code 46 = .ok (.imul, 1) := by decide +kernel
theorem dModel_worthOf_47 : decode prog_14_method_69_code 47 = .ok (.aload_n 0, 1) := by decide +kernel
theorem dModel_worthOf_48 : decode prog_14_method_69_code 48 = .ok (.iload 6, 2) := by decide +kernel
theorem dModel_worthOf_50 : decode prog_14_method_69_code 50 = .ok (.invokevirtual 494, 3) := by decide +kernel
theorem dModel_worthOf_53 : decode prog_14_method_69_code 53 = .ok (.iadd, 1) := by decide +kernel
theorem dModel_worthOf_54 : decode prog_14_method_69_code 54 = .ok (.iaload, 1) := by decide +kernel
theorem dModel_worthOf_55 : decode prog_14_method_69_code 55 = .ok (.istore 7, 2) := by decide +kernel
theorem dModel_worthOf_57 : decode prog_14_method_69_code 57 = .ok (.aload_n 0, 1) := by decide +kernel
theorem dModel_worthOf_58 : decode prog_14_method_69_code 58 = .ok (.getfield 248, 3) := by decide +kernel
theorem dModel_worthOf_61 : decode prog_14_method_69_code 61 = .ok (.iconst 3, 1) := by decide +kernel
theorem dModel_worthOf_62 : decode prog_14_method_69_code 62 = .ok (.aload_n 0, 1) := by decide +kernel
theorem dModel_worthOf_63 : decode prog_14_method_69_code 63 = .ok (.getfield 147, 3) := by decide +kernel
theorem dModel_worthOf_66 : decode prog_14_method_69_code 66 = .ok (.imul, 1) := by decide +kernel
theorem dModel_worthOf_67 : decode prog_14_method_69_code 67 = .ok (.iload_n 1, 1) := by decide +kernel
theorem dModel_worthOf_68 : decode prog_14_method_69_code 68 = .ok (.iadd, 1) := by decide +kernel
theorem dModel_worthOf_69 : decode prog_14_method_69_code 69 = .ok (.iaload, 1) := by decide +kernel
theorem dModel_worthOf_70 : decode prog_14_method_69_code 70 = .ok (.aload_n 0, 1) := by decide +kernel
theorem dModel_worthOf_71 : decode prog_14_method_69_code 71 = .ok (.getfield 254, 3) := by decide +kernel
theorem dModel_worthOf_74 : decode prog_14_method_69_code 74 = .ok (.iconst 5, 1) := by decide +kernel
theorem dModel_worthOf_75 : decode prog_14_method_69_code 75 = .ok (.aload_n 0, 1) := by decide +kernel
theorem dModel_worthOf_76 : decode prog_14_method_69_code 76 = .ok (.getfield 147, 3) := by decide +kernel
theorem dModel_worthOf_79 : decode prog_14_method_69_code 79 = .ok (.imul, 1) := by decide +kernel
theorem dModel_worthOf_80 : decode prog_14_method_69_code 80 = .ok (.iload 6, 2) := by decide +kernel
theorem dModel_worthOf_82 : decode prog_14_method_69_code 82 = .ok (.iadd, 1) := by decide +kernel
theorem dModel_worthOf_83 : decode prog_14_method_69_code 83 = .ok (.iaload, 1) := by decide +kernel
theorem dModel_worthOf_84 : decode prog_14_method_69_code 84 = .ok (.ishr, 1) := by decide +kernel
theorem dModel_worthOf_85 : decode prog_14_method_69_code 85 = .ok (.iconst 1, 1) := by decide +kernel
theorem dModel_worthOf_86 : decode prog_14_method_69_code 86 = .ok (.iand, 1) := by decide +kernel
theorem dModel_worthOf_87 : decode prog_14_method_69_code 87 = .ok (.ifCond .eq 83, 3) := by decide +kernel
theorem dModel_worthOf_90 : decode prog_14_method_69_code 90 = .ok (.iload 7, 2) := by decide +kernel
theorem dModel_worthOf_92 : decode prog_14_method_69_code 92 = .ok (.ldc_w 272, 3) := by decide +kernel
theorem dModel_worthOf_95 : decode prog_14_method_69_code 95 = .ok (.if_icmp .lt 6, 3) := by decide +kernel
theorem dModel_worthOf_98 : decode prog_14_method_69_code 98 = .ok (.goto 72, 3) := by decide +kernel
theorem dModel_worthOf_101 : decode prog_14_method_69_code 101 = .ok (.aload_n 0, 1) := by decide +kernel
theorem dModel_worthOf_102 : decode prog_14_method_69_code 102 = .ok (.iload 6, 2) := by decide +kernel
theorem dModel_worthOf_104 : decode prog_14_method_69_code 104 = .ok (.invokevirtual 497, 3) := by decide +kernel
theorem dModel_worthOf_107 : decode prog_14_method_69_code 107 = .ok (.i2l, 1) := by decide +kernel
theorem dModel_worthOf_108 : decode prog_14_method_69_code 108 = .ok (.aload_n 0, 1) := by decide +kernel
theorem dModel_worthOf_109 : decode prog_14_method_69_code 109 = .ok (.getfield 500, 3) := by decide +kernel
theorem dModel_worthOf_112 : decode prog_14_method_69_code 112 = .ok (.i2l, 1) := by decide +kernel
theorem dModel_worthOf_113 : decode prog_14_method_69_code 113 = .ok (.lsub, 1) := by decide +kernel
theorem dModel_worthOf_114 : decode prog_14_method_69_code 114 = .ok (.iload 7, 2) := by decide +kernel
theorem dModel_worthOf_116 : decode prog_14_method_69_code 116 = .ok (.aload_n 0, 1) := by decide +kernel
theorem dModel_worthOf_117 : decode prog_14_method_69_code 117 = .ok (.getfield 397, 3) := by decide +kernel
theorem dModel_worthOf_120 : decode prog_14_method_69_code 120 = .ok (.imul, 1) := by decide +kernel
theorem dModel_worthOf_121 : decode prog_14_method_69_code 121 = .ok (.bipush 10, 2) := by decide +kernel
theorem dModel_worthOf_123 : decode prog_14_method_69_code 123 = .ok (.idiv, 1) := by decide +kernel
theorem dModel_worthOf_124 : decode prog_14_method_69_code 124 = .ok (.i2l, 1) := by decide +kernel
theorem dModel_worthOf_125 : decode prog_14_method_69_code 125 = .ok (.lsub, 1) := by decide +kernel
theorem dModel_worthOf_126 : decode prog_14_method_69_code 126 = .ok (.aload_n 0, 1) := by decide +kernel
theorem dModel_worthOf_127 : decode prog_14_method_69_code 127 = .ok (.getfield 403, 3) := by decide +kernel
theorem dModel_worthOf_130 : decode prog_14_method_69_code 130 = .ok (.i2l, 1) := by decide +kernel
theorem dModel_worthOf_131 : decode prog_14_method_69_code 131 = .ok (.iload 7, 2) := by decide +kernel
theorem dModel_worthOf_133 : decode prog_14_method_69_code 133 = .ok (.invokestatic 503, 3) := by decide +kernel
theorem dModel_worthOf_136 : decode prog_14_method_69_code 136 = .ok (.i2l, 1) := by decide +kernel
theorem dModel_worthOf_137 : decode prog_14_method_69_code 137 = .ok (.lload 4, 2) := by decide +kernel
theorem dModel_worthOf_139 : decode prog_14_method_69_code 139 = .ok (.ladd, 1) := by decide +kernel
theorem dModel_worthOf_140 : decode prog_14_method_69_code 140 = .ok (.lmul, 1) := by decide +kernel
theorem dModel_worthOf_141 : decode prog_14_method_69_code 141 = .ok (.lsub, 1) := by decide +kernel
theorem dModel_worthOf_142 : decode prog_14_method_69_code 142 = .ok (.lstore 8, 2) := by decide +kernel
theorem dModel_worthOf_144 : decode prog_14_method_69_code 144 = .ok (.aload_n 0, 1) := by decide +kernel
theorem dModel_worthOf_145 : decode prog_14_method_69_code 145 = .ok (.getfield 480, 3) := by decide +kernel
theorem dModel_worthOf_148 : decode prog_14_method_69_code 148 = .ok (.ifCond .lt 13, 3) := by decide +kernel
theorem dModel_worthOf_151 : decode prog_14_method_69_code 151 = .ok (.lload 8, 2) := by decide +kernel
theorem dModel_worthOf_153 : decode prog_14_method_69_code 153 = .ok (.lload_n 2, 1) := by decide +kernel
theorem dModel_worthOf_154 : decode prog_14_method_69_code 154 = .ok (.lcmp, 1) := by decide +kernel
theorem dModel_worthOf_155 : decode prog_14_method_69_code 155 = .ok (.ifCond .gt 6, 3) := by decide +kernel
theorem dModel_worthOf_158 : decode prog_14_method_69_code 158 = .ok (.goto 12, 3) := by decide +kernel
theorem dModel_worthOf_161 : decode prog_14_method_69_code 161 = .ok (.lload 8, 2) := by decide +kernel
theorem dModel_worthOf_163 : decode prog_14_method_69_code 163 = .ok (.lstore_n 2, 1) := by decide +kernel
theorem dModel_worthOf_164 : decode prog_14_method_69_code 164 = .ok (.aload_n 0, 1) := by decide +kernel
theorem dModel_worthOf_165 : decode prog_14_method_69_code 165 = .ok (.iload 6, 2) := by decide +kernel
theorem dModel_worthOf_167 : decode prog_14_method_69_code 167 = .ok (.putfield 480, 3) := by decide +kernel
theorem dModel_worthOf_170 : decode prog_14_method_69_code 170 = .ok (.iinc 6 1, 3) := by decide +kernel
theorem dModel_worthOf_173 : decode prog_14_method_69_code 173 = .ok (.goto (-147), 3) := by decide +kernel
theorem dModel_worthOf_176 : decode prog_14_method_69_code 176 = .ok (.lload_n 2, 1) := by decide +kernel
theorem dModel_worthOf_177 : decode prog_14_method_69_code 177 = .ok (.lreturn, 1) := by decide +kernel
theorem dModel_bestPan_0 : decode prog_14_method_70_code 0 = .ok (.iconst (-1), 1) := by decide +kernel
theorem dModel_bestPan_1 : decode prog_14_method_70_code 1 = .ok (.istore_n 1, 1) := by decide +kernel
theorem dModel_bestPan_2 : decode prog_14_method_70_code 2 = .ok (.aload_n 0, 1) := by decide +kernel
theorem dModel_bestPan_3 : decode prog_14_method_70_code 3 = .ok (.ldc2_w 483, 3) := by decide +kernel
theorem dModel_bestPan_6 : decode prog_14_method_70_code 6 = .ok (.putfield 506, 3) := by decide +kernel
theorem dModel_bestPan_9 : decode prog_14_method_70_code 9 = .ok (.iconst 0, 1) := by decide +kernel
theorem dModel_bestPan_10 : decode prog_14_method_70_code 10 = .ok (.istore_n 2, 1) := by decide +kernel
theorem dModel_bestPan_11 : decode prog_14_method_70_code 11 = .ok (.iload_n 2, 1) := by decide +kernel
theorem dModel_bestPan_12 : decode prog_14_method_70_code 12 = .ok (.aload_n 0, 1) := by decide +kernel
theorem dModel_bestPan_13 : decode prog_14_method_70_code 13 = .ok (.invokevirtual 433, 3) := by decide +kernel
theorem dModel_bestPan_16 : decode prog_14_method_70_code 16 = .ok (.if_icmp .ge 45, 3) := by decide +kernel
theorem dModel_bestPan_19 : decode prog_14_method_70_code 19 = .ok (.aload_n 0, 1) := by decide +kernel
theorem dModel_bestPan_20 : decode prog_14_method_70_code 20 = .ok (.iload_n 2, 1) := by decide +kernel
theorem dModel_bestPan_21 : decode prog_14_method_70_code 21 = .ok (.invokevirtual 509, 3) := by decide +kernel
theorem dModel_bestPan_24 : decode prog_14_method_70_code 24 = .ok (.lstore_n 3, 1) := by decide +kernel
theorem dModel_bestPan_25 : decode prog_14_method_70_code 25 = .ok (.aload_n 0, 1) := by decide +kernel
theorem dModel_bestPan_26 : decode prog_14_method_70_code 26 = .ok (.getfield 480, 3) := by decide +kernel
theorem dModel_bestPan_29 : decode prog_14_method_70_code 29 = .ok (.ifCond .lt 26, 3) := by decide +kernel
theorem dModel_bestPan_32 : decode prog_14_method_70_code 32 = .ok (.iload_n 1, 1) := by decide +kernel
theorem dModel_bestPan_33 : decode prog_14_method_70_code 33 = .ok (.ifCond .lt 15, 3) := by decide +kernel
theorem dModel_bestPan_36 : decode prog_14_method_70_code 36 = .ok (.lload_n 3, 1) := by decide +kernel
theorem dModel_bestPan_37 : decode prog_14_method_70_code 37 = .ok (.aload_n 0, 1) := by decide +kernel
theorem dModel_bestPan_38 : decode prog_14_method_70_code 38 = .ok (.getfield 506, 3) := by decide +kernel
theorem dModel_bestPan_41 : decode prog_14_method_70_code 41 = .ok (.lcmp, 1) := by decide +kernel
theorem dModel_bestPan_42 : decode prog_14_method_70_code 42 = .ok (.ifCond .gt 6, 3) := by decide +kernel
theorem dModel_bestPan_45 : decode prog_14_method_70_code 45 = .ok (.goto 10, 3) := by decide +kernel
theorem dModel_bestPan_48 : decode prog_14_method_70_code 48 = .ok (.iload_n 2, 1) := by decide +kernel
theorem dModel_bestPan_49 : decode prog_14_method_70_code 49 = .ok (.istore_n 1, 1) := by decide +kernel
theorem dModel_bestPan_50 : decode prog_14_method_70_code 50 = .ok (.aload_n 0, 1) := by decide +kernel
theorem dModel_bestPan_51 : decode prog_14_method_70_code 51 = .ok (.lload_n 3, 1) := by decide +kernel
theorem dModel_bestPan_52 : decode prog_14_method_70_code 52 = .ok (.putfield 506, 3) := by decide +kernel
theorem dModel_bestPan_55 : decode prog_14_method_70_code 55 = .ok (.iinc 2 1, 3) := by decide +kernel
theorem dModel_bestPan_58 : decode prog_14_method_70_code 58 = .ok (.goto (-47), 3) := by decide +kernel
theorem dModel_bestPan_61 : decode prog_14_method_70_code 61 = .ok (.iload_n 1, 1) := by decide +kernel
theorem dModel_bestPan_62 : decode prog_14_method_70_code 62 = .ok (.ireturn, 1) := by decide +kernel
theorem dModel_rateFor_0 : decode prog_14_method_71_code 0 = .ok (.aload_n 0, 1) := by decide +kernel
theorem dModel_rateFor_1 : decode prog_14_method_71_code 1 = .ok (.aload_n 0, 1) := by decide +kernel
theorem dModel_rateFor_2 : decode prog_14_method_71_code 2 = .ok (.getfield 513, 3) := by decide +kernel
theorem dModel_rateFor_5 : decode prog_14_method_71_code 5 = .ok (.iload_n 1, 1) := by decide +kernel
theorem dModel_rateFor_6 : decode prog_14_method_71_code 6 = .ok (.iaload, 1) := by decide +kernel
theorem dModel_rateFor_7 : decode prog_14_method_71_code 7 = .ok (.putfield 357, 3) := by decide +kernel
theorem dModel_rateFor_10 : decode prog_14_method_71_code 10 = .ok (.aload_n 0, 1) := by decide +kernel
theorem dModel_rateFor_11 : decode prog_14_method_71_code 11 = .ok (.getfield 236, 3) := by decide +kernel
theorem dModel_rateFor_14 : decode prog_14_method_71_code 14 = .ok (.iconst 3, 1) := by decide +kernel
theorem dModel_rateFor_15 : decode prog_14_method_71_code 15 = .ok (.aload_n 0, 1) := by decide +kernel
theorem dModel_rateFor_16 : decode prog_14_method_71_code 16 = .ok (.getfield 147, 3) := by decide +kernel
theorem dModel_rateFor_19 : decode prog_14_method_71_code 19 = .ok (.imul, 1) := by decide +kernel
theorem dModel_rateFor_20 : decode prog_14_method_71_code 20 = .ok (.iload_n 1, 1) := by decide +kernel
theorem dModel_rateFor_21 : decode prog_14_method_71_code 21 = .ok (.iadd, 1) := by decide +kernel
theorem dModel_rateFor_22 : decode prog_14_method_71_code 22 = .ok (.iaload, 1) := by decide +kernel
theorem dModel_rateFor_23 : decode prog_14_method_71_code 23 = .ok (.istore_n 3, 1) := by decide +kernel
theorem dModel_rateFor_24 : decode prog_14_method_71_code 24 = .ok (.aload_n 0, 1) := by decide +kernel
theorem dModel_rateFor_25 : decode prog_14_method_71_code 25 = .ok (.iload_n 3, 1) := by decide +kernel
theorem dModel_rateFor_26 : decode prog_14_method_71_code 26 = .ok (.ifCond .ne 9, 3) := by decide +kernel
theorem dModel_rateFor_29 : decode prog_14_method_71_code 29 = .ok (.sipush 9999, 3) := by decide +kernel
theorem dModel_rateFor_32 : decode prog_14_method_71_code 32 = .ok (.goto 11, 3) := by decide +kernel
theorem dModel_rateFor_35 : decode prog_14_method_71_code 35 = .ok (.aload_n 0, 1) := by decide +kernel
theorem dModel_rateFor_36 : decode prog_14_method_71_code 36 = .ok (.getfield 513, 3) := by decide +kernel
theorem dModel_rateFor_39 : decode prog_14_method_71_code 39 = .ok (.iload_n 1, 1) := by decide +kernel
theorem dModel_rateFor_40 : decode prog_14_method_71_code 40 = .ok (.iaload, 1) := by decide +kernel
theorem dModel_rateFor_41 : decode prog_14_method_71_code 41 = .ok (.iload_n 3, 1) := by decide +kernel
theorem dModel_rateFor_42 : decode prog_14_method_71_code 42 = .ok (.idiv, 1) := by decide +kernel
theorem dModel_rateFor_43 : decode prog_14_method_71_code 43 = .ok (.putfield 360, 3) := by decide +kernel
theorem dModel_rateFor_46 : decode prog_14_method_71_code 46 = .ok (.aload_n 0, 1) := by decide +kernel
theorem dModel_rateFor_47 : decode prog_14_method_71_code 47 = .ok (.iload_n 2, 1) := by decide +kernel
theorem dModel_rateFor_48 : decode prog_14_method_71_code 48 = .ok (.putfield 363, 3) := by decide +kernel
theorem dModel_rateFor_51 : decode prog_14_method_71_code 51 = .ok (.aload_n 0, 1) := by decide +kernel
theorem dModel_rateFor_52 : decode prog_14_method_71_code 52 = .ok (.aload_n 0, 1) := by decide +kernel
theorem dModel_rateFor_53 : decode prog_14_method_71_code 53 = .ok (.getfield 516, 3) := by decide +kernel
theorem dModel_rateFor_56 : decode prog_14_method_71_code 56 = .ok (.iconst 0, 1) := by decide +kernel
theorem dModel_rateFor_57 : decode prog_14_method_71_code 57 = .ok (.invokevirtual 519, 3) := by decide +kernel
theorem dModel_rateFor_60 : decode prog_14_method_71_code 60 = .ok (.ireturn, 1) := by decide +kernel
theorem dModel_isDead_0 : decode prog_14_method_72_code 0 = .ok (.aload_n 0, 1) := by decide +kernel
theorem dModel_isDead_1 : decode prog_14_method_72_code 1 = .ok (.getfield 522, 3) := by decide +kernel
theorem dModel_isDead_4 : decode prog_14_method_72_code 4 = .ok (.iload_n 1, 1) := by decide +kernel
theorem dModel_isDead_5 : decode prog_14_method_72_code 5 = .ok (.iaload, 1) := by decide +kernel
theorem dModel_isDead_6 : decode prog_14_method_72_code 6 = .ok (.aload_n 0, 1) := by decide +kernel
theorem dModel_isDead_7 : decode prog_14_method_72_code 7 = .ok (.getfield 348, 3) := by decide +kernel
theorem dModel_isDead_10 : decode prog_14_method_72_code 10 = .ok (.if_icmp .gt 7, 3) := by decide +kernel
theorem dModel_isDead_13 : decode prog_14_method_72_code 13 = .ok (.iconst 1, 1) := by decide +kernel
theorem dModel_isDead_14 : decode prog_14_method_72_code 14 = .ok (.goto 4, 3) := by decide +kernel
theorem dModel_isDead_17 : decode prog_14_method_72_code 17 = .ok (.iconst 0, 1) := by decide +kernel
theorem dModel_isDead_18 : decode prog_14_method_72_code 18 = .ok (.ireturn, 1) := by decide +kernel
theorem dModel_give_0 : decode prog_14_method_73_code 0 = .ok (.iload_n 3, 1) := by decide +kernel
theorem dModel_give_1 : decode prog_14_method_73_code 1 = .ok (.ifCond .ne 4, 3) := by decide +kernel
theorem dModel_give_4 : decode prog_14_method_73_code 4 = .ok (.return_, 1) := by decide +kernel
theorem dModel_give_5 : decode prog_14_method_73_code 5 = .ok (.aload_n 0, 1) := by decide +kernel
theorem dModel_give_6 : decode prog_14_method_73_code 6 = .ok (.getfield 454, 3) := by decide +kernel
theorem dModel_give_9 : decode prog_14_method_73_code 9 = .ok (.istore 6, 2) := by decide +kernel
theorem dModel_give_11 : decode prog_14_method_73_code 11 = .ok (.aload_n 0, 1) := by decide +kernel
theorem dModel_give_12 : decode prog_14_method_73_code 12 = .ok (.getfield 525, 3) := by decide +kernel
theorem dModel_give_15 : decode prog_14_method_73_code 15 = .ok (.iload 6, 2) := by decide +kernel
theorem dModel_give_17 : decode prog_14_method_73_code 17 = .ok (.iload_n 1, 1) := by decide +kernel
theorem dModel_give_18 : decode prog_14_method_73_code 18 = .ok (.iastore, 1) := by decide +kernel
theorem dModel_give_19 : decode prog_14_method_73_code 19 = .ok (.aload_n 0, 1) := by decide +kernel
theorem dModel_give_20 : decode prog_14_method_73_code 20 = .ok (.getfield 457, 3) := by decide +kernel
theorem dModel_give_23 : decode prog_14_method_73_code 23 = .ok (.iload 6, 2) := by decide +kernel
theorem dModel_give_25 : decode prog_14_method_73_code 25 = .ok (.iload_n 2, 1) := by decide +kernel
theorem dModel_give_26 : decode prog_14_method_73_code 26 = .ok (.iastore, 1) := by decide +kernel
theorem dModel_give_27 : decode prog_14_method_73_code 27 = .ok (.aload_n 0, 1) := by decide +kernel
theorem dModel_give_28 : decode prog_14_method_73_code 28 = .ok (.getfield 463, 3) := by decide +kernel
theorem dModel_give_31 : decode prog_14_method_73_code 31 = .ok (.iload 6, 2) := by decide +kernel
theorem dModel_give_33 : decode prog_14_method_73_code 33 = .ok (.iload_n 3, 1) := by decide +kernel
theorem dModel_give_34 : decode prog_14_method_73_code 34 = .ok (.iastore, 1) := by decide +kernel
theorem dModel_give_35 : decode prog_14_method_73_code 35 = .ok (.aload_n 0, 1) := by decide +kernel
theorem dModel_give_36 : decode prog_14_method_73_code 36 = .ok (.getfield 528, 3) := by decide +kernel
theorem dModel_give_39 : decode prog_14_method_73_code 39 = .ok (.iload 6, 2) := by decide +kernel
theorem dModel_give_41 : decode prog_14_method_73_code 41 = .ok (.aload_n 0, 1) := by decide +kernel
theorem dModel_give_42 : decode prog_14_method_73_code 42 = .ok (.getfield 348, 3) := by decide +kernel
theorem dModel_give_45 : decode prog_14_method_73_code 45 = .ok (.iastore, 1) := by decide +kernel
theorem dModel_give_46 : decode prog_14_method_73_code 46 = .ok (.aload_n 0, 1) := by decide +kernel
theorem dModel_give_47 : decode prog_14_method_73_code 47 = .ok (.getfield 531, 3) := by decide +kernel
theorem dModel_give_50 : decode prog_14_method_73_code 50 = .ok (.iload 6, 2) := by decide +kernel
theorem dModel_give_52 : decode prog_14_method_73_code 52 = .ok (.iload 4, 2) := by decide +kernel
theorem dModel_give_54 : decode prog_14_method_73_code 54 = .ok (.iastore, 1) := by decide +kernel
theorem dModel_give_55 : decode prog_14_method_73_code 55 = .ok (.aload_n 0, 1) := by decide +kernel
theorem dModel_give_56 : decode prog_14_method_73_code 56 = .ok (.getfield 447, 3) := by decide +kernel
theorem dModel_give_59 : decode prog_14_method_73_code 59 = .ok (.iload 6, 2) := by decide +kernel
theorem dModel_give_61 : decode prog_14_method_73_code 61 = .ok (.iconst (-1), 1) := by decide +kernel
theorem dModel_give_62 : decode prog_14_method_73_code 62 = .ok (.iastore, 1) := by decide +kernel
theorem dModel_give_63 : decode prog_14_method_73_code 63 = .ok (.aload_n 0, 1) := by decide +kernel
theorem dModel_give_64 : decode prog_14_method_73_code 64 = .ok (.getfield 534, 3) := by decide +kernel
theorem dModel_give_67 : decode prog_14_method_73_code 67 = .ok (.iload 6, 2) := by decide +kernel
theorem dModel_give_69 : decode prog_14_method_73_code 69 = .ok (.iload 5, 2) := by decide +kernel
theorem dModel_give_71 : decode prog_14_method_73_code 71 = .ok (.bastore, 1) := by decide +kernel
theorem dModel_give_72 : decode prog_14_method_73_code 72 = .ok (.aload_n 0, 1) := by decide +kernel
theorem dModel_give_73 : decode prog_14_method_73_code 73 = .ok (.getfield 450, 3) := by decide +kernel
theorem dModel_give_76 : decode prog_14_method_73_code 76 = .ok (.iload 6, 2) := by decide +kernel
theorem dModel_give_78 : decode prog_14_method_73_code 78 = .ok (.iconst 0, 1) := by decide +kernel
theorem dModel_give_79 : decode prog_14_method_73_code 79 = .ok (.bastore, 1) := by decide +kernel
theorem dModel_give_80 : decode prog_14_method_73_code 80 = .ok (.aload_n 0, 1) := by decide +kernel
theorem dModel_give_81 : decode prog_14_method_73_code 81 = .ok (.dup, 1) := by decide +kernel
theorem dModel_give_82 : decode prog_14_method_73_code 82 = .ok (.getfield 454, 3) := by decide +kernel
theorem dModel_give_85 : decode prog_14_method_73_code 85 = .ok (.iconst 1, 1) := by decide +kernel
theorem dModel_give_86 : decode prog_14_method_73_code 86 = .ok (.iadd, 1) := by decide +kernel
theorem dModel_give_87 : decode prog_14_method_73_code 87 = .ok (.putfield 454, 3) := by decide +kernel
theorem dModel_give_90 : decode prog_14_method_73_code 90 = .ok (.aload_n 0, 1) := by decide +kernel
theorem dModel_give_91 : decode prog_14_method_73_code 91 = .ok (.iload 6, 2) := by decide +kernel
theorem dModel_give_93 : decode prog_14_method_73_code 93 = .ok (.invokevirtual 537, 3) := by decide +kernel
theorem dModel_give_96 : decode prog_14_method_73_code 96 = .ok (.return_, 1) := by decide +kernel
theorem dModel_forge_0 : decode prog_14_method_74_code 0 = .ok (.iconst 0, 1) := by decide +kernel
theorem dModel_forge_1 : decode prog_14_method_74_code 1 = .ok (.istore_n 2, 1) := by decide +kernel
theorem dModel_forge_2 : decode prog_14_method_74_code 2 = .ok (.iload_n 2, 1) := by decide +kernel
theorem dModel_forge_3 : decode prog_14_method_74_code 3 = .ok (.aload_n 0, 1) := by decide +kernel
theorem dModel_forge_4 : decode prog_14_method_74_code 4 = .ok (.getfield 169, 3) := by decide +kernel
theorem dModel_forge_7 : decode prog_14_method_74_code 7 = .ok (.if_icmp .ge 57, 3) := by decide +kernel
theorem dModel_forge_10 : decode prog_14_method_74_code 10 = .ok (.aload_n 0, 1) := by decide +kernel
theorem dModel_forge_11 : decode prog_14_method_74_code 11 = .ok (.iload_n 2, 1) := by decide +kernel
theorem dModel_forge_12 : decode prog_14_method_74_code 12 = .ok (.iconst 1, 1) := by decide +kernel
theorem dModel_forge_13 : decode prog_14_method_74_code 13 = .ok (.invokevirtual 541, 3) := by decide +kernel
theorem dModel_forge_16 : decode prog_14_method_74_code 16 = .ok (.ifCond .eq 42, 3) := by decide +kernel
theorem dModel_forge_19 : decode prog_14_method_74_code 19 = .ok (.aload_n 0, 1) := by decide +kernel
theorem dModel_forge_20 : decode prog_14_method_74_code 20 = .ok (.getfield 415, 3) := by decide +kernel
theorem dModel_forge_23 : decode prog_14_method_74_code 23 = .ok (.iload_n 2, 1) := by decide +kernel
theorem dModel_forge_24 : decode prog_14_method_74_code 24 = .ok (.iaload, 1) := by decide +kernel
theorem dModel_forge_25 : decode prog_14_method_74_code 25 = .ok (.iload_n 1, 1) := by decide +kernel
theorem dModel_forge_26 : decode prog_14_method_74_code 26 = .ok (.if_icmp .ne 32, 3) := by decide +kernel
theorem dModel_forge_29 : decode prog_14_method_74_code 29 = .ok (.aload_n 0, 1) := by decide +kernel
theorem dModel_forge_30 : decode prog_14_method_74_code 30 = .ok (.getfield 418, 3) := by decide +kernel
theorem dModel_forge_33 : decode prog_14_method_74_code 33 = .ok (.iload_n 2, 1) := by decide +kernel
theorem dModel_forge_34 : decode prog_14_method_74_code 34 = .ok (.iaload, 1) := by decide +kernel
theorem dModel_forge_35 : decode prog_14_method_74_code 35 = .ok (.aload_n 0, 1) := by decide +kernel
theorem dModel_forge_36 : decode prog_14_method_74_code 36 = .ok (.getfield 348, 3) := by decide +kernel
theorem dModel_forge_39 : decode prog_14_method_74_code 39 = .ok (.if_icmp .gt 19, 3) := by decide +kernel
theorem dModel_forge_42 : decode prog_14_method_74_code 42 = .ok (.aload_n 0, 1) := by decide +kernel
theorem dModel_forge_43 : decode prog_14_method_74_code 43 = .ok (.getfield 447, 3) := by decide +kernel
theorem dModel_forge_46 : decode prog_14_method_74_code 46 = .ok (.iload_n 1, 1) := by decide +kernel
theorem dModel_forge_47 : decode prog_14_method_74_code 47 = .ok (.iaload, 1) := by decide +kernel
theorem dModel_forge_48 : decode prog_14_method_74_code 48 = .ok (.ifCond .ge 10, 3) := by decide +kernel
theorem dModel_forge_51 : decode prog_14_method_74_code 51 = .ok (.aload_n 0, 1) := by decide +kernel
theorem dModel_forge_52 : decode prog_14_method_74_code 52 = .ok (.getfield 450, 3) := by decide +kernel
theorem dModel_forge_55 : decode prog_14_method_74_code 55 = .ok (.iload_n 1, 1) := by decide +kernel
theorem dModel_forge_56 : decode prog_14_method_74_code 56 = .ok (.iconst 1, 1) := by decide +kernel
theorem dModel_forge_57 : decode prog_14_method_74_code 57 = .ok (.bastore, 1) := by decide +kernel
theorem dModel_forge_58 : decode prog_14_method_74_code 58 = .ok (.iinc 2 1, 3) := by decide +kernel
theorem dModel_forge_61 : decode prog_14_method_74_code 61 = .ok (.goto (-59), 3) := by decide +kernel
theorem dModel_forge_64 : decode prog_14_method_74_code 64 = .ok (.return_, 1) := by decide +kernel
theorem dModel_send_0 : decode prog_14_method_75_code 0 = .ok (.aload_n 0, 1) := by decide +kernel
theorem dModel_send_1 : decode prog_14_method_75_code 1 = .ok (.getfield 545, 3) := by decide +kernel
theorem dModel_send_4 : decode prog_14_method_75_code 4 = .ok (.aload_n 0, 1) := by decide +kernel
theorem dModel_send_5 : decode prog_14_method_75_code 5 = .ok (.getfield 548, 3) := by decide +kernel
theorem dModel_send_8 : decode prog_14_method_75_code 8 = .ok (.iload_n 1, 1) := by decide +kernel
theorem dModel_send_9 : decode prog_14_method_75_code 9 = .ok (.iastore, 1) := by decide +kernel
theorem dModel_send_10 : decode prog_14_method_75_code 10 = .ok (.aload_n 0, 1) := by decide +kernel
theorem dModel_send_11 : decode prog_14_method_75_code 11 = .ok (.getfield 551, 3) := by decide +kernel
theorem dModel_send_14 : decode prog_14_method_75_code 14 = .ok (.aload_n 0, 1) := by decide +kernel
theorem dModel_send_15 : decode prog_14_method_75_code 15 = .ok (.getfield 548, 3) := by decide +kernel
theorem dModel_send_18 : decode prog_14_method_75_code 18 = .ok (.aload_n 0, 1) := by decide +kernel
theorem dModel_send_19 : decode prog_14_method_75_code 19 = .ok (.getfield 348, 3) := by decide +kernel
theorem dModel_send_22 : decode prog_14_method_75_code 22 = .ok (.iload_n 2, 1) := by decide +kernel
theorem dModel_send_23 : decode prog_14_method_75_code 23 = .ok (.invokestatic 503, 3) := by decide +kernel
theorem dModel_send_26 : decode prog_14_method_75_code 26 = .ok (.invokestatic 477, 3) := by decide +kernel
theorem dModel_send_29 : decode prog_14_method_75_code 29 = .ok (.iadd, 1) := by decide +kernel
theorem dModel_send_30 : decode prog_14_method_75_code 30 = .ok (.iastore, 1) := by decide +kernel
theorem dModel_send_31 : decode prog_14_method_75_code 31 = .ok (.aload_n 0, 1) := by decide +kernel
theorem dModel_send_32 : decode prog_14_method_75_code 32 = .ok (.getfield 554, 3) := by decide +kernel
theorem dModel_send_35 : decode prog_14_method_75_code 35 = .ok (.aload_n 0, 1) := by decide +kernel
theorem dModel_send_36 : decode prog_14_method_75_code 36 = .ok (.getfield 548, 3) := by decide +kernel
theorem dModel_send_39 : decode prog_14_method_75_code 39 = .ok (.iload_n 3, 1) := by decide +kernel
theorem dModel_send_40 : decode prog_14_method_75_code 40 = .ok (.bastore, 1) := by decide +kernel
theorem dModel_send_41 : decode prog_14_method_75_code 41 = .ok (.aload_n 0, 1) := by decide +kernel
theorem dModel_send_42 : decode prog_14_method_75_code 42 = .ok (.getfield 557, 3) := by decide +kernel
theorem dModel_send_45 : decode prog_14_method_75_code 45 = .ok (.aload_n 0, 1) := by decide +kernel
theorem dModel_send_46 : decode prog_14_method_75_code 46 = .ok (.getfield 548, 3) := by decide +kernel
theorem dModel_send_49 : decode prog_14_method_75_code 49 = .ok (.iload 4, 2) := by decide +kernel
theorem dModel_send_51 : decode prog_14_method_75_code 51 = .ok (.iastore, 1) := by decide +kernel
theorem dModel_send_52 : decode prog_14_method_75_code 52 = .ok (.aload_n 0, 1) := by decide +kernel
theorem dModel_send_53 : decode prog_14_method_75_code 53 = .ok (.getfield 560, 3) := by decide +kernel
theorem dModel_send_56 : decode prog_14_method_75_code 56 = .ok (.aload_n 0, 1) := by decide +kernel
theorem dModel_send_57 : decode prog_14_method_75_code 57 = .ok (.getfield 548, 3) := by decide +kernel
theorem dModel_send_60 : decode prog_14_method_75_code 60 = .ok (.iload 5, 2) := by decide +kernel
theorem dModel_send_62 : decode prog_14_method_75_code 62 = .ok (.iastore, 1) := by decide +kernel
theorem dModel_send_63 : decode prog_14_method_75_code 63 = .ok (.aload_n 0, 1) := by decide +kernel
theorem dModel_send_64 : decode prog_14_method_75_code 64 = .ok (.getfield 563, 3) := by decide +kernel
theorem dModel_send_67 : decode prog_14_method_75_code 67 = .ok (.aload_n 0, 1) := by decide +kernel
theorem dModel_send_68 : decode prog_14_method_75_code 68 = .ok (.getfield 548, 3) := by decide +kernel
theorem dModel_send_71 : decode prog_14_method_75_code 71 = .ok (.iload 6, 2) := by decide +kernel
theorem dModel_send_73 : decode prog_14_method_75_code 73 = .ok (.iastore, 1) := by decide +kernel
theorem dModel_send_74 : decode prog_14_method_75_code 74 = .ok (.aload_n 0, 1) := by decide +kernel
theorem dModel_send_75 : decode prog_14_method_75_code 75 = .ok (.getfield 566, 3) := by decide +kernel
theorem dModel_send_78 : decode prog_14_method_75_code 78 = .ok (.aload_n 0, 1) := by decide +kernel
theorem dModel_send_79 : decode prog_14_method_75_code 79 = .ok (.getfield 548, 3) := by decide +kernel
theorem dModel_send_82 : decode prog_14_method_75_code 82 = .ok (.iload 7, 2) := by decide +kernel
theorem dModel_send_84 : decode prog_14_method_75_code 84 = .ok (.iastore, 1) := by decide +kernel
theorem dModel_send_85 : decode prog_14_method_75_code 85 = .ok (.aload_n 0, 1) := by decide +kernel
theorem dModel_send_86 : decode prog_14_method_75_code 86 = .ok (.getfield 569, 3) := by decide +kernel
theorem dModel_send_89 : decode prog_14_method_75_code 89 = .ok (.aload_n 0, 1) := by decide +kernel
theorem dModel_send_90 : decode prog_14_method_75_code 90 = .ok (.getfield 548, 3) := by decide +kernel
theorem dModel_send_93 : decode prog_14_method_75_code 93 = .ok (.iload_n 2, 1) := by decide +kernel
theorem dModel_send_94 : decode prog_14_method_75_code 94 = .ok (.iastore, 1) := by decide +kernel
theorem dModel_send_95 : decode prog_14_method_75_code 95 = .ok (.aload_n 0, 1) := by decide +kernel
theorem dModel_send_96 : decode prog_14_method_75_code 96 = .ok (.dup, 1) := by decide +kernel
theorem dModel_send_97 : decode prog_14_method_75_code 97 = .ok (.getfield 548, 3) := by decide +kernel
theorem dModel_send_100 : decode prog_14_method_75_code 100 = .ok (.iconst 1, 1) := by decide +kernel
theorem dModel_send_101 : decode prog_14_method_75_code 101 = .ok (.iadd, 1) := by decide +kernel
theorem dModel_send_102 : decode prog_14_method_75_code 102 = .ok (.putfield 548, 3) := by decide +kernel
theorem dModel_send_105 : decode prog_14_method_75_code 105 = .ok (.return_, 1) := by decide +kernel
theorem dModel_beginMonth_0 : decode prog_14_method_76_code 0 = .ok (.iconst 0, 1) := by decide +kernel
theorem dModel_beginMonth_1 : decode prog_14_method_76_code 1 = .ok (.istore_n 1, 1) := by decide +kernel
theorem dModel_beginMonth_2 : decode prog_14_method_76_code 2 = .ok (.iload_n 1, 1) := by decide +kernel
theorem dModel_beginMonth_3 : decode prog_14_method_76_code 3 = .ok (.aload_n 0, 1) := by decide +kernel
theorem dModel_beginMonth_4 : decode prog_14_method_76_code 4 = .ok (.getfield 387, 3) := by decide +kernel
theorem dModel_beginMonth_7 : decode prog_14_method_76_code 7 = .ok (.if_icmp .ge 27, 3) := by decide +kernel
theorem dModel_beginMonth_10 : decode prog_14_method_76_code 10 = .ok (.aload_n 0, 1) := by decide +kernel
theorem dModel_beginMonth_11 : decode prog_14_method_76_code 11 = .ok (.getfield 522, 3) := by decide +kernel
theorem dModel_beginMonth_14 : decode prog_14_method_76_code 14 = .ok (.iload_n 1, 1) := by decide +kernel
theorem dModel_beginMonth_15 : decode prog_14_method_76_code 15 = .ok (.iaload, 1) := by decide +kernel
theorem dModel_beginMonth_16 : decode prog_14_method_76_code 16 = .ok (.aload_n 0, 1) := by decide +kernel
theorem dModel_beginMonth_17 : decode prog_14_method_76_code 17 = .ok (.getfield 348, 3) := by decide +kernel
theorem dModel_beginMonth_20 : decode prog_14_method_76_code 20 = .ok (.if_icmp .ne 8, 3) := by decide +kernel
theorem dModel_beginMonth_23 : decode prog_14_method_76_code 23 = .ok (.aload_n 0, 1) := by decide +kernel
theorem dModel_beginMonth_24 : decode prog_14_method_76_code 24 = .ok (.iload_n 1, 1) := by decide +kernel
theorem dModel_beginMonth_25 : decode prog_14_method_76_code 25 = .ok (.invokevirtual 572, 3) := by decide +kernel
theorem dModel_beginMonth_28 : decode prog_14_method_76_code 28 = .ok (.iinc 1 1, 3) := by decide +kernel
theorem dModel_beginMonth_31 : decode prog_14_method_76_code 31 = .ok (.goto (-29), 3) := by decide +kernel
theorem dModel_beginMonth_34 : decode prog_14_method_76_code 34 = .ok (.iconst 0, 1) := by decide +kernel
theorem dModel_beginMonth_35 : decode prog_14_method_76_code 35 = .ok (.istore_n 1, 1) := by decide +kernel
theorem dModel_beginMonth_36 : decode prog_14_method_76_code 36 = .ok (.iload_n 1, 1) := by decide +kernel
theorem dModel_beginMonth_37 : decode prog_14_method_76_code 37 = .ok (.aload_n 0, 1) := by decide +kernel
theorem dModel_beginMonth_38 : decode prog_14_method_76_code 38 = .ok (.getfield 454, 3) := by decide +kernel
theorem dModel_beginMonth_41 : decode prog_14_method_76_code 41 = .ok (.if_icmp .ge 14, 3) := by decide +kernel
theorem dModel_beginMonth_44 : decode prog_14_method_76_code 44 = .ok (.aload_n 0, 1) := by decide +kernel
theorem dModel_beginMonth_45 : decode prog_14_method_76_code 45 = .ok (.iload_n 1, 1) := by decide +kernel
theorem dModel_beginMonth_46 : decode prog_14_method_76_code 46 = .ok (.invokevirtual 537, 3) := by decide +kernel
theorem dModel_beginMonth_49 : decode prog_14_method_76_code 49 = .ok (.iinc 1 1, 3) := by decide +kernel
theorem dModel_beginMonth_52 : decode prog_14_method_76_code 52 = .ok (.goto (-16), 3) := by decide +kernel
theorem dModel_beginMonth_55 : decode prog_14_method_76_code 55 = .ok (.return_, 1) := by decide +kernel
theorem dModel_bury_0 : decode prog_14_method_77_code 0 = .ok (.aload_n 0, 1) := by decide +kernel
theorem dModel_bury_1 : decode prog_14_method_77_code 1 = .ok (.getfield 575, 3) := by decide +kernel
theorem dModel_bury_4 : decode prog_14_method_77_code 4 = .ok (.iload_n 1, 1) := by decide +kernel
theorem dModel_bury_5 : decode prog_14_method_77_code 5 = .ok (.iaload, 1) := by decide +kernel
theorem dModel_bury_6 : decode prog_14_method_77_code 6 = .ok (.ifCond .lt 30, 3) := by decide +kernel
theorem dModel_bury_9 : decode prog_14_method_77_code 9 = .ok (.aload_n 0, 1) := by decide +kernel
theorem dModel_bury_10 : decode prog_14_method_77_code 10 = .ok (.getfield 522, 3) := by decide +kernel
theorem dModel_bury_13 : decode prog_14_method_77_code 13 = .ok (.aload_n 0, 1) := by decide +kernel
theorem dModel_bury_14 : decode prog_14_method_77_code 14 = .ok (.getfield 575, 3) := by decide +kernel
theorem dModel_bury_17 : decode prog_14_method_77_code 17 = .ok (.iload_n 1, 1) := by decide +kernel
theorem dModel_bury_18 : decode prog_14_method_77_code 18 = .ok (.iaload, 1) := by decide +kernel
theorem dModel_bury_19 : decode prog_14_method_77_code 19 = .ok (.iaload, 1) := by decide +kernel
theorem dModel_bury_20 : decode prog_14_method_77_code 20 = .ok (.aload_n 0, 1) := by decide +kernel
theorem dModel_bury_21 : decode prog_14_method_77_code 21 = .ok (.getfield 348, 3) := by decide +kernel
theorem dModel_bury_24 : decode prog_14_method_77_code 24 = .ok (.if_icmp .le 12, 3) := by decide +kernel
theorem dModel_bury_27 : decode prog_14_method_77_code 27 = .ok (.aload_n 0, 1) := by decide +kernel
theorem dModel_bury_28 : decode prog_14_method_77_code 28 = .ok (.getfield 575, 3) := by decide +kernel
theorem dModel_bury_31 : decode prog_14_method_77_code 31 = .ok (.iload_n 1, 1) := by decide +kernel
theorem dModel_bury_32 : decode prog_14_method_77_code 32 = .ok (.iaload, 1) := by decide +kernel
theorem dModel_bury_33 : decode prog_14_method_77_code 33 = .ok (.goto 4, 3) := by decide +kernel
theorem dModel_bury_36 : decode prog_14_method_77_code 36 = .ok (.iconst (-1), 1) := by decide +kernel
theorem dModel_bury_37 : decode prog_14_method_77_code 37 = .ok (.istore_n 2, 1) := by decide +kernel
theorem dModel_bury_38 : decode prog_14_method_77_code 38 = .ok (.iload_n 2, 1) := by decide +kernel
theorem dModel_bury_39 : decode prog_14_method_77_code 39 = .ok (.ifCond .lt 21, 3) := by decide +kernel
theorem dModel_bury_42 : decode prog_14_method_77_code 42 = .ok (.aload_n 0, 1) := by decide +kernel
theorem dModel_bury_43 : decode prog_14_method_77_code 43 = .ok (.getfield 578, 3) := by decide +kernel
theorem dModel_bury_46 : decode prog_14_method_77_code 46 = .ok (.iload_n 2, 1) := by decide +kernel
theorem dModel_bury_47 : decode prog_14_method_77_code 47 = .ok (.dup2, 1) := by decide +kernel
theorem dModel_bury_48 : decode prog_14_method_77_code 48 = .ok (.laload, 1) := by decide +kernel
theorem dModel_bury_49 : decode prog_14_method_77_code 49 = .ok (.aload_n 0, 1) := by decide +kernel
theorem dModel_bury_50 : decode prog_14_method_77_code 50 = .ok (.getfield 578, 3) := by decide +kernel
theorem dModel_bury_53 : decode prog_14_method_77_code 53 = .ok (.iload_n 1, 1) := by decide +kernel
theorem dModel_bury_54 : decode prog_14_method_77_code 54 = .ok (.laload, 1) := by decide +kernel
theorem dModel_bury_55 : decode prog_14_method_77_code 55 = .ok (.ladd, 1) := by decide +kernel
theorem dModel_bury_56 : decode prog_14_method_77_code 56 = .ok (.lastore, 1) := by decide +kernel
theorem dModel_bury_57 : decode prog_14_method_77_code 57 = .ok (.goto 18, 3) := by decide +kernel
theorem dModel_bury_60 : decode prog_14_method_77_code 60 = .ok (.aload_n 0, 1) := by decide +kernel
theorem dModel_bury_61 : decode prog_14_method_77_code 61 = .ok (.dup, 1) := by decide +kernel
theorem dModel_bury_62 : decode prog_14_method_77_code 62 = .ok (.getfield 581, 3) := by decide +kernel
theorem dModel_bury_65 : decode prog_14_method_77_code 65 = .ok (.aload_n 0, 1) := by decide +kernel
theorem dModel_bury_66 : decode prog_14_method_77_code 66 = .ok (.getfield 578, 3) := by decide +kernel
theorem dModel_bury_69 : decode prog_14_method_77_code 69 = .ok (.iload_n 1, 1) := by decide +kernel
theorem dModel_bury_70 : decode prog_14_method_77_code 70 = .ok (.laload, 1) := by decide +kernel
theorem dModel_bury_71 : decode prog_14_method_77_code 71 = .ok (.ladd, 1) := by decide +kernel
theorem dModel_bury_72 : decode prog_14_method_77_code 72 = .ok (.putfield 581, 3) := by decide +kernel
theorem dModel_bury_75 : decode prog_14_method_77_code 75 = .ok (.aload_n 0, 1) := by decide +kernel
theorem dModel_bury_76 : decode prog_14_method_77_code 76 = .ok (.getfield 578, 3) := by decide +kernel
theorem dModel_bury_79 : decode prog_14_method_77_code 79 = .ok (.iload_n 1, 1) := by decide +kernel
theorem dModel_bury_80 : decode prog_14_method_77_code 80 = .ok (.lconst 0, 1) := by decide +kernel
theorem dModel_bury_81 : decode prog_14_method_77_code 81 = .ok (.lastore, 1) := by decide +kernel
theorem dModel_bury_82 : decode prog_14_method_77_code 82 = .ok (.iconst 0, 1) := by decide +kernel
theorem dModel_bury_83 : decode prog_14_method_77_code 83 = .ok (.istore_n 3, 1) := by decide +kernel
theorem dModel_bury_84 : decode prog_14_method_77_code 84 = .ok (.iload_n 3, 1) := by decide +kernel
theorem dModel_bury_85 : decode prog_14_method_77_code 85 = .ok (.aload_n 0, 1) := by decide +kernel
theorem dModel_bury_86 : decode prog_14_method_77_code 86 = .ok (.getfield 454, 3) := by decide +kernel
theorem dModel_bury_89 : decode prog_14_method_77_code 89 = .ok (.if_icmp .ge 52, 3) := by decide +kernel
theorem dModel_bury_92 : decode prog_14_method_77_code 92 = .ok (.aload_n 0, 1) := by decide +kernel
theorem dModel_bury_93 : decode prog_14_method_77_code 93 = .ok (.getfield 525, 3) := by decide +kernel
theorem dModel_bury_96 : decode prog_14_method_77_code 96 = .ok (.iload_n 3, 1) := by decide +kernel
theorem dModel_bury_97 : decode prog_14_method_77_code 97 = .ok (.iaload, 1) := by decide +kernel
theorem dModel_bury_98 : decode prog_14_method_77_code 98 = .ok (.iload_n 1, 1) := by decide +kernel
theorem dModel_bury_99 : decode prog_14_method_77_code 99 = .ok (.if_icmp .ne 36, 3) := by decide +kernel
theorem dModel_bury_102 : decode prog_14_method_77_code 102 = .ok (.aload_n 0, 1) := by decide +kernel
theorem dModel_bury_103 : decode prog_14_method_77_code 103 = .ok (.iload_n 3, 1) := by decide +kernel
theorem dModel_bury_104 : decode prog_14_method_77_code 104 = .ok (.invokevirtual 460, 3) := by decide +kernel
theorem dModel_bury_107 : decode prog_14_method_77_code 107 = .ok (.ifCond .ne 6, 3) := by decide +kernel
theorem dModel_bury_110 : decode prog_14_method_77_code 110 = .ok (.goto 25, 3) := by decide +kernel
theorem dModel_bury_113 : decode prog_14_method_77_code 113 = .ok (.aload_n 0, 1) := by decide +kernel
theorem dModel_bury_114 : decode prog_14_method_77_code 114 = .ok (.getfield 525, 3) := by decide +kernel
theorem dModel_bury_117 : decode prog_14_method_77_code 117 = .ok (.iload_n 3, 1) := by decide +kernel
theorem dModel_bury_118 : decode prog_14_method_77_code 118 = .ok (.iload_n 2, 1) := by decide +kernel
theorem dModel_bury_119 : decode prog_14_method_77_code 119 = .ok (.iastore, 1) := by decide +kernel
theorem dModel_bury_120 : decode prog_14_method_77_code 120 = .ok (.aload_n 0, 1) := by decide +kernel
theorem dModel_bury_121 : decode prog_14_method_77_code 121 = .ok (.getfield 450, 3) := by decide +kernel
theorem dModel_bury_124 : decode prog_14_method_77_code 124 = .ok (.iload_n 3, 1) := by decide +kernel
theorem dModel_bury_125 : decode prog_14_method_77_code 125 = .ok (.iload_n 2, 1) := by decide +kernel
theorem dModel_bury_126 : decode prog_14_method_77_code 126 = .ok (.ifCond .ge 7, 3) := by decide +kernel
theorem dModel_bury_129 : decode prog_14_method_77_code 129 = .ok (.iconst 1, 1) := by decide +kernel
theorem dModel_bury_130 : decode prog_14_method_77_code 130 = .ok (.goto 4, 3) := by decide +kernel
theorem dModel_bury_133 : decode prog_14_method_77_code 133 = .ok (.iconst 0, 1) := by decide +kernel
theorem dModel_bury_134 : decode prog_14_method_77_code 134 = .ok (.bastore, 1) := by decide +kernel
theorem dModel_bury_135 : decode prog_14_method_77_code 135 = .ok (.iinc 3 1, 3) := by decide +kernel
theorem dModel_bury_138 : decode prog_14_method_77_code 138 = .ok (.goto (-54), 3) := by decide +kernel
theorem dModel_bury_141 : decode prog_14_method_77_code 141 = .ok (.iconst 0, 1) := by decide +kernel
theorem dModel_bury_142 : decode prog_14_method_77_code 142 = .ok (.istore_n 3, 1) := by decide +kernel
theorem dModel_bury_143 : decode prog_14_method_77_code 143 = .ok (.iload_n 3, 1) := by decide +kernel
theorem dModel_bury_144 : decode prog_14_method_77_code 144 = .ok (.aload_n 0, 1) := by decide +kernel
theorem dModel_bury_145 : decode prog_14_method_77_code 145 = .ok (.getfield 548, 3) := by decide +kernel
theorem dModel_bury_148 : decode prog_14_method_77_code 148 = .ok (.if_icmp .ge 39, 3) := by decide +kernel
theorem dModel_bury_151 : decode prog_14_method_77_code 151 = .ok (.aload_n 0, 1) := by decide +kernel
theorem dModel_bury_152 : decode prog_14_method_77_code 152 = .ok (.getfield 545, 3) := by decide +kernel
theorem dModel_bury_155 : decode prog_14_method_77_code 155 = .ok (.iload_n 3, 1) := by decide +kernel
theorem dModel_bury_156 : decode prog_14_method_77_code 156 = .ok (.iaload, 1) := by decide +kernel
theorem dModel_bury_157 : decode prog_14_method_77_code 157 = .ok (.iload_n 1, 1) := by decide +kernel
theorem dModel_bury_158 : decode prog_14_method_77_code 158 = .ok (.if_icmp .ne 23, 3) := by decide +kernel
theorem dModel_bury_161 : decode prog_14_method_77_code 161 = .ok (.aload_n 0, 1) := by decide +kernel
theorem dModel_bury_162 : decode prog_14_method_77_code 162 = .ok (.getfield 551, 3) := by decide +kernel
theorem dModel_bury_165 : decode prog_14_method_77_code 165 = .ok (.iload_n 3, 1) := by decide +kernel
theorem dModel_bury_166 : decode prog_14_method_77_code 166 = .ok (.iaload, 1) := by decide +kernel
theorem dModel_bury_167 : decode prog_14_method_77_code 167 = .ok (.aload_n 0, 1) := by decide +kernel
theorem dModel_bury_168 : decode prog_14_method_77_code 168 = .ok (.getfield 348, 3) := by decide +kernel
theorem dModel_bury_171 : decode prog_14_method_77_code 171 = .ok (.if_icmp .lt 10, 3) := by decide +kernel
theorem dModel_bury_174 : decode prog_14_method_77_code 174 = .ok (.aload_n 0, 1) := by decide +kernel
theorem dModel_bury_175 : decode prog_14_method_77_code 175 = .ok (.getfield 545, 3) := by decide +kernel
theorem dModel_bury_178 : decode prog_14_method_77_code 178 = .ok (.iload_n 3, 1) := by decide +kernel
theorem dModel_bury_179 : decode prog_14_method_77_code 179 = .ok (.iload_n 2, 1) := by decide +kernel
theorem dModel_bury_180 : decode prog_14_method_77_code 180 = .ok (.iastore, 1) := by decide +kernel
theorem dModel_bury_181 : decode prog_14_method_77_code 181 = .ok (.iinc 3 1, 3) := by decide +kernel
theorem dModel_bury_184 : decode prog_14_method_77_code 184 = .ok (.goto (-41), 3) := by decide +kernel
theorem dModel_bury_187 : decode prog_14_method_77_code 187 = .ok (.iconst 0, 1) := by decide +kernel
theorem dModel_bury_188 : decode prog_14_method_77_code 188 = .ok (.istore_n 3, 1) := by decide +kernel
theorem dModel_bury_189 : decode prog_14_method_77_code 189 = .ok (.iload_n 3, 1) := by decide +kernel
theorem dModel_bury_190 : decode prog_14_method_77_code 190 = .ok (.iconst 3, 1) := by decide +kernel
theorem dModel_bury_191 : decode prog_14_method_77_code 191 = .ok (.if_icmp .ge 20, 3) := by decide +kernel
theorem dModel_bury_194 : decode prog_14_method_77_code 194 = .ok (.aload_n 0, 1) := by decide +kernel
theorem dModel_bury_195 : decode prog_14_method_77_code 195 = .ok (.getfield 584, 3) := by decide +kernel
theorem dModel_bury_198 : decode prog_14_method_77_code 198 = .ok (.iconst 3, 1) := by decide +kernel
theorem dModel_bury_199 : decode prog_14_method_77_code 199 = .ok (.iload_n 1, 1) := by decide +kernel
theorem dModel_bury_200 : decode prog_14_method_77_code 200 = .ok (.imul, 1) := by decide +kernel
theorem dModel_bury_201 : decode prog_14_method_77_code 201 = .ok (.iload_n 3, 1) := by decide +kernel
theorem dModel_bury_202 : decode prog_14_method_77_code 202 = .ok (.iadd, 1) := by decide +kernel
theorem dModel_bury_203 : decode prog_14_method_77_code 203 = .ok (.iconst (-1), 1) := by decide +kernel
theorem dModel_bury_204 : decode prog_14_method_77_code 204 = .ok (.iastore, 1) := by decide +kernel
theorem dModel_bury_205 : decode prog_14_method_77_code 205 = .ok (.iinc 3 1, 3) := by decide +kernel
theorem dModel_bury_208 : decode prog_14_method_77_code 208 = .ok (.goto (-19), 3) := by decide +kernel
theorem dModel_bury_211 : decode prog_14_method_77_code 211 = .ok (.return_, 1) := by decide +kernel
theorem dModel_make_0 : decode prog_14_method_78_code 0 = .ok (.iconst 0, 1) := by decide +kernel
theorem dModel_make_1 : decode prog_14_method_78_code 1 = .ok (.istore_n 1, 1) := by decide +kernel
theorem dModel_make_2 : decode prog_14_method_78_code 2 = .ok (.iload_n 1, 1) := by decide +kernel
theorem dModel_make_3 : decode prog_14_method_78_code 3 = .ok (.aload_n 0, 1) := by decide +kernel
theorem dModel_make_4 : decode prog_14_method_78_code 4 = .ok (.invokevirtual 433, 3) := by decide +kernel
theorem dModel_make_7 : decode prog_14_method_78_code 7 = .ok (.if_icmp .ge 122, 3) := by decide +kernel
theorem dModel_make_10 : decode prog_14_method_78_code 10 = .ok (.aload_n 0, 1) := by decide +kernel
theorem dModel_make_11 : decode prog_14_method_78_code 11 = .ok (.getfield 245, 3) := by decide +kernel
theorem dModel_make_14 : decode prog_14_method_78_code 14 = .ok (.bipush 12, 2) := by decide +kernel
theorem dModel_make_16 : decode prog_14_method_78_code 16 = .ok (.iconst 3, 1) := by decide +kernel
theorem dModel_make_17 : decode prog_14_method_78_code 17 = .ok (.aload_n 0, 1) := by decide +kernel
theorem dModel_make_18 : decode prog_14_method_78_code 18 = .ok (.getfield 147, 3) := by decide +kernel
theorem dModel_make_21 : decode prog_14_method_78_code 21 = .ok (.imul, 1) := by decide +kernel
theorem dModel_make_22 : decode prog_14_method_78_code 22 = .ok (.iload_n 1, 1) := by decide +kernel
theorem dModel_make_23 : decode prog_14_method_78_code 23 = .ok (.iadd, 1) := by decide +kernel
theorem dModel_make_24 : decode prog_14_method_78_code 24 = .ok (.imul, 1) := by decide +kernel
theorem dModel_make_25 : decode prog_14_method_78_code 25 = .ok (.aload_n 0, 1) := by decide +kernel
theorem dModel_make_26 : decode prog_14_method_78_code 26 = .ok (.getfield 348, 3) := by decide +kernel
theorem dModel_make_29 : decode prog_14_method_78_code 29 = .ok (.bipush 12, 2) := by decide +kernel
theorem dModel_make_31 : decode prog_14_method_78_code 31 = .ok (.irem, 1) := by decide +kernel
theorem dModel_make_32 : decode prog_14_method_78_code 32 = .ok (.iadd, 1) := by decide +kernel
theorem dModel_make_33 : decode prog_14_method_78_code 33 = .ok (.iaload, 1) := by decide +kernel
theorem dModel_make_34 : decode prog_14_method_78_code 34 = .ok (.istore_n 2, 1) := by decide +kernel
theorem dModel_make_35 : decode prog_14_method_78_code 35 = .ok (.iconst 0, 1) := by decide +kernel
theorem dModel_make_36 : decode prog_14_method_78_code 36 = .ok (.istore_n 3, 1) := by decide +kernel
theorem dModel_make_37 : decode prog_14_method_78_code 37 = .ok (.iload_n 3, 1) := by decide +kernel
theorem dModel_make_38 : decode prog_14_method_78_code 38 = .ok (.aload_n 0, 1) := by decide +kernel
theorem dModel_make_39 : decode prog_14_method_78_code 39 = .ok (.getfield 169, 3) := by decide +kernel
theorem dModel_make_42 : decode prog_14_method_78_code 42 = .ok (.if_icmp .ge 71, 3) := by decide +kernel
theorem dModel_make_45 : decode prog_14_method_78_code 45 = .ok (.aload_n 0, 1) := by decide +kernel
theorem dModel_make_46 : decode prog_14_method_78_code 46 = .ok (.iload_n 3, 1) := by decide +kernel
theorem dModel_make_47 : decode prog_14_method_78_code 47 = .ok (.iconst 0, 1) := by decide +kernel
theorem dModel_make_48 : decode prog_14_method_78_code 48 = .ok (.invokevirtual 541, 3) := by decide +kernel
theorem dModel_make_51 : decode prog_14_method_78_code 51 = .ok (.ifCond .eq 56, 3) := by decide +kernel
theorem dModel_make_54 : decode prog_14_method_78_code 54 = .ok (.aload_n 0, 1) := by decide +kernel
theorem dModel_make_55 : decode prog_14_method_78_code 55 = .ok (.getfield 415, 3) := by decide +kernel
theorem dModel_make_58 : decode prog_14_method_78_code 58 = .ok (.iload_n 3, 1) := by decide +kernel
theorem dModel_make_59 : decode prog_14_method_78_code 59 = .ok (.iaload, 1) := by decide +kernel
theorem dModel_make_60 : decode prog_14_method_78_code 60 = .ok (.iload_n 1, 1) := by decide +kernel
theorem dModel_make_61 : decode prog_14_method_78_code 61 = .ok (.if_icmp .ne 46, 3) := by decide +kernel
theorem dModel_make_64 : decode prog_14_method_78_code 64 = .ok (.aload_n 0, 1) := by decide +kernel
theorem dModel_make_65 : decode prog_14_method_78_code 65 = .ok (.getfield 418, 3) := by decide +kernel
theorem dModel_make_68 : decode prog_14_method_78_code 68 = .ok (.iload_n 3, 1) := by decide +kernel
theorem dModel_make_69 : decode prog_14_method_78_code 69 = .ok (.iaload, 1) := by decide +kernel
theorem dModel_make_70 : decode prog_14_method_78_code 70 = .ok (.aload_n 0, 1) := by decide +kernel
theorem dModel_make_71 : decode prog_14_method_78_code 71 = .ok (.getfield 348, 3) := by decide +kernel
theorem dModel_make_74 : decode prog_14_method_78_code 74 = .ok (.if_icmp .eq 6, 3) := by decide +kernel
theorem dModel_make_77 : decode prog_14_method_78_code 77 = .ok (.goto 30, 3) := by decide +kernel
theorem dModel_make_80 : decode prog_14_method_78_code 80 = .ok (.iload_n 2, 1) := by decide +kernel
theorem dModel_make_81 : decode prog_14_method_78_code 81 = .ok (.aload_n 0, 1) := by decide +kernel
theorem dModel_make_82 : decode prog_14_method_78_code 82 = .ok (.getfield 421, 3) := by decide +kernel
theorem dModel_make_85 : decode prog_14_method_78_code 85 = .ok (.iload_n 3, 1) := by decide +kernel
theorem dModel_make_86 : decode prog_14_method_78_code 86 = .ok (.iaload, 1) := by decide +kernel
theorem dModel_make_87 : decode prog_14_method_78_code 87 = .ok (.imul, 1) := by decide +kernel
theorem dModel_make_88 : decode prog_14_method_78_code 88 = .ok (.bipush 100, 2) := by decide +kernel
theorem dModel_make_90 : decode prog_14_method_78_code 90 = .ok (.idiv, 1) := by decide +kernel
theorem dModel_make_91 : decode prog_14_method_78_code 91 = .ok (.istore_n 2, 1) := by decide +kernel
theorem dModel_make_92 : decode prog_14_method_78_code 92 = .ok (.iload_n 2, 1) := by decide +kernel
theorem dModel_make_93 : decode prog_14_method_78_code 93 = .ok (.ldc_w 587, 3) := by decide +kernel
theorem dModel_make_96 : decode prog_14_method_78_code 96 = .ok (.if_icmp .le 9, 3) := by decide +kernel
theorem dModel_make_99 : decode prog_14_method_78_code 99 = .ok (.ldc_w 587, 3) := by decide +kernel
theorem dModel_make_102 : decode prog_14_method_78_code 102 = .ok (.goto 4, 3) := by decide +kernel
theorem dModel_make_105 : decode prog_14_method_78_code 105 = .ok (.iload_n 2, 1) := by decide +kernel
theorem dModel_make_106 : decode prog_14_method_78_code 106 = .ok (.istore_n 2, 1) := by decide +kernel
theorem dModel_make_107 : decode prog_14_method_78_code 107 = .ok (.iinc 3 1, 3) := by decide +kernel
theorem dModel_make_110 : decode prog_14_method_78_code 110 = .ok (.goto (-73), 3) := by decide +kernel
theorem dModel_make_113 : decode prog_14_method_78_code 113 = .ok (.aload_n 0, 1) := by decide +kernel
theorem dModel_make_114 : decode prog_14_method_78_code 114 = .ok (.getfield 469, 3) := by decide +kernel
theorem dModel_make_117 : decode prog_14_method_78_code 117 = .ok (.iload_n 1, 1) := by decide +kernel
theorem dModel_make_118 : decode prog_14_method_78_code 118 = .ok (.dup2, 1) := by decide +kernel
theorem dModel_make_119 : decode prog_14_method_78_code 119 = .ok (.iaload, 1) := by decide +kernel
theorem dModel_make_120 : decode prog_14_method_78_code 120 = .ok (.iload_n 2, 1) := by decide +kernel
theorem dModel_make_121 : decode prog_14_method_78_code 121 = .ok (.iadd, 1) := by decide +kernel
theorem dModel_make_122 : decode prog_14_method_78_code 122 = .ok (.iastore, 1) := by decide +kernel
theorem dModel_make_123 : decode prog_14_method_78_code 123 = .ok (.iinc 1 1, 3) := by decide +kernel
theorem dModel_make_126 : decode prog_14_method_78_code 126 = .ok (.goto (-124), 3) := by decide +kernel
theorem dModel_make_129 : decode prog_14_method_78_code 129 = .ok (.return_, 1) := by decide +kernel
theorem dModel_tellMonth_0 : decode prog_14_method_79_code 0 = .ok (.aload_n 0, 1) := by decide +kernel
theorem dModel_tellMonth_1 : decode prog_14_method_79_code 1 = .ok (.aload_n 0, 1) := by decide +kernel
theorem dModel_tellMonth_2 : decode prog_14_method_79_code 2 = .ok (.aload_n 0, 1) := by decide +kernel
theorem dModel_tellMonth_3 : decode prog_14_method_79_code 3 = .ok (.getfield 516, 3) := by decide +kernel
theorem dModel_tellMonth_6 : decode prog_14_method_79_code 6 = .ok (.iconst 1, 1) := by decide +kernel
theorem dModel_tellMonth_7 : decode prog_14_method_79_code 7 = .ok (.invokevirtual 519, 3) := by decide +kernel
theorem dModel_tellMonth_10 : decode prog_14_method_79_code 10 = .ok (.putfield 588, 3) := by decide +kernel
theorem dModel_tellMonth_13 : decode prog_14_method_79_code 13 = .ok (.aload_n 0, 1) := by decide +kernel
theorem dModel_tellMonth_14 : decode prog_14_method_79_code 14 = .ok (.aload_n 0, 1) := by decide +kernel
theorem dModel_tellMonth_15 : decode prog_14_method_79_code 15 = .ok (.aload_n 0, 1) := by decide +kernel
theorem dModel_tellMonth_16 : decode prog_14_method_79_code 16 = .ok (.getfield 516, 3) := by decide +kernel
theorem dModel_tellMonth_19 : decode prog_14_method_79_code 19 = .ok (.iconst 2, 1) := by decide +kernel
theorem dModel_tellMonth_20 : decode prog_14_method_79_code 20 = .ok (.invokevirtual 519, 3) := by decide +kernel
theorem dModel_tellMonth_23 : decode prog_14_method_79_code 23 = .ok (.putfield 591, 3) := by decide +kernel
theorem dModel_tellMonth_26 : decode prog_14_method_79_code 26 = .ok (.aload_n 0, 1) := by decide +kernel
theorem dModel_tellMonth_27 : decode prog_14_method_79_code 27 = .ok (.aload_n 0, 1) := by decide +kernel
theorem dModel_tellMonth_28 : decode prog_14_method_79_code 28 = .ok (.aload_n 0, 1) := by decide +kernel
theorem dModel_tellMonth_29 : decode prog_14_method_79_code 29 = .ok (.getfield 516, 3) := by decide +kernel
theorem dModel_tellMonth_32 : decode prog_14_method_79_code 32 = .ok (.iconst 3, 1) := by decide +kernel
theorem dModel_tellMonth_33 : decode prog_14_method_79_code 33 = .ok (.invokevirtual 519, 3) := by decide +kernel
theorem dModel_tellMonth_36 : decode prog_14_method_79_code 36 = .ok (.putfield 500, 3) := by decide +kernel
theorem dModel_tellMonth_39 : decode prog_14_method_79_code 39 = .ok (.aload_n 0, 1) := by decide +kernel
theorem dModel_tellMonth_40 : decode prog_14_method_79_code 40 = .ok (.aload_n 0, 1) := by decide +kernel
theorem dModel_tellMonth_41 : decode prog_14_method_79_code 41 = .ok (.aload_n 0, 1) := by decide +kernel
theorem dModel_tellMonth_42 : decode prog_14_method_79_code 42 = .ok (.getfield 516, 3) := by decide +kernel
theorem dModel_tellMonth_45 : decode prog_14_method_79_code 45 = .ok (.iconst 4, 1) := by decide +kernel
theorem dModel_tellMonth_46 : decode prog_14_method_79_code 46 = .ok (.invokevirtual 519, 3) := by decide +kernel
theorem dModel_tellMonth_49 : decode prog_14_method_79_code 49 = .ok (.putfield 594, 3) := by decide +kernel
theorem dModel_tellMonth_52 : decode prog_14_method_79_code 52 = .ok (.return_, 1) := by decide +kernel
theorem dModel_comes_0 : decode prog_14_method_80_code 0 = .ok (.aload_n 0, 1) := by decide +kernel
theorem dModel_comes_1 : decode prog_14_method_80_code 1 = .ok (.getfield 548, 3) := by decide +kernel
theorem dModel_comes_4 : decode prog_14_method_80_code 4 = .ok (.istore_n 1, 1) := by decide +kernel
theorem dModel_comes_5 : decode prog_14_method_80_code 5 = .ok (.iconst 0, 1) := by decide +kernel
theorem dModel_comes_6 : decode prog_14_method_80_code 6 = .ok (.istore_n 2, 1) := by decide +kernel
theorem dModel_comes_7 : decode prog_14_method_80_code 7 = .ok (.iload_n 2, 1) := by decide +kernel
theorem dModel_comes_8 : decode prog_14_method_80_code 8 = .ok (.iload_n 1, 1) := by decide +kernel
theorem dModel_comes_9 : decode prog_14_method_80_code 9 = .ok (.if_icmp .ge 244, 3) := by decide +kernel
theorem dModel_comes_12 : decode prog_14_method_80_code 12 = .ok (.aload_n 0, 1) := by decide +kernel
theorem dModel_comes_13 : decode prog_14_method_80_code 13 = .ok (.getfield 551, 3) := by decide +kernel
theorem dModel_comes_16 : decode prog_14_method_80_code 16 = .ok (.iload_n 2, 1) := by decide +kernel
theorem dModel_comes_17 : decode prog_14_method_80_code 17 = .ok (.iaload, 1) := by decide +kernel
theorem dModel_comes_18 : decode prog_14_method_80_code 18 = .ok (.aload_n 0, 1) := by decide +kernel
theorem dModel_comes_19 : decode prog_14_method_80_code 19 = .ok (.getfield 348, 3) := by decide +kernel
theorem dModel_comes_22 : decode prog_14_method_80_code 22 = .ok (.if_icmp .eq 6, 3) := by decide +kernel
theorem dModel_comes_25 : decode prog_14_method_80_code 25 = .ok (.goto 222, 3) := by decide +kernel
theorem dModel_comes_28 : decode prog_14_method_80_code 28 = .ok (.aload_n 0, 1) := by decide +kernel
theorem dModel_comes_29 : decode prog_14_method_80_code 29 = .ok (.getfield 554, 3) := by decide +kernel
theorem dModel_comes_32 : decode prog_14_method_80_code 32 = .ok (.iload_n 2, 1) := by decide +kernel
theorem dModel_comes_33 : decode prog_14_method_80_code 33 = .ok (.baload, 1) := by decide +kernel
theorem dModel_comes_34 : decode prog_14_method_80_code 34 = .ok (.ifCond .eq 152, 3) := by decide +kernel
theorem dModel_comes_37 : decode prog_14_method_80_code 37 = .ok (.aload_n 0, 1) := by decide +kernel
theorem dModel_comes_38 : decode prog_14_method_80_code 38 = .ok (.aload_n 0, 1) := by decide +kernel
theorem dModel_comes_39 : decode prog_14_method_80_code 39 = .ok (.getfield 557, 3) := by decide +kernel
theorem dModel_comes_42 : decode prog_14_method_80_code 42 = .ok (.iload_n 2, 1) := by decide +kernel
theorem dModel_comes_43 : decode prog_14_method_80_code 43 = .ok (.iaload, 1) := by decide +kernel
theorem dModel_comes_44 : decode prog_14_method_80_code 44 = .ok (.invokevirtual 497, 3) := by decide +kernel
theorem dModel_comes_47 : decode prog_14_method_80_code 47 = .ok (.istore_n 3, 1) := by decide +kernel
theorem dModel_comes_48 : decode prog_14_method_80_code 48 = .ok (.iload_n 3, 1) := by decide +kernel
theorem dModel_comes_49 : decode prog_14_method_80_code 49 = .ok (.aload_n 0, 1) := by decide +kernel
theorem dModel_comes_50 : decode prog_14_method_80_code 50 = .ok (.getfield 500, 3) := by decide +kernel
theorem dModel_comes_53 : decode prog_14_method_80_code 53 = .ok (.if_icmp .le 12, 3) := by decide +kernel
theorem dModel_comes_56 : decode prog_14_method_80_code 56 = .ok (.iload_n 3, 1) := by decide +kernel
theorem dModel_comes_57 : decode prog_14_method_80_code 57 = .ok (.aload_n 0, 1) := by decide +kernel
theorem dModel_comes_58 : decode prog_14_method_80_code 58 = .ok (.getfield 500, 3) := by decide +kernel
theorem dModel_comes_61 : decode prog_14_method_80_code 61 = .ok (.isub, 1) := by decide +kernel
theorem dModel_comes_62 : decode prog_14_method_80_code 62 = .ok (.goto 4, 3) := by decide +kernel
theorem dModel_comes_65 : decode prog_14_method_80_code 65 = .ok (.iconst 0, 1) := by decide +kernel
theorem dModel_comes_66 : decode prog_14_method_80_code 66 = .ok (.istore 4, 2) := by decide +kernel
theorem dModel_comes_68 : decode prog_14_method_80_code 68 = .ok (.aload_n 0, 1) := by decide +kernel
theorem dModel_comes_69 : decode prog_14_method_80_code 69 = .ok (.getfield 474, 3) := by decide +kernel
theorem dModel_comes_72 : decode prog_14_method_80_code 72 = .ok (.aload_n 0, 1) := by decide +kernel
theorem dModel_comes_73 : decode prog_14_method_80_code 73 = .ok (.getfield 557, 3) := by decide +kernel
theorem dModel_comes_76 : decode prog_14_method_80_code 76 = .ok (.iload_n 2, 1) := by decide +kernel
theorem dModel_comes_77 : decode prog_14_method_80_code 77 = .ok (.iaload, 1) := by decide +kernel
theorem dModel_comes_78 : decode prog_14_method_80_code 78 = .ok (.dup2, 1) := by decide +kernel
theorem dModel_comes_79 : decode prog_14_method_80_code 79 = .ok (.iaload, 1) := by decide +kernel
theorem dModel_comes_80 : decode prog_14_method_80_code 80 = .ok (.aload_n 0, 1) := by decide +kernel
theorem dModel_comes_81 : decode prog_14_method_80_code 81 = .ok (.getfield 560, 3) := by decide +kernel
theorem dModel_comes_84 : decode prog_14_method_80_code 84 = .ok (.iload_n 2, 1) := by decide +kernel
theorem dModel_comes_85 : decode prog_14_method_80_code 85 = .ok (.iaload, 1) := by decide +kernel
theorem dModel_comes_86 : decode prog_14_method_80_code 86 = .ok (.iadd, 1) := by decide +kernel
theorem dModel_comes_87 : decode prog_14_method_80_code 87 = .ok (.iastore, 1) := by decide +kernel
theorem dModel_comes_88 : decode prog_14_method_80_code 88 = .ok (.aload_n 0, 1) := by decide +kernel
theorem dModel_comes_89 : decode prog_14_method_80_code 89 = .ok (.dup, 1) := by decide +kernel
theorem dModel_comes_90 : decode prog_14_method_80_code 90 = .ok (.getfield 597, 3) := by decide +kernel
theorem dModel_comes_93 : decode prog_14_method_80_code 93 = .ok (.aload_n 0, 1) := by decide +kernel
theorem dModel_comes_94 : decode prog_14_method_80_code 94 = .ok (.getfield 560, 3) := by decide +kernel
theorem dModel_comes_97 : decode prog_14_method_80_code 97 = .ok (.iload_n 2, 1) := by decide +kernel
theorem dModel_comes_98 : decode prog_14_method_80_code 98 = .ok (.iaload, 1) := by decide +kernel
theorem dModel_comes_99 : decode prog_14_method_80_code 99 = .ok (.i2l, 1) := by decide +kernel
theorem dModel_comes_100 : decode prog_14_method_80_code 100 = .ok (.ladd, 1) := by decide +kernel
theorem dModel_comes_101 : decode prog_14_method_80_code 101 = .ok (.putfield 597, 3) := by decide +kernel
theorem dModel_comes_104 : decode prog_14_method_80_code 104 = .ok (.aload_n 0, 1) := by decide +kernel
theorem dModel_comes_105 : decode prog_14_method_80_code 105 = .ok (.dup, 1) := by decide +kernel
theorem dModel_comes_106 : decode prog_14_method_80_code 106 = .ok (.getfield 581, 3) := by decide +kernel
theorem dModel_comes_109 : decode prog_14_method_80_code 109 = .ok (.aload_n 0, 1) := by decide +kernel
theorem dModel_comes_110 : decode prog_14_method_80_code 110 = .ok (.getfield 560, 3) := by decide +kernel
theorem dModel_comes_113 : decode prog_14_method_80_code 113 = .ok (.iload_n 2, 1) := by decide +kernel
theorem dModel_comes_114 : decode prog_14_method_80_code 114 = .ok (.iaload, 1) := by decide +kernel
theorem dModel_comes_115 : decode prog_14_method_80_code 115 = .ok (.i2l, 1) := by decide +kernel
theorem dModel_comes_116 : decode prog_14_method_80_code 116 = .ok (.aload_n 0, 1) := by decide +kernel
theorem dModel_comes_117 : decode prog_14_method_80_code 117 = .ok (.getfield 500, 3) := by decide +kernel
theorem dModel_comes_120 : decode prog_14_method_80_code 120 = .ok (.i2l, 1) := by decide +kernel
theorem dModel_comes_121 : decode prog_14_method_80_code 121 = .ok (.lmul, 1) := by decide +kernel
theorem dModel_comes_122 : decode prog_14_method_80_code 122 = .ok (.ladd, 1) := by decide +kernel
theorem dModel_comes_123 : decode prog_14_method_80_code 123 = .ok (.putfield 581, 3) := by decide +kernel
theorem dModel_comes_126 : decode prog_14_method_80_code 126 = .ok (.aload_n 0, 1) := by decide +kernel
theorem dModel_comes_127 : decode prog_14_method_80_code 127 = .ok (.getfield 545, 3) := by decide +kernel
theorem dModel_comes_130 : decode prog_14_method_80_code 130 = .ok (.iload_n 2, 1) := by decide +kernel
theorem dModel_comes_131 : decode prog_14_method_80_code 131 = .ok (.iaload, 1) := by decide +kernel
theorem dModel_comes_132 : decode prog_14_method_80_code 132 = .ok (.ifCond .lt 31, 3) := by decide +kernel
theorem dModel_comes_135 : decode prog_14_method_80_code 135 = .ok (.aload_n 0, 1) := by decide +kernel
theorem dModel_comes_136 : decode prog_14_method_80_code 136 = .ok (.getfield 578, 3) := by decide +kernel
theorem dModel_comes_139 : decode prog_14_method_80_code 139 = .ok (.aload_n 0, 1) := by decide +kernel
theorem dModel_comes_140 : decode prog_14_method_80_code 140 = .ok (.getfield 545, 3) := by decide +kernel
theorem dModel_comes_143 : decode prog_14_method_80_code 143 = .ok (.iload_n 2, 1) := by decide +kernel
theorem dModel_comes_144 : decode prog_14_method_80_code 144 = .ok (.iaload, 1) := by decide +kernel
theorem dModel_comes_145 : decode prog_14_method_80_code 145 = .ok (.dup2, 1) := by decide +kernel
theorem dModel_comes_146 : decode prog_14_method_80_code 146 = .ok (.laload, 1) := by decide +kernel
theorem dModel_comes_147 : decode prog_14_method_80_code 147 = .ok (.aload_n 0, 1) := by decide +kernel
theorem dModel_comes_148 : decode prog_14_method_80_code 148 = .ok (.getfield 560, 3) := by decide +kernel
theorem dModel_comes_151 : decode prog_14_method_80_code 151 = .ok (.iload_n 2, 1) := by decide +kernel
theorem dModel_comes_152 : decode prog_14_method_80_code 152 = .ok (.iaload, 1) := by decide +kernel
theorem dModel_comes_153 : decode prog_14_method_80_code 153 = .ok (.i2l, 1) := by decide +kernel
theorem dModel_comes_154 : decode prog_14_method_80_code 154 = .ok (.iload 4, 2) := by decide +kernel
theorem dModel_comes_156 : decode prog_14_method_80_code 156 = .ok (.i2l, 1) := by decide +kernel
theorem dModel_comes_157 : decode prog_14_method_80_code 157 = .ok (.lmul, 1) := by decide +kernel
theorem dModel_comes_158 : decode prog_14_method_80_code 158 = .ok (.ladd, 1) := by decide +kernel
theorem dModel_comes_159 : decode prog_14_method_80_code 159 = .ok (.lastore, 1) := by decide +kernel
theorem dModel_comes_160 : decode prog_14_method_80_code 160 = .ok (.goto 23, 3) := by decide +kernel
theorem dModel_comes_163 : decode prog_14_method_80_code 163 = .ok (.aload_n 0, 1) := by decide +kernel
theorem dModel_comes_164 : decode prog_14_method_80_code 164 = .ok (.dup, 1) := by decide +kernel
theorem dModel_comes_165 : decode prog_14_method_80_code 165 = .ok (.getfield 581, 3) := by decide +kernel
theorem dModel_comes_168 : decode prog_14_method_80_code 168 = .ok (.aload_n 0, 1) := by decide +kernel
theorem dModel_comes_169 : decode prog_14_method_80_code 169 = .ok (.getfield 560, 3) := by decide +kernel
theorem dModel_comes_172 : decode prog_14_method_80_code 172 = .ok (.iload_n 2, 1) := by decide +kernel
theorem dModel_comes_173 : decode prog_14_method_80_code 173 = .ok (.iaload, 1) := by decide +kernel
theorem dModel_comes_174 : decode prog_14_method_80_code 174 = .ok (.i2l, 1) := by decide +kernel
theorem dModel_comes_175 : decode prog_14_method_80_code 175 = .ok (.iload 4, 2) := by decide +kernel
theorem dModel_comes_177 : decode prog_14_method_80_code 177 = .ok (.i2l, 1) := by decide +kernel
theorem dModel_comes_178 : decode prog_14_method_80_code 178 = .ok (.lmul, 1) := by decide +kernel
theorem dModel_comes_179 : decode prog_14_method_80_code 179 = .ok (.ladd, 1) := by decide +kernel
theorem dModel_comes_180 : decode prog_14_method_80_code 180 = .ok (.putfield 581, 3) := by decide +kernel
theorem dModel_comes_183 : decode prog_14_method_80_code 183 = .ok (.goto 64, 3) := by decide +kernel
theorem dModel_comes_186 : decode prog_14_method_80_code 186 = .ok (.aload_n 0, 1) := by decide +kernel
theorem dModel_comes_187 : decode prog_14_method_80_code 187 = .ok (.getfield 513, 3) := by decide +kernel
theorem dModel_comes_190 : decode prog_14_method_80_code 190 = .ok (.aload_n 0, 1) := by decide +kernel
theorem dModel_comes_191 : decode prog_14_method_80_code 191 = .ok (.getfield 557, 3) := by decide +kernel
theorem dModel_comes_194 : decode prog_14_method_80_code 194 = .ok (.iload_n 2, 1) := by decide +kernel
theorem dModel_comes_195 : decode prog_14_method_80_code 195 = .ok (.iaload, 1) := by decide +kernel
theorem dModel_comes_196 : decode prog_14_method_80_code 196 = .ok (.dup2, 1) := by decide +kernel
theorem dModel_comes_197 : decode prog_14_method_80_code 197 = .ok (.iaload, 1) := by decide +kernel
theorem dModel_comes_198 : decode prog_14_method_80_code 198 = .ok (.bipush 10, 2) := by decide +kernel
theorem dModel_comes_200 : decode prog_14_method_80_code 200 = .ok (.aload_n 0, 1) := by decide +kernel
theorem dModel_comes_201 : decode prog_14_method_80_code 201 = .ok (.getfield 560, 3) := by decide +kernel
theorem dModel_comes_204 : decode prog_14_method_80_code 204 = .ok (.iload_n 2, 1) := by decide +kernel
theorem dModel_comes_205 : decode prog_14_method_80_code 205 = .ok (.iaload, 1) := by decide +kernel
theorem dModel_comes_206 : decode prog_14_method_80_code 206 = .ok (.imul, 1) := by decide +kernel
theorem dModel_comes_207 : decode prog_14_method_80_code 207 = .ok (.iadd, 1) := by decide +kernel
theorem dModel_comes_208 : decode prog_14_method_80_code 208 = .ok (.iastore, 1) := by decide +kernel
theorem dModel_comes_209 : decode prog_14_method_80_code 209 = .ok (.aload_n 0, 1) := by decide +kernel
theorem dModel_comes_210 : decode prog_14_method_80_code 210 = .ok (.getfield 545, 3) := by decide +kernel
theorem dModel_comes_213 : decode prog_14_method_80_code 213 = .ok (.iload_n 2, 1) := by decide +kernel
theorem dModel_comes_214 : decode prog_14_method_80_code 214 = .ok (.iaload, 1) := by decide +kernel
theorem dModel_comes_215 : decode prog_14_method_80_code 215 = .ok (.ifCond .lt 32, 3) := by decide +kernel
theorem dModel_comes_218 : decode prog_14_method_80_code 218 = .ok (.aload_n 0, 1) := by decide +kernel
theorem dModel_comes_219 : decode prog_14_method_80_code 219 = .ok (.aload_n 0, 1) := by decide +kernel
theorem dModel_comes_220 : decode prog_14_method_80_code 220 = .ok (.getfield 545, 3) := by decide +kernel
theorem dModel_comes_223 : decode prog_14_method_80_code 223 = .ok (.iload_n 2, 1) := by decide +kernel
theorem dModel_comes_224 : decode prog_14_method_80_code 224 = .ok (.iaload, 1) := by decide +kernel
theorem dModel_comes_225 : decode prog_14_method_80_code 225 = .ok (.aload_n 0, 1) := by decide +kernel
theorem dModel_comes_226 : decode prog_14_method_80_code 226 = .ok (.getfield 566, 3) := by decide +kernel
theorem dModel_comes_229 : decode prog_14_method_80_code 229 = .ok (.iload_n 2, 1) := by decide +kernel
theorem dModel_comes_230 : decode prog_14_method_80_code 230 = .ok (.iaload, 1) := by decide +kernel
theorem dModel_comes_231 : decode prog_14_method_80_code 231 = .ok (.aload_n 0, 1) := by decide +kernel
theorem dModel_comes_232 : decode prog_14_method_80_code 232 = .ok (.getfield 563, 3) := by decide +kernel
theorem dModel_comes_235 : decode prog_14_method_80_code 235 = .ok (.iload_n 2, 1) := by decide +kernel
theorem dModel_comes_236 : decode prog_14_method_80_code 236 = .ok (.iaload, 1) := by decide +kernel
theorem dModel_comes_237 : decode prog_14_method_80_code 237 = .ok (.aload_n 0, 1) := by decide +kernel
theorem dModel_comes_238 : decode prog_14_method_80_code 238 = .ok (.getfield 569, 3) := by decide +kernel
theorem dModel_comes_241 : decode prog_14_method_80_code 241 = .ok (.iload_n 2, 1) := by decide +kernel
theorem dModel_comes_242 : decode prog_14_method_80_code 242 = .ok (.iaload, 1) := by decide +kernel
theorem dModel_comes_243 : decode prog_14_method_80_code 243 = .ok (.iconst 0, 1) := by decide +kernel
theorem dModel_comes_244 : decode prog_14_method_80_code 244 = .ok (.invokevirtual 600, 3) := by decide +kernel
theorem dModel_comes_247 : decode prog_14_method_80_code 247 = .ok (.iinc 2 1, 3) := by decide +kernel
theorem dModel_comes_250 : decode prog_14_method_80_code 250 = .ok (.goto (-243), 3) := by decide +kernel
theorem dModel_comes_253 : decode prog_14_method_80_code 253 = .ok (.return_, 1) := by decide +kernel
theorem dModel_classes_0 : decode prog_14_method_81_code 0 = .ok (.iconst 0, 1) := by decide +kernel
theorem dModel_classes_1 : decode prog_14_method_81_code 1 = .ok (.istore_n 1, 1) := by decide +kernel
theorem dModel_classes_2 : decode prog_14_method_81_code 2 = .ok (.iload_n 1, 1) := by decide +kernel
theorem dModel_classes_3 : decode prog_14_method_81_code 3 = .ok (.aload_n 0, 1) := by decide +kernel
theorem dModel_classes_4 : decode prog_14_method_81_code 4 = .ok (.getfield 454, 3) := by decide +kernel
theorem dModel_classes_7 : decode prog_14_method_81_code 7 = .ok (.if_icmp .ge 115, 3) := by decide +kernel
theorem dModel_classes_10 : decode prog_14_method_81_code 10 = .ok (.aload_n 0, 1) := by decide +kernel
theorem dModel_classes_11 : decode prog_14_method_81_code 11 = .ok (.iload_n 1, 1) := by decide +kernel
theorem dModel_classes_12 : decode prog_14_method_81_code 12 = .ok (.invokevirtual 460, 3) := by decide +kernel
theorem dModel_classes_15 : decode prog_14_method_81_code 15 = .ok (.ifCond .ne 6, 3) := by decide +kernel
theorem dModel_classes_18 : decode prog_14_method_81_code 18 = .ok (.goto 98, 3) := by decide +kernel
theorem dModel_classes_21 : decode prog_14_method_81_code 21 = .ok (.aload_n 0, 1) := by decide +kernel
theorem dModel_classes_22 : decode prog_14_method_81_code 22 = .ok (.aload_n 0, 1) := by decide +kernel
theorem dModel_classes_23 : decode prog_14_method_81_code 23 = .ok (.getfield 348, 3) := by decide +kernel
theorem dModel_classes_26 : decode prog_14_method_81_code 26 = .ok (.aload_n 0, 1) := by decide +kernel
theorem dModel_classes_27 : decode prog_14_method_81_code 27 = .ok (.getfield 528, 3) := by decide +kernel
theorem dModel_classes_30 : decode prog_14_method_81_code 30 = .ok (.iload_n 1, 1) := by decide +kernel
theorem dModel_classes_31 : decode prog_14_method_81_code 31 = .ok (.iaload, 1) := by decide +kernel
theorem dModel_classes_32 : decode prog_14_method_81_code 32 = .ok (.isub, 1) := by decide +kernel
theorem dModel_classes_33 : decode prog_14_method_81_code 33 = .ok (.putfield 366, 3) := by decide +kernel
theorem dModel_classes_36 : decode prog_14_method_81_code 36 = .ok (.aload_n 0, 1) := by decide +kernel
theorem dModel_classes_37 : decode prog_14_method_81_code 37 = .ok (.aload_n 0, 1) := by decide +kernel
theorem dModel_classes_38 : decode prog_14_method_81_code 38 = .ok (.getfield 463, 3) := by decide +kernel
theorem dModel_classes_41 : decode prog_14_method_81_code 41 = .ok (.iload_n 1, 1) := by decide +kernel
theorem dModel_classes_42 : decode prog_14_method_81_code 42 = .ok (.iaload, 1) := by decide +kernel
theorem dModel_classes_43 : decode prog_14_method_81_code 43 = .ok (.putfield 369, 3) := by decide +kernel
theorem dModel_classes_46 : decode prog_14_method_81_code 46 = .ok (.aload_n 0, 1) := by decide +kernel
theorem dModel_classes_47 : decode prog_14_method_81_code 47 = .ok (.aload_n 0, 1) := by decide +kernel
theorem dModel_classes_48 : decode prog_14_method_81_code 48 = .ok (.getfield 534, 3) := by decide +kernel
theorem dModel_classes_51 : decode prog_14_method_81_code 51 = .ok (.iload_n 1, 1) := by decide +kernel
theorem dModel_classes_52 : decode prog_14_method_81_code 52 = .ok (.baload, 1) := by decide +kernel
theorem dModel_classes_53 : decode prog_14_method_81_code 53 = .ok (.ifCond .eq 7, 3) := by decide +kernel
theorem dModel_classes_56 : decode prog_14_method_81_code 56 = .ok (.iconst 1, 1) := by decide +kernel
theorem dModel_classes_57 : decode prog_14_method_81_code 57 = .ok (.goto 4, 3) := by decide +kernel
theorem dModel_classes_60 : decode prog_14_method_81_code 60 = .ok (.iconst 0, 1) := by decide +kernel
theorem dModel_classes_61 : decode prog_14_method_81_code 61 = .ok (.putfield 372, 3) := by decide +kernel
theorem dModel_classes_64 : decode prog_14_method_81_code 64 = .ok (.aload_n 0, 1) := by decide +kernel
theorem dModel_classes_65 : decode prog_14_method_81_code 65 = .ok (.aload_n 0, 1) := by decide +kernel
theorem dModel_classes_66 : decode prog_14_method_81_code 66 = .ok (.getfield 531, 3) := by decide +kernel
theorem dModel_classes_69 : decode prog_14_method_81_code 69 = .ok (.iload_n 1, 1) := by decide +kernel
theorem dModel_classes_70 : decode prog_14_method_81_code 70 = .ok (.iaload, 1) := by decide +kernel
theorem dModel_classes_71 : decode prog_14_method_81_code 71 = .ok (.putfield 363, 3) := by decide +kernel
theorem dModel_classes_74 : decode prog_14_method_81_code 74 = .ok (.iconst 0, 1) := by decide +kernel
theorem dModel_classes_75 : decode prog_14_method_81_code 75 = .ok (.istore_n 2, 1) := by decide +kernel
theorem dModel_classes_76 : decode prog_14_method_81_code 76 = .ok (.iload_n 2, 1) := by decide +kernel
theorem dModel_classes_77 : decode prog_14_method_81_code 77 = .ok (.aload_n 0, 1) := by decide +kernel
theorem dModel_classes_78 : decode prog_14_method_81_code 78 = .ok (.getfield 279, 3) := by decide +kernel
theorem dModel_classes_81 : decode prog_14_method_81_code 81 = .ok (.aload_n 0, 1) := by decide +kernel
theorem dModel_classes_82 : decode prog_14_method_81_code 82 = .ok (.getfield 516, 3) := by decide +kernel
theorem dModel_classes_85 : decode prog_14_method_81_code 85 = .ok (.iaload, 1) := by decide +kernel
theorem dModel_classes_86 : decode prog_14_method_81_code 86 = .ok (.if_icmp .ge 23, 3) := by decide +kernel
theorem dModel_classes_89 : decode prog_14_method_81_code 89 = .ok (.aload_n 0, 1) := by decide +kernel
theorem dModel_classes_90 : decode prog_14_method_81_code 90 = .ok (.aload_n 0, 1) := by decide +kernel
theorem dModel_classes_91 : decode prog_14_method_81_code 91 = .ok (.getfield 516, 3) := by decide +kernel
theorem dModel_classes_94 : decode prog_14_method_81_code 94 = .ok (.iconst 5, 1) := by decide +kernel
theorem dModel_classes_95 : decode prog_14_method_81_code 95 = .ok (.iload_n 2, 1) := by decide +kernel
theorem dModel_classes_96 : decode prog_14_method_81_code 96 = .ok (.iadd, 1) := by decide +kernel
theorem dModel_classes_97 : decode prog_14_method_81_code 97 = .ok (.invokevirtual 384, 3) := by decide +kernel
theorem dModel_classes_100 : decode prog_14_method_81_code 100 = .ok (.ifCond .ne 9, 3) := by decide +kernel
theorem dModel_classes_103 : decode prog_14_method_81_code 103 = .ok (.iinc 2 1, 3) := by decide +kernel
theorem dModel_classes_106 : decode prog_14_method_81_code 106 = .ok (.goto (-30), 3) := by decide +kernel
theorem dModel_classes_109 : decode prog_14_method_81_code 109 = .ok (.aload_n 0, 1) := by decide +kernel
theorem dModel_classes_110 : decode prog_14_method_81_code 110 = .ok (.getfield 604, 3) := by decide +kernel
theorem dModel_classes_113 : decode prog_14_method_81_code 113 = .ok (.iload_n 1, 1) := by decide +kernel
theorem dModel_classes_114 : decode prog_14_method_81_code 114 = .ok (.iload_n 2, 1) := by decide +kernel
theorem dModel_classes_115 : decode prog_14_method_81_code 115 = .ok (.iastore, 1) := by decide +kernel
theorem dModel_classes_116 : decode prog_14_method_81_code 116 = .ok (.iinc 1 1, 3) := by decide +kernel
theorem dModel_classes_119 : decode prog_14_method_81_code 119 = .ok (.goto (-117), 3) := by decide +kernel
theorem dModel_classes_122 : decode prog_14_method_81_code 122 = .ok (.return_, 1) := by decide +kernel
theorem dModel_draw_0 : decode prog_14_method_82_code 0 = .ok (.aload_n 0, 1) := by decide +kernel
theorem dModel_draw_1 : decode prog_14_method_82_code 1 = .ok (.iload_n 1, 1) := by decide +kernel
theorem dModel_draw_2 : decode prog_14_method_82_code 2 = .ok (.invokevirtual 509, 3) := by decide +kernel
theorem dModel_draw_5 : decode prog_14_method_82_code 5 = .ok (.pop2, 1) := by decide +kernel
theorem dModel_draw_6 : decode prog_14_method_82_code 6 = .ok (.aload_n 0, 1) := by decide +kernel
theorem dModel_draw_7 : decode prog_14_method_82_code 7 = .ok (.getfield 480, 3) := by decide +kernel
theorem dModel_draw_10 : decode prog_14_method_82_code 10 = .ok (.istore_n 2, 1) := by decide +kernel
theorem dModel_draw_11 : decode prog_14_method_82_code 11 = .ok (.iconst 1, 1) := by decide +kernel
theorem dModel_draw_12 : decode prog_14_method_82_code 12 = .ok (.istore_n 3, 1) := by decide +kernel
theorem dModel_draw_13 : decode prog_14_method_82_code 13 = .ok (.iconst 0, 1) := by decide +kernel
theorem dModel_draw_14 : decode prog_14_method_82_code 14 = .ok (.istore 4, 2) := by decide +kernel
theorem dModel_draw_16 : decode prog_14_method_82_code 16 = .ok (.iload 4, 2) := by decide +kernel
theorem dModel_draw_18 : decode prog_14_method_82_code 18 = .ok (.iconst 5, 1) := by decide +kernel
theorem dModel_draw_19 : decode prog_14_method_82_code 19 = .ok (.if_icmp .gt 104, 3) := by decide +kernel
theorem dModel_draw_22 : decode prog_14_method_82_code 22 = .ok (.iload_n 3, 1) := by decide +kernel
theorem dModel_draw_23 : decode prog_14_method_82_code 23 = .ok (.ifCond .eq 100, 3) := by decide +kernel
theorem dModel_draw_26 : decode prog_14_method_82_code 26 = .ok (.iconst 0, 1) := by decide +kernel
theorem dModel_draw_27 : decode prog_14_method_82_code 27 = .ok (.istore 5, 2) := by decide +kernel
theorem dModel_draw_29 : decode prog_14_method_82_code 29 = .ok (.iload 5, 2) := by decide +kernel
theorem dModel_draw_31 : decode prog_14_method_82_code 31 = .ok (.aload_n 0, 1) := by decide +kernel
theorem dModel_draw_32 : decode prog_14_method_82_code 32 = .ok (.getfield 454, 3) := by decide +kernel
theorem dModel_draw_35 : decode prog_14_method_82_code 35 = .ok (.if_icmp .ge 82, 3) := by decide +kernel
theorem dModel_draw_38 : decode prog_14_method_82_code 38 = .ok (.iload_n 3, 1) := by decide +kernel
theorem dModel_draw_39 : decode prog_14_method_82_code 39 = .ok (.ifCond .eq 78, 3) := by decide +kernel
theorem dModel_draw_42 : decode prog_14_method_82_code 42 = .ok (.aload_n 0, 1) := by decide +kernel
theorem dModel_draw_43 : decode prog_14_method_82_code 43 = .ok (.getfield 457, 3) := by decide +kernel
theorem dModel_draw_46 : decode prog_14_method_82_code 46 = .ok (.iload 5, 2) := by decide +kernel
theorem dModel_draw_48 : decode prog_14_method_82_code 48 = .ok (.iaload, 1) := by decide +kernel
theorem dModel_draw_49 : decode prog_14_method_82_code 49 = .ok (.iload_n 1, 1) := by decide +kernel
theorem dModel_draw_50 : decode prog_14_method_82_code 50 = .ok (.if_icmp .ne 61, 3) := by decide +kernel
theorem dModel_draw_53 : decode prog_14_method_82_code 53 = .ok (.aload_n 0, 1) := by decide +kernel
theorem dModel_draw_54 : decode prog_14_method_82_code 54 = .ok (.iload 5, 2) := by decide +kernel
theorem dModel_draw_56 : decode prog_14_method_82_code 56 = .ok (.invokevirtual 460, 3) := by decide +kernel
theorem dModel_draw_59 : decode prog_14_method_82_code 59 = .ok (.ifCond .eq 52, 3) := by decide +kernel
theorem dModel_draw_62 : decode prog_14_method_82_code 62 = .ok (.aload_n 0, 1) := by decide +kernel
theorem dModel_draw_63 : decode prog_14_method_82_code 63 = .ok (.getfield 604, 3) := by decide +kernel
theorem dModel_draw_66 : decode prog_14_method_82_code 66 = .ok (.iload 5, 2) := by decide +kernel
theorem dModel_draw_68 : decode prog_14_method_82_code 68 = .ok (.iaload, 1) := by decide +kernel
theorem dModel_draw_69 : decode prog_14_method_82_code 69 = .ok (.iload 4, 2) := by decide +kernel
theorem dModel_draw_71 : decode prog_14_method_82_code 71 = .ok (.if_icmp .eq 6, 3) := by decide +kernel
theorem dModel_draw_74 : decode prog_14_method_82_code 74 = .ok (.goto 37, 3) := by decide +kernel
theorem dModel_draw_77 : decode prog_14_method_82_code 77 = .ok (.aload_n 0, 1) := by decide +kernel
theorem dModel_draw_78 : decode prog_14_method_82_code 78 = .ok (.getfield 469, 3) := by decide +kernel
theorem dModel_draw_81 : decode prog_14_method_82_code 81 = .ok (.iload_n 1, 1) := by decide +kernel
theorem dModel_draw_82 : decode prog_14_method_82_code 82 = .ok (.iaload, 1) := by decide +kernel
theorem dModel_draw_83 : decode prog_14_method_82_code 83 = .ok (.aload_n 0, 1) := by decide +kernel
theorem dModel_draw_84 : decode prog_14_method_82_code 84 = .ok (.getfield 463, 3) := by decide +kernel
theorem dModel_draw_87 : decode prog_14_method_82_code 87 = .ok (.iload 5, 2) := by decide +kernel
theorem dModel_draw_89 : decode prog_14_method_82_code 89 = .ok (.iaload, 1) := by decide +kernel
theorem dModel_draw_90 : decode prog_14_method_82_code 90 = .ok (.if_icmp .lt 7, 3) := by decide +kernel
theorem dModel_draw_93 : decode prog_14_method_82_code 93 = .ok (.iconst 1, 1) := by decide +kernel
theorem dModel_draw_94 : decode prog_14_method_82_code 94 = .ok (.goto 4, 3) := by decide +kernel
theorem dModel_draw_97 : decode prog_14_method_82_code 97 = .ok (.iconst 0, 1) := by decide +kernel
theorem dModel_draw_98 : decode prog_14_method_82_code 98 = .ok (.istore_n 3, 1) := by decide +kernel
theorem dModel_draw_99 : decode prog_14_method_82_code 99 = .ok (.iload_n 3, 1) := by decide +kernel
theorem dModel_draw_100 : decode prog_14_method_82_code 100 = .ok (.ifCond .eq 11, 3) := by decide +kernel
theorem dModel_draw_103 : decode prog_14_method_82_code 103 = .ok (.aload_n 0, 1) := by decide +kernel
theorem dModel_draw_104 : decode prog_14_method_82_code 104 = .ok (.iload 5, 2) := by decide +kernel
theorem dModel_draw_106 : decode prog_14_method_82_code 106 = .ok (.iload_n 1, 1) := by decide +kernel
theorem dModel_draw_107 : decode prog_14_method_82_code 107 = .ok (.iload_n 2, 1) := by decide +kernel
theorem dModel_draw_108 : decode prog_14_method_82_code 108 = .ok (.invokevirtual 607, 3) := by decide +kernel
theorem dModel_draw_111 : decode prog_14_method_82_code 111 = .ok (.iinc 5 1, 3) := by decide +kernel
theorem dModel_draw_114 : decode prog_14_method_82_code 114 = .ok (.goto (-85), 3) := by decide +kernel
theorem dModel_draw_117 : decode prog_14_method_82_code 117 = .ok (.iinc 4 1, 3) := by decide +kernel
theorem dModel_draw_120 : decode prog_14_method_82_code 120 = .ok (.goto (-104), 3) := by decide +kernel
theorem dModel_draw_123 : decode prog_14_method_82_code 123 = .ok (.return_, 1) := by decide +kernel
theorem dModel_drawOne_0 : decode prog_14_method_83_code 0 = .ok (.aload_n 0, 1) := by decide +kernel
theorem dModel_drawOne_1 : decode prog_14_method_83_code 1 = .ok (.getfield 469, 3) := by decide +kernel
theorem dModel_drawOne_4 : decode prog_14_method_83_code 4 = .ok (.iload_n 2, 1) := by decide +kernel
theorem dModel_drawOne_5 : decode prog_14_method_83_code 5 = .ok (.dup2, 1) := by decide +kernel
theorem dModel_drawOne_6 : decode prog_14_method_83_code 6 = .ok (.iaload, 1) := by decide +kernel
theorem dModel_drawOne_7 : decode prog_14_method_83_code 7 = .ok (.aload_n 0, 1) := by decide +kernel
theorem dModel_drawOne_8 : decode prog_14_method_83_code 8 = .ok (.getfield 463, 3) := by decide +kernel
theorem dModel_drawOne_11 : decode prog_14_method_83_code 11 = .ok (.iload_n 1, 1) := by decide +kernel
theorem dModel_drawOne_12 : decode prog_14_method_83_code 12 = .ok (.iaload, 1) := by decide +kernel
theorem dModel_drawOne_13 : decode prog_14_method_83_code 13 = .ok (.isub, 1) := by decide +kernel
theorem dModel_drawOne_14 : decode prog_14_method_83_code 14 = .ok (.iastore, 1) := by decide +kernel
theorem dModel_drawOne_15 : decode prog_14_method_83_code 15 = .ok (.aload_n 0, 1) := by decide +kernel
theorem dModel_drawOne_16 : decode prog_14_method_83_code 16 = .ok (.getfield 447, 3) := by decide +kernel
theorem dModel_drawOne_19 : decode prog_14_method_83_code 19 = .ok (.iload_n 1, 1) := by decide +kernel
theorem dModel_drawOne_20 : decode prog_14_method_83_code 20 = .ok (.aload_n 0, 1) := by decide +kernel
theorem dModel_drawOne_21 : decode prog_14_method_83_code 21 = .ok (.getfield 348, 3) := by decide +kernel
theorem dModel_drawOne_24 : decode prog_14_method_83_code 24 = .ok (.iastore, 1) := by decide +kernel
theorem dModel_drawOne_25 : decode prog_14_method_83_code 25 = .ok (.aload_n 0, 1) := by decide +kernel
theorem dModel_drawOne_26 : decode prog_14_method_83_code 26 = .ok (.dup, 1) := by decide +kernel
theorem dModel_drawOne_27 : decode prog_14_method_83_code 27 = .ok (.getfield 611, 3) := by decide +kernel
theorem dModel_drawOne_30 : decode prog_14_method_83_code 30 = .ok (.lconst 1, 1) := by decide +kernel
theorem dModel_drawOne_31 : decode prog_14_method_83_code 31 = .ok (.ladd, 1) := by decide +kernel
theorem dModel_drawOne_32 : decode prog_14_method_83_code 32 = .ok (.putfield 611, 3) := by decide +kernel
theorem dModel_drawOne_35 : decode prog_14_method_83_code 35 = .ok (.aload_n 0, 1) := by decide +kernel
theorem dModel_drawOne_36 : decode prog_14_method_83_code 36 = .ok (.dup, 1) := by decide +kernel
theorem dModel_drawOne_37 : decode prog_14_method_83_code 37 = .ok (.getfield 614, 3) := by decide +kernel
theorem dModel_drawOne_40 : decode prog_14_method_83_code 40 = .ok (.aload_n 0, 1) := by decide +kernel
theorem dModel_drawOne_41 : decode prog_14_method_83_code 41 = .ok (.getfield 348, 3) := by decide +kernel
theorem dModel_drawOne_44 : decode prog_14_method_83_code 44 = .ok (.aload_n 0, 1) := by decide +kernel
theorem dModel_drawOne_45 : decode prog_14_method_83_code 45 = .ok (.getfield 528, 3) := by decide +kernel
theorem dModel_drawOne_48 : decode prog_14_method_83_code 48 = .ok (.iload_n 1, 1) := by decide +kernel
theorem dModel_drawOne_49 : decode prog_14_method_83_code 49 = .ok (.iaload, 1) := by decide +kernel
theorem dModel_drawOne_50 : decode prog_14_method_83_code 50 = .ok (.isub, 1) := by decide +kernel
theorem dModel_drawOne_51 : decode prog_14_method_83_code 51 = .ok (.i2l, 1) := by decide +kernel
theorem dModel_drawOne_52 : decode prog_14_method_83_code 52 = .ok (.ladd, 1) := by decide +kernel
theorem dModel_drawOne_53 : decode prog_14_method_83_code 53 = .ok (.putfield 614, 3) := by decide +kernel
theorem dModel_drawOne_56 : decode prog_14_method_83_code 56 = .ok (.iload_n 3, 1) := by decide +kernel
theorem dModel_drawOne_57 : decode prog_14_method_83_code 57 = .ok (.ifCond .ge 20, 3) := by decide +kernel
theorem dModel_drawOne_60 : decode prog_14_method_83_code 60 = .ok (.aload_n 0, 1) := by decide +kernel
theorem dModel_drawOne_61 : decode prog_14_method_83_code 61 = .ok (.dup, 1) := by decide +kernel
theorem dModel_drawOne_62 : decode prog_14_method_83_code 62 = .ok (.getfield 617, 3) := by decide +kernel
theorem dModel_drawOne_65 : decode prog_14_method_83_code 65 = .ok (.aload_n 0, 1) := by decide +kernel
theorem dModel_drawOne_66 : decode prog_14_method_83_code 66 = .ok (.getfield 463, 3) := by decide +kernel
theorem dModel_drawOne_69 : decode prog_14_method_83_code 69 = .ok (.iload_n 1, 1) := by decide +kernel
theorem dModel_drawOne_70 : decode prog_14_method_83_code 70 = .ok (.iaload, 1) := by decide +kernel
theorem dModel_drawOne_71 : decode prog_14_method_83_code 71 = .ok (.i2l, 1) := by decide +kernel
theorem dModel_drawOne_72 : decode prog_14_method_83_code 72 = .ok (.ladd, 1) := by decide +kernel
theorem dModel_drawOne_73 : decode prog_14_method_83_code 73 = .ok (.putfield 617, 3) := by decide +kernel
theorem dModel_drawOne_76 : decode prog_14_method_83_code 76 = .ok (.return_, 1) := by decide +kernel
theorem dModel_drawOne_77 : decode prog_14_method_83_code 77 = .ok (.aload_n 0, 1) := by decide +kernel
theorem dModel_drawOne_78 : decode prog_14_method_83_code 78 = .ok (.getfield 269, 3) := by decide +kernel
theorem dModel_drawOne_81 : decode prog_14_method_83_code 81 = .ok (.bipush 16, 2) := by decide +kernel
theorem dModel_drawOne_83 : decode prog_14_method_83_code 83 = .ok (.aload_n 0, 1) := by decide +kernel
theorem dModel_drawOne_84 : decode prog_14_method_83_code 84 = .ok (.iload_n 2, 1) := by decide +kernel
theorem dModel_drawOne_85 : decode prog_14_method_83_code 85 = .ok (.invokevirtual 491, 3) := by decide +kernel
theorem dModel_drawOne_88 : decode prog_14_method_83_code 88 = .ok (.imul, 1) := by decide +kernel
theorem dModel_drawOne_89 : decode prog_14_method_83_code 89 = .ok (.aload_n 0, 1) := by decide +kernel
theorem dModel_drawOne_90 : decode prog_14_method_83_code 90 = .ok (.iload_n 3, 1) := by decide +kernel
theorem dModel_drawOne_91 : decode prog_14_method_83_code 91 = .ok (.invokevirtual 494, 3) := by decide +kernel
theorem dModel_drawOne_94 : decode prog_14_method_83_code 94 = .ok (.iadd, 1) := by decide +kernel
theorem dModel_drawOne_95 : decode prog_14_method_83_code 95 = .ok (.iaload, 1) := by decide +kernel
theorem dModel_drawOne_96 : decode prog_14_method_83_code 96 = .ok (.istore 4, 2) := by decide +kernel
theorem dModel_drawOne_98 : decode prog_14_method_83_code 98 = .ok (.iload 4, 2) := by decide +kernel
theorem dModel_drawOne_100 : decode prog_14_method_83_code 100 = .ok (.aload_n 0, 1) := by decide +kernel
theorem dModel_drawOne_101 : decode prog_14_method_83_code 101 = .ok (.getfield 397, 3) := by decide +kernel
theorem dModel_drawOne_104 : decode prog_14_method_83_code 104 = .ok (.imul, 1) := by decide +kernel
theorem dModel_drawOne_105 : decode prog_14_method_83_code 105 = .ok (.bipush 10, 2) := by decide +kernel
theorem dModel_drawOne_107 : decode prog_14_method_83_code 107 = .ok (.idiv, 1) := by decide +kernel
theorem dModel_drawOne_108 : decode prog_14_method_83_code 108 = .ok (.i2l, 1) := by decide +kernel
theorem dModel_drawOne_109 : decode prog_14_method_83_code 109 = .ok (.aload_n 0, 1) := by decide +kernel
theorem dModel_drawOne_110 : decode prog_14_method_83_code 110 = .ok (.getfield 463, 3) := by decide +kernel
theorem dModel_drawOne_113 : decode prog_14_method_83_code 113 = .ok (.iload_n 1, 1) := by decide +kernel
theorem dModel_drawOne_114 : decode prog_14_method_83_code 114 = .ok (.iaload, 1) := by decide +kernel
theorem dModel_drawOne_115 : decode prog_14_method_83_code 115 = .ok (.i2l, 1) := by decide +kernel
theorem dModel_drawOne_116 : decode prog_14_method_83_code 116 = .ok (.lmul, 1) := by decide +kernel
theorem dModel_drawOne_117 : decode prog_14_method_83_code 117 = .ok (.lstore 5, 2) := by decide +kernel
theorem dModel_drawOne_119 : decode prog_14_method_83_code 119 = .ok (.aload_n 0, 1) := by decide +kernel
theorem dModel_drawOne_120 : decode prog_14_method_83_code 120 = .ok (.getfield 578, 3) := by decide +kernel
theorem dModel_drawOne_123 : decode prog_14_method_83_code 123 = .ok (.aload_n 0, 1) := by decide +kernel
theorem dModel_drawOne_124 : decode prog_14_method_83_code 124 = .ok (.getfield 525, 3) := by decide +kernel
theorem dModel_drawOne_127 : decode prog_14_method_83_code 127 = .ok (.iload_n 1, 1) := by decide +kernel
theorem dModel_drawOne_128 : decode prog_14_method_83_code 128 = .ok (.iaload, 1) := by decide +kernel
theorem dModel_drawOne_129 : decode prog_14_method_83_code 129 = .ok (.dup2, 1) := by decide +kernel
theorem dModel_drawOne_130 : decode prog_14_method_83_code 130 = .ok (.laload, 1) := by decide +kernel
theorem dModel_drawOne_131 : decode prog_14_method_83_code 131 = .ok (.lload 5, 2) := by decide +kernel
theorem dModel_drawOne_133 : decode prog_14_method_83_code 133 = .ok (.aload_n 0, 1) := by decide +kernel
theorem dModel_drawOne_134 : decode prog_14_method_83_code 134 = .ok (.getfield 578, 3) := by decide +kernel
theorem dModel_drawOne_137 : decode prog_14_method_83_code 137 = .ok (.aload_n 0, 1) := by decide +kernel
theorem dModel_drawOne_138 : decode prog_14_method_83_code 138 = .ok (.getfield 525, 3) := by decide +kernel
theorem dModel_drawOne_141 : decode prog_14_method_83_code 141 = .ok (.iload_n 1, 1) := by decide +kernel
theorem dModel_drawOne_142 : decode prog_14_method_83_code 142 = .ok (.iaload, 1) := by decide +kernel
theorem dModel_drawOne_143 : decode prog_14_method_83_code 143 = .ok (.laload, 1) := by decide +kernel
theorem dModel_drawOne_144 : decode prog_14_method_83_code 144 = .ok (.lcmp, 1) := by decide +kernel
theorem dModel_drawOne_145 : decode prog_14_method_83_code 145 = .ok (.ifCond .ge 8, 3) := by decide +kernel
theorem dModel_drawOne_148 : decode prog_14_method_83_code 148 = .ok (.lload 5, 2) := by decide +kernel
theorem dModel_drawOne_150 : decode prog_14_method_83_code 150 = .ok (.goto 14, 3) := by decide +kernel
theorem dModel_drawOne_153 : decode prog_14_method_83_code 153 = .ok (.aload_n 0, 1) := by decide +kernel
theorem dModel_drawOne_154 : decode prog_14_method_83_code 154 = .ok (.getfield 578, 3) := by decide +kernel
theorem dModel_drawOne_157 : decode prog_14_method_83_code 157 = .ok (.aload_n 0, 1) := by decide +kernel
theorem dModel_drawOne_158 : decode prog_14_method_83_code 158 = .ok (.getfield 525, 3) := by decide +kernel
theorem dModel_drawOne_161 : decode prog_14_method_83_code 161 = .ok (.iload_n 1, 1) := by decide +kernel
theorem dModel_drawOne_162 : decode prog_14_method_83_code 162 = .ok (.iaload, 1) := by decide +kernel
theorem dModel_drawOne_163 : decode prog_14_method_83_code 163 = .ok (.laload, 1) := by decide +kernel
theorem dModel_drawOne_164 : decode prog_14_method_83_code 164 = .ok (.lsub, 1) := by decide +kernel
theorem dModel_drawOne_165 : decode prog_14_method_83_code 165 = .ok (.lastore, 1) := by decide +kernel
theorem dModel_drawOne_166 : decode prog_14_method_83_code 166 = .ok (.aload_n 0, 1) := by decide +kernel
theorem dModel_drawOne_167 : decode prog_14_method_83_code 167 = .ok (.aload_n 0, 1) := by decide +kernel
theorem dModel_drawOne_168 : decode prog_14_method_83_code 168 = .ok (.getfield 525, 3) := by decide +kernel
theorem dModel_drawOne_171 : decode prog_14_method_83_code 171 = .ok (.iload_n 1, 1) := by decide +kernel
theorem dModel_drawOne_172 : decode prog_14_method_83_code 172 = .ok (.iaload, 1) := by decide +kernel
theorem dModel_drawOne_173 : decode prog_14_method_83_code 173 = .ok (.iload 4, 2) := by decide +kernel
theorem dModel_drawOne_175 : decode prog_14_method_83_code 175 = .ok (.iconst 1, 1) := by decide +kernel
theorem dModel_drawOne_176 : decode prog_14_method_83_code 176 = .ok (.iload_n 3, 1) := by decide +kernel
theorem dModel_drawOne_177 : decode prog_14_method_83_code 177 = .ok (.aload_n 0, 1) := by decide +kernel
theorem dModel_drawOne_178 : decode prog_14_method_83_code 178 = .ok (.getfield 463, 3) := by decide +kernel
theorem dModel_drawOne_181 : decode prog_14_method_83_code 181 = .ok (.iload_n 1, 1) := by decide +kernel
theorem dModel_drawOne_182 : decode prog_14_method_83_code 182 = .ok (.iaload, 1) := by decide +kernel
theorem dModel_drawOne_183 : decode prog_14_method_83_code 183 = .ok (.iconst 0, 1) := by decide +kernel
theorem dModel_drawOne_184 : decode prog_14_method_83_code 184 = .ok (.iconst (-1), 1) := by decide +kernel
theorem dModel_drawOne_185 : decode prog_14_method_83_code 185 = .ok (.invokevirtual 620, 3) := by decide +kernel
theorem dModel_drawOne_188 : decode prog_14_method_83_code 188 = .ok (.return_, 1) := by decide +kernel
theorem dModel_eat_0 : decode prog_14_method_84_code 0 = .ok (.iconst 0, 1) := by decide +kernel
theorem dModel_eat_1 : decode prog_14_method_84_code 1 = .ok (.istore_n 1, 1) := by decide +kernel
theorem dModel_eat_2 : decode prog_14_method_84_code 2 = .ok (.iload_n 1, 1) := by decide +kernel
theorem dModel_eat_3 : decode prog_14_method_84_code 3 = .ok (.aload_n 0, 1) := by decide +kernel
theorem dModel_eat_4 : decode prog_14_method_84_code 4 = .ok (.invokevirtual 624, 3) := by decide +kernel
theorem dModel_eat_7 : decode prog_14_method_84_code 7 = .ok (.if_icmp .ge 95, 3) := by decide +kernel
theorem dModel_eat_10 : decode prog_14_method_84_code 10 = .ok (.aload_n 0, 1) := by decide +kernel
theorem dModel_eat_11 : decode prog_14_method_84_code 11 = .ok (.getfield 236, 3) := by decide +kernel
theorem dModel_eat_14 : decode prog_14_method_84_code 14 = .ok (.iconst 3, 1) := by decide +kernel
theorem dModel_eat_15 : decode prog_14_method_84_code 15 = .ok (.aload_n 0, 1) := by decide +kernel
theorem dModel_eat_16 : decode prog_14_method_84_code 16 = .ok (.getfield 147, 3) := by decide +kernel
theorem dModel_eat_19 : decode prog_14_method_84_code 19 = .ok (.imul, 1) := by decide +kernel
theorem dModel_eat_20 : decode prog_14_method_84_code 20 = .ok (.iload_n 1, 1) := by decide +kernel
theorem dModel_eat_21 : decode prog_14_method_84_code 21 = .ok (.iadd, 1) := by decide +kernel
theorem dModel_eat_22 : decode prog_14_method_84_code 22 = .ok (.iaload, 1) := by decide +kernel
theorem dModel_eat_23 : decode prog_14_method_84_code 23 = .ok (.istore_n 2, 1) := by decide +kernel
theorem dModel_eat_24 : decode prog_14_method_84_code 24 = .ok (.aload_n 0, 1) := by decide +kernel
theorem dModel_eat_25 : decode prog_14_method_84_code 25 = .ok (.getfield 627, 3) := by decide +kernel
theorem dModel_eat_28 : decode prog_14_method_84_code 28 = .ok (.iload_n 1, 1) := by decide +kernel
theorem dModel_eat_29 : decode prog_14_method_84_code 29 = .ok (.iload_n 2, 1) := by decide +kernel
theorem dModel_eat_30 : decode prog_14_method_84_code 30 = .ok (.aload_n 0, 1) := by decide +kernel
theorem dModel_eat_31 : decode prog_14_method_84_code 31 = .ok (.getfield 513, 3) := by decide +kernel
theorem dModel_eat_34 : decode prog_14_method_84_code 34 = .ok (.iload_n 1, 1) := by decide +kernel
theorem dModel_eat_35 : decode prog_14_method_84_code 35 = .ok (.iaload, 1) := by decide +kernel
theorem dModel_eat_36 : decode prog_14_method_84_code 36 = .ok (.if_icmp .le 14, 3) := by decide +kernel
theorem dModel_eat_39 : decode prog_14_method_84_code 39 = .ok (.iload_n 2, 1) := by decide +kernel
theorem dModel_eat_40 : decode prog_14_method_84_code 40 = .ok (.aload_n 0, 1) := by decide +kernel
theorem dModel_eat_41 : decode prog_14_method_84_code 41 = .ok (.getfield 513, 3) := by decide +kernel
theorem dModel_eat_44 : decode prog_14_method_84_code 44 = .ok (.iload_n 1, 1) := by decide +kernel
theorem dModel_eat_45 : decode prog_14_method_84_code 45 = .ok (.iaload, 1) := by decide +kernel
theorem dModel_eat_46 : decode prog_14_method_84_code 46 = .ok (.isub, 1) := by decide +kernel
theorem dModel_eat_47 : decode prog_14_method_84_code 47 = .ok (.goto 4, 3) := by decide +kernel
theorem dModel_eat_50 : decode prog_14_method_84_code 50 = .ok (.iconst 0, 1) := by decide +kernel
theorem dModel_eat_51 : decode prog_14_method_84_code 51 = .ok (.iastore, 1) := by decide +kernel
theorem dModel_eat_52 : decode prog_14_method_84_code 52 = .ok (.aload_n 0, 1) := by decide +kernel
theorem dModel_eat_53 : decode prog_14_method_84_code 53 = .ok (.getfield 513, 3) := by decide +kernel
theorem dModel_eat_56 : decode prog_14_method_84_code 56 = .ok (.iload_n 1, 1) := by decide +kernel
theorem dModel_eat_57 : decode prog_14_method_84_code 57 = .ok (.iload_n 2, 1) := by decide +kernel
theorem dModel_eat_58 : decode prog_14_method_84_code 58 = .ok (.aload_n 0, 1) := by decide +kernel
theorem dModel_eat_59 : decode prog_14_method_84_code 59 = .ok (.getfield 513, 3) := by decide +kernel
theorem dModel_eat_62 : decode prog_14_method_84_code 62 = .ok (.iload_n 1, 1) := by decide +kernel
theorem dModel_eat_63 : decode prog_14_method_84_code 63 = .ok (.iaload, 1) := by decide +kernel
theorem dModel_eat_64 : decode prog_14_method_84_code 64 = .ok (.if_icmp .le 7, 3) := by decide +kernel
theorem dModel_eat_67 : decode prog_14_method_84_code 67 = .ok (.iconst 0, 1) := by decide +kernel
theorem dModel_eat_68 : decode prog_14_method_84_code 68 = .ok (.goto 11, 3) := by decide +kernel
theorem dModel_eat_71 : decode prog_14_method_84_code 71 = .ok (.aload_n 0, 1) := by decide +kernel
theorem dModel_eat_72 : decode prog_14_method_84_code 72 = .ok (.getfield 513, 3) := by decide +kernel
theorem dModel_eat_75 : decode prog_14_method_84_code 75 = .ok (.iload_n 1, 1) := by decide +kernel
theorem dModel_eat_76 : decode prog_14_method_84_code 76 = .ok (.iaload, 1) := by decide +kernel
theorem dModel_eat_77 : decode prog_14_method_84_code 77 = .ok (.iload_n 2, 1) := by decide +kernel
theorem dModel_eat_78 : decode prog_14_method_84_code 78 = .ok (.isub, 1) := by decide +kernel
theorem dModel_eat_79 : decode prog_14_method_84_code 79 = .ok (.iastore, 1) := by decide +kernel
theorem dModel_eat_80 : decode prog_14_method_84_code 80 = .ok (.aload_n 0, 1) := by decide +kernel
theorem dModel_eat_81 : decode prog_14_method_84_code 81 = .ok (.dup, 1) := by decide +kernel
theorem dModel_eat_82 : decode prog_14_method_84_code 82 = .ok (.getfield 630, 3) := by decide +kernel
theorem dModel_eat_85 : decode prog_14_method_84_code 85 = .ok (.aload_n 0, 1) := by decide +kernel
theorem dModel_eat_86 : decode prog_14_method_84_code 86 = .ok (.getfield 627, 3) := by decide +kernel
theorem dModel_eat_89 : decode prog_14_method_84_code 89 = .ok (.iload_n 1, 1) := by decide +kernel
theorem dModel_eat_90 : decode prog_14_method_84_code 90 = .ok (.iaload, 1) := by decide +kernel
theorem dModel_eat_91 : decode prog_14_method_84_code 91 = .ok (.i2l, 1) := by decide +kernel
theorem dModel_eat_92 : decode prog_14_method_84_code 92 = .ok (.ladd, 1) := by decide +kernel
theorem dModel_eat_93 : decode prog_14_method_84_code 93 = .ok (.putfield 630, 3) := by decide +kernel
theorem dModel_eat_96 : decode prog_14_method_84_code 96 = .ok (.iinc 1 1, 3) := by decide +kernel
theorem dModel_eat_99 : decode prog_14_method_84_code 99 = .ok (.goto (-97), 3) := by decide +kernel
theorem dModel_eat_102 : decode prog_14_method_84_code 102 = .ok (.iconst 0, 1) := by decide +kernel
theorem dModel_eat_103 : decode prog_14_method_84_code 103 = .ok (.istore_n 1, 1) := by decide +kernel
theorem dModel_eat_104 : decode prog_14_method_84_code 104 = .ok (.iload_n 1, 1) := by decide +kernel
theorem dModel_eat_105 : decode prog_14_method_84_code 105 = .ok (.aload_n 0, 1) := by decide +kernel
theorem dModel_eat_106 : decode prog_14_method_84_code 106 = .ok (.invokevirtual 488, 3) := by decide +kernel
theorem dModel_eat_109 : decode prog_14_method_84_code 109 = .ok (.if_icmp .ge 52, 3) := by decide +kernel
theorem dModel_eat_112 : decode prog_14_method_84_code 112 = .ok (.aload_n 0, 1) := by decide +kernel
theorem dModel_eat_113 : decode prog_14_method_84_code 113 = .ok (.getfield 257, 3) := by decide +kernel
theorem dModel_eat_116 : decode prog_14_method_84_code 116 = .ok (.iconst 5, 1) := by decide +kernel
theorem dModel_eat_117 : decode prog_14_method_84_code 117 = .ok (.aload_n 0, 1) := by decide +kernel
theorem dModel_eat_118 : decode prog_14_method_84_code 118 = .ok (.getfield 147, 3) := by decide +kernel
theorem dModel_eat_121 : decode prog_14_method_84_code 121 = .ok (.imul, 1) := by decide +kernel
theorem dModel_eat_122 : decode prog_14_method_84_code 122 = .ok (.iload_n 1, 1) := by decide +kernel
theorem dModel_eat_123 : decode prog_14_method_84_code 123 = .ok (.iadd, 1) := by decide +kernel
theorem dModel_eat_124 : decode prog_14_method_84_code 124 = .ok (.iaload, 1) := by decide +kernel
theorem dModel_eat_125 : decode prog_14_method_84_code 125 = .ok (.istore_n 2, 1) := by decide +kernel
theorem dModel_eat_126 : decode prog_14_method_84_code 126 = .ok (.aload_n 0, 1) := by decide +kernel
theorem dModel_eat_127 : decode prog_14_method_84_code 127 = .ok (.getfield 474, 3) := by decide +kernel
theorem dModel_eat_130 : decode prog_14_method_84_code 130 = .ok (.iload_n 1, 1) := by decide +kernel
theorem dModel_eat_131 : decode prog_14_method_84_code 131 = .ok (.dup2, 1) := by decide +kernel
theorem dModel_eat_132 : decode prog_14_method_84_code 132 = .ok (.iaload, 1) := by decide +kernel
theorem dModel_eat_133 : decode prog_14_method_84_code 133 = .ok (.aload_n 0, 1) := by decide +kernel
theorem dModel_eat_134 : decode prog_14_method_84_code 134 = .ok (.getfield 474, 3) := by decide +kernel
theorem dModel_eat_137 : decode prog_14_method_84_code 137 = .ok (.iload_n 1, 1) := by decide +kernel
theorem dModel_eat_138 : decode prog_14_method_84_code 138 = .ok (.iaload, 1) := by decide +kernel
theorem dModel_eat_139 : decode prog_14_method_84_code 139 = .ok (.iload_n 2, 1) := by decide +kernel
theorem dModel_eat_140 : decode prog_14_method_84_code 140 = .ok (.if_icmp .ge 12, 3) := by decide +kernel
theorem dModel_eat_143 : decode prog_14_method_84_code 143 = .ok (.aload_n 0, 1) := by decide +kernel
theorem dModel_eat_144 : decode prog_14_method_84_code 144 = .ok (.getfield 474, 3) := by decide +kernel
theorem dModel_eat_147 : decode prog_14_method_84_code 147 = .ok (.iload_n 1, 1) := by decide +kernel
theorem dModel_eat_148 : decode prog_14_method_84_code 148 = .ok (.iaload, 1) := by decide +kernel
theorem dModel_eat_149 : decode prog_14_method_84_code 149 = .ok (.goto 4, 3) := by decide +kernel
theorem dModel_eat_152 : decode prog_14_method_84_code 152 = .ok (.iload_n 2, 1) := by decide +kernel
theorem dModel_eat_153 : decode prog_14_method_84_code 153 = .ok (.isub, 1) := by decide +kernel
theorem dModel_eat_154 : decode prog_14_method_84_code 154 = .ok (.iastore, 1) := by decide +kernel
theorem dModel_eat_155 : decode prog_14_method_84_code 155 = .ok (.iinc 1 1, 3) := by decide +kernel
theorem dModel_eat_158 : decode prog_14_method_84_code 158 = .ok (.goto (-54), 3) := by decide +kernel
theorem dModel_eat_161 : decode prog_14_method_84_code 161 = .ok (.return_, 1) := by decide +kernel
theorem dModel_weigh_0 : decode prog_14_method_85_code 0 = .ok (.iload 4, 2) := by decide +kernel
theorem dModel_weigh_2 : decode prog_14_method_85_code 2 = .ok (.ifCond .eq 13, 3) := by decide +kernel
theorem dModel_weigh_5 : decode prog_14_method_85_code 5 = .ok (.lload 6, 2) := by decide +kernel
theorem dModel_weigh_7 : decode prog_14_method_85_code 7 = .ok (.aload_n 0, 1) := by decide +kernel
theorem dModel_weigh_8 : decode prog_14_method_85_code 8 = .ok (.getfield 633, 3) := by decide +kernel
theorem dModel_weigh_11 : decode prog_14_method_85_code 11 = .ok (.lcmp, 1) := by decide +kernel
theorem dModel_weigh_12 : decode prog_14_method_85_code 12 = .ok (.ifCond .gt 4, 3) := by decide +kernel
theorem dModel_weigh_15 : decode prog_14_method_85_code 15 = .ok (.return_, 1) := by decide +kernel
theorem dModel_weigh_16 : decode prog_14_method_85_code 16 = .ok (.aload_n 0, 1) := by decide +kernel
theorem dModel_weigh_17 : decode prog_14_method_85_code 17 = .ok (.iload_n 1, 1) := by decide +kernel
theorem dModel_weigh_18 : decode prog_14_method_85_code 18 = .ok (.putfield 636, 3) := by decide +kernel
theorem dModel_weigh_21 : decode prog_14_method_85_code 21 = .ok (.aload_n 0, 1) := by decide +kernel
theorem dModel_weigh_22 : decode prog_14_method_85_code 22 = .ok (.iload_n 2, 1) := by decide +kernel
theorem dModel_weigh_23 : decode prog_14_method_85_code 23 = .ok (.putfield 639, 3) := by decide +kernel
theorem dModel_weigh_26 : decode prog_14_method_85_code 26 = .ok (.aload_n 0, 1) := by decide +kernel
theorem dModel_weigh_27 : decode prog_14_method_85_code 27 = .ok (.iload_n 3, 1) := by decide +kernel
theorem dModel_weigh_28 : decode prog_14_method_85_code 28 = .ok (.putfield 642, 3) := by decide +kernel
theorem dModel_weigh_31 : decode prog_14_method_85_code 31 = .ok (.aload_n 0, 1) := by decide +kernel
theorem dModel_weigh_32 : decode prog_14_method_85_code 32 = .ok (.iload 4, 2) := by decide +kernel
theorem dModel_weigh_34 : decode prog_14_method_85_code 34 = .ok (.putfield 645, 3) := by decide +kernel
theorem dModel_weigh_37 : decode prog_14_method_85_code 37 = .ok (.aload_n 0, 1) := by decide +kernel
theorem dModel_weigh_38 : decode prog_14_method_85_code 38 = .ok (.iload 5, 2) := by decide +kernel
theorem dModel_weigh_40 : decode prog_14_method_85_code 40 = .ok (.putfield 648, 3) := by decide +kernel
theorem dModel_weigh_43 : decode prog_14_method_85_code 43 = .ok (.aload_n 0, 1) := by decide +kernel
theorem dModel_weigh_44 : decode prog_14_method_85_code 44 = .ok (.lload 6, 2) := by decide +kernel
theorem dModel_weigh_46 : decode prog_14_method_85_code 46 = .ok (.putfield 633, 3) := by decide +kernel
theorem dModel_weigh_49 : decode prog_14_method_85_code 49 = .ok (.return_, 1) := by decide +kernel
theorem dModel_least_0 : decode prog_14_method_86_code 0 = .ok (.lload_n 1, 1) := by decide +kernel
theorem dModel_least_1 : decode prog_14_method_86_code 1 = .ok (.iload_n 0, 1) := by decide +kernel
theorem dModel_least_2 : decode prog_14_method_86_code 2 = .ok (.i2l, 1) := by decide +kernel
theorem dModel_least_3 : decode prog_14_method_86_code 3 = .ok (.lcmp, 1) := by decide +kernel
theorem dModel_least_4 : decode prog_14_method_86_code 4 = .ok (.ifCond .ge 8, 3) := by decide +kernel
theorem dModel_least_7 : decode prog_14_method_86_code 7 = .ok (.lload_n 1, 1) := by decide +kernel
theorem dModel_least_8 : decode prog_14_method_86_code 8 = .ok (.l2i, 1) := by decide +kernel
theorem dModel_least_9 : decode prog_14_method_86_code 9 = .ok (.goto 4, 3) := by decide +kernel
theorem dModel_least_12 : decode prog_14_method_86_code 12 = .ok (.iload_n 0, 1) := by decide +kernel
theorem dModel_least_13 : decode prog_14_method_86_code 13 = .ok (.ireturn, 1) := by decide +kernel
theorem dModel_affordable_0 : decode prog_14_method_87_code 0 = .ok (.iload 4, 2) := by decide +kernel
theorem dModel_affordable_2 : decode prog_14_method_87_code 2 = .ok (.ifCond .ne 7, 3) := by decide +kernel
theorem dModel_affordable_5 : decode prog_14_method_87_code 5 = .ok (.iload_n 1, 1) := by decide +kernel
theorem dModel_affordable_6 : decode prog_14_method_87_code 6 = .ok (.goto 12, 3) := by decide +kernel
theorem dModel_affordable_9 : decode prog_14_method_87_code 9 = .ok (.iload_n 1, 1) := by decide +kernel
theorem dModel_affordable_10 : decode prog_14_method_87_code 10 = .ok (.lload_n 2, 1) := by decide +kernel
theorem dModel_affordable_11 : decode prog_14_method_87_code 11 = .ok (.iload 4, 2) := by decide +kernel
theorem dModel_affordable_13 : decode prog_14_method_87_code 13 = .ok (.i2l, 1) := by decide +kernel
theorem dModel_affordable_14 : decode prog_14_method_87_code 14 = .ok (.ldiv, 1) := by decide +kernel
theorem dModel_affordable_15 : decode prog_14_method_87_code 15 = .ok (.invokestatic 651, 3) := by decide +kernel
theorem dModel_affordable_18 : decode prog_14_method_87_code 18 = .ok (.ireturn, 1) := by decide +kernel
theorem dModel_choose_0 : decode prog_14_method_88_code 0 = .ok (.aload_n 0, 1) := by decide +kernel
theorem dModel_choose_1 : decode prog_14_method_88_code 1 = .ok (.iconst 0, 1) := by decide +kernel
theorem dModel_choose_2 : decode prog_14_method_88_code 2 = .ok (.putfield 636, 3) := by decide +kernel
theorem dModel_choose_5 : decode prog_14_method_88_code 5 = .ok (.aload_n 0, 1) := by decide +kernel
theorem dModel_choose_6 : decode prog_14_method_88_code 6 = .ok (.iconst (-1), 1) := by decide +kernel
theorem dModel_choose_7 : decode prog_14_method_88_code 7 = .ok (.putfield 639, 3) := by decide +kernel
theorem dModel_choose_10 : decode prog_14_method_88_code 10 = .ok (.aload_n 0, 1) := by decide +kernel
theorem dModel_choose_11 : decode prog_14_method_88_code 11 = .ok (.iconst (-1), 1) := by decide +kernel
theorem dModel_choose_12 : decode prog_14_method_88_code 12 = .ok (.putfield 642, 3) := by decide +kernel
theorem dModel_choose_15 : decode prog_14_method_88_code 15 = .ok (.aload_n 0, 1) := by decide +kernel
theorem dModel_choose_16 : decode prog_14_method_88_code 16 = .ok (.iconst 0, 1) := by decide +kernel
theorem dModel_choose_17 : decode prog_14_method_88_code 17 = .ok (.putfield 645, 3) := by decide +kernel
theorem dModel_choose_20 : decode prog_14_method_88_code 20 = .ok (.aload_n 0, 1) := by decide +kernel
theorem dModel_choose_21 : decode prog_14_method_88_code 21 = .ok (.lconst 0, 1) := by decide +kernel
theorem dModel_choose_22 : decode prog_14_method_88_code 22 = .ok (.putfield 633, 3) := by decide +kernel
theorem dModel_choose_25 : decode prog_14_method_88_code 25 = .ok (.aload_n 0, 1) := by decide +kernel
theorem dModel_choose_26 : decode prog_14_method_88_code 26 = .ok (.aload_n 0, 1) := by decide +kernel
theorem dModel_choose_27 : decode prog_14_method_88_code 27 = .ok (.invokevirtual 655, 3) := by decide +kernel
theorem dModel_choose_30 : decode prog_14_method_88_code 30 = .ok (.putfield 658, 3) := by decide +kernel
theorem dModel_choose_33 : decode prog_14_method_88_code 33 = .ok (.aload_n 0, 1) := by decide +kernel
theorem dModel_choose_34 : decode prog_14_method_88_code 34 = .ok (.getfield 658, 3) := by decide +kernel
theorem dModel_choose_37 : decode prog_14_method_88_code 37 = .ok (.ifCond .ge 4, 3) := by decide +kernel
theorem dModel_choose_40 : decode prog_14_method_88_code 40 = .ok (.return_, 1) := by decide +kernel
theorem dModel_choose_41 : decode prog_14_method_88_code 41 = .ok (.iconst 0, 1) := by decide +kernel
theorem dModel_choose_42 : decode prog_14_method_88_code 42 = .ok (.istore_n 2, 1) := by decide +kernel
theorem dModel_choose_43 : decode prog_14_method_88_code 43 = .ok (.iload_n 2, 1) := by decide +kernel
theorem dModel_choose_44 : decode prog_14_method_88_code 44 = .ok (.aload_n 0, 1) := by decide +kernel
theorem dModel_choose_45 : decode prog_14_method_88_code 45 = .ok (.invokevirtual 624, 3) := by decide +kernel
theorem dModel_choose_48 : decode prog_14_method_88_code 48 = .ok (.if_icmp .ge 150, 3) := by decide +kernel
theorem dModel_choose_51 : decode prog_14_method_88_code 51 = .ok (.iconst 0, 1) := by decide +kernel
theorem dModel_choose_52 : decode prog_14_method_88_code 52 = .ok (.istore_n 3, 1) := by decide +kernel
theorem dModel_choose_53 : decode prog_14_method_88_code 53 = .ok (.iload_n 3, 1) := by decide +kernel
theorem dModel_choose_54 : decode prog_14_method_88_code 54 = .ok (.aload_n 0, 1) := by decide +kernel
theorem dModel_choose_55 : decode prog_14_method_88_code 55 = .ok (.invokevirtual 488, 3) := by decide +kernel
theorem dModel_choose_58 : decode prog_14_method_88_code 58 = .ok (.if_icmp .ge 134, 3) := by decide +kernel
theorem dModel_choose_61 : decode prog_14_method_88_code 61 = .ok (.aload_n 0, 1) := by decide +kernel
theorem dModel_choose_62 : decode prog_14_method_88_code 62 = .ok (.getfield 269, 3) := by decide +kernel
theorem dModel_choose_65 : decode prog_14_method_88_code 65 = .ok (.bipush 16, 2) := by decide +kernel
theorem dModel_choose_67 : decode prog_14_method_88_code 67 = .ok (.aload_n 0, 1) := by decide +kernel
theorem dModel_choose_68 : decode prog_14_method_88_code 68 = .ok (.iload_n 3, 1) := by decide +kernel
theorem dModel_choose_69 : decode prog_14_method_88_code 69 = .ok (.invokevirtual 494, 3) := by decide +kernel
theorem dModel_choose_72 : decode prog_14_method_88_code 72 = .ok (.imul, 1) := by decide +kernel
theorem dModel_choose_73 : decode prog_14_method_88_code 73 = .ok (.aload_n 0, 1) := by decide +kernel
theorem dModel_choose_74 : decode prog_14_method_88_code 74 = .ok (.iload_n 2, 1) := by decide +kernel
theorem dModel_choose_75 : decode prog_14_method_88_code 75 = .ok (.invokevirtual 661, 3) := by decide +kernel
theorem dModel_choose_78 : decode prog_14_method_88_code 78 = .ok (.iadd, 1) := by decide +kernel
theorem dModel_choose_79 : decode prog_14_method_88_code 79 = .ok (.iaload, 1) := by decide +kernel
theorem dModel_choose_80 : decode prog_14_method_88_code 80 = .ok (.istore 4, 2) := by decide +kernel
theorem dModel_choose_82 : decode prog_14_method_88_code 82 = .ok (.iload 4, 2) := by decide +kernel
theorem dModel_choose_84 : decode prog_14_method_88_code 84 = .ok (.ldc_w 272, 3) := by decide +kernel
theorem dModel_choose_87 : decode prog_14_method_88_code 87 = .ok (.if_icmp .lt 6, 3) := by decide +kernel
theorem dModel_choose_90 : decode prog_14_method_88_code 90 = .ok (.goto 96, 3) := by decide +kernel
theorem dModel_choose_93 : decode prog_14_method_88_code 93 = .ok (.bipush 10, 2) := by decide +kernel
theorem dModel_choose_95 : decode prog_14_method_88_code 95 = .ok (.aload_n 0, 1) := by decide +kernel
theorem dModel_choose_96 : decode prog_14_method_88_code 96 = .ok (.getfield 266, 3) := by decide +kernel
theorem dModel_choose_99 : decode prog_14_method_88_code 99 = .ok (.iconst 5, 1) := by decide +kernel
theorem dModel_choose_100 : decode prog_14_method_88_code 100 = .ok (.aload_n 0, 1) := by decide +kernel
theorem dModel_choose_101 : decode prog_14_method_88_code 101 = .ok (.getfield 147, 3) := by decide +kernel
theorem dModel_choose_104 : decode prog_14_method_88_code 104 = .ok (.imul, 1) := by decide +kernel
theorem dModel_choose_105 : decode prog_14_method_88_code 105 = .ok (.iload_n 3, 1) := by decide +kernel
theorem dModel_choose_106 : decode prog_14_method_88_code 106 = .ok (.iadd, 1) := by decide +kernel
theorem dModel_choose_107 : decode prog_14_method_88_code 107 = .ok (.iaload, 1) := by decide +kernel
theorem dModel_choose_108 : decode prog_14_method_88_code 108 = .ok (.imul, 1) := by decide +kernel
theorem dModel_choose_109 : decode prog_14_method_88_code 109 = .ok (.iload 4, 2) := by decide +kernel
theorem dModel_choose_111 : decode prog_14_method_88_code 111 = .ok (.aload_n 0, 1) := by decide +kernel
theorem dModel_choose_112 : decode prog_14_method_88_code 112 = .ok (.getfield 397, 3) := by decide +kernel
theorem dModel_choose_115 : decode prog_14_method_88_code 115 = .ok (.imul, 1) := by decide +kernel
theorem dModel_choose_116 : decode prog_14_method_88_code 116 = .ok (.iadd, 1) := by decide +kernel
theorem dModel_choose_117 : decode prog_14_method_88_code 117 = .ok (.istore 5, 2) := by decide +kernel
theorem dModel_choose_119 : decode prog_14_method_88_code 119 = .ok (.aload_n 0, 1) := by decide +kernel
theorem dModel_choose_120 : decode prog_14_method_88_code 120 = .ok (.aload_n 0, 1) := by decide +kernel
theorem dModel_choose_121 : decode prog_14_method_88_code 121 = .ok (.getfield 400, 3) := by decide +kernel
theorem dModel_choose_124 : decode prog_14_method_88_code 124 = .ok (.aload_n 0, 1) := by decide +kernel
theorem dModel_choose_125 : decode prog_14_method_88_code 125 = .ok (.getfield 664, 3) := by decide +kernel
theorem dModel_choose_128 : decode prog_14_method_88_code 128 = .ok (.iload_n 3, 1) := by decide +kernel
theorem dModel_choose_129 : decode prog_14_method_88_code 129 = .ok (.iaload, 1) := by decide +kernel
theorem dModel_choose_130 : decode prog_14_method_88_code 130 = .ok (.bipush 10, 2) := by decide +kernel
theorem dModel_choose_132 : decode prog_14_method_88_code 132 = .ok (.idiv, 1) := by decide +kernel
theorem dModel_choose_133 : decode prog_14_method_88_code 133 = .ok (.i2l, 1) := by decide +kernel
theorem dModel_choose_134 : decode prog_14_method_88_code 134 = .ok (.invokestatic 651, 3) := by decide +kernel
theorem dModel_choose_137 : decode prog_14_method_88_code 137 = .ok (.aload_n 0, 1) := by decide +kernel
theorem dModel_choose_138 : decode prog_14_method_88_code 138 = .ok (.getfield 578, 3) := by decide +kernel
theorem dModel_choose_141 : decode prog_14_method_88_code 141 = .ok (.iload_n 1, 1) := by decide +kernel
theorem dModel_choose_142 : decode prog_14_method_88_code 142 = .ok (.laload, 1) := by decide +kernel
theorem dModel_choose_143 : decode prog_14_method_88_code 143 = .ok (.iload 5, 2) := by decide +kernel
theorem dModel_choose_145 : decode prog_14_method_88_code 145 = .ok (.invokevirtual 667, 3) := by decide +kernel
theorem dModel_choose_148 : decode prog_14_method_88_code 148 = .ok (.istore 6, 2) := by decide +kernel
theorem dModel_choose_150 : decode prog_14_method_88_code 150 = .ok (.aload_n 0, 1) := by decide +kernel
theorem dModel_choose_151 : decode prog_14_method_88_code 151 = .ok (.iload_n 2, 1) := by decide +kernel
theorem dModel_choose_152 : decode prog_14_method_88_code 152 = .ok (.iload 4, 2) := by decide +kernel
theorem dModel_choose_154 : decode prog_14_method_88_code 154 = .ok (.invokevirtual 671, 3) := by decide +kernel
theorem dModel_choose_157 : decode prog_14_method_88_code 157 = .ok (.istore 7, 2) := by decide +kernel
theorem dModel_choose_159 : decode prog_14_method_88_code 159 = .ok (.aload_n 0, 1) := by decide +kernel
theorem dModel_choose_160 : decode prog_14_method_88_code 160 = .ok (.iconst 1, 1) := by decide +kernel
theorem dModel_choose_161 : decode prog_14_method_88_code 161 = .ok (.iload_n 2, 1) := by decide +kernel
theorem dModel_choose_162 : decode prog_14_method_88_code 162 = .ok (.iload_n 3, 1) := by decide +kernel
theorem dModel_choose_163 : decode prog_14_method_88_code 163 = .ok (.iload 6, 2) := by decide +kernel
theorem dModel_choose_165 : decode prog_14_method_88_code 165 = .ok (.iload 7, 2) := by decide +kernel
theorem dModel_choose_167 : decode prog_14_method_88_code 167 = .ok (.iload 6, 2) := by decide +kernel
theorem dModel_choose_169 : decode prog_14_method_88_code 169 = .ok (.i2l, 1) := by decide +kernel
theorem dModel_choose_170 : decode prog_14_method_88_code 170 = .ok (.iload 7, 2) := by decide +kernel
theorem dModel_choose_172 : decode prog_14_method_88_code 172 = .ok (.i2l, 1) := by decide +kernel
theorem dModel_choose_173 : decode prog_14_method_88_code 173 = .ok (.aload_n 0, 1) := by decide +kernel
theorem dModel_choose_174 : decode prog_14_method_88_code 174 = .ok (.getfield 506, 3) := by decide +kernel
theorem dModel_choose_177 : decode prog_14_method_88_code 177 = .ok (.lmul, 1) := by decide +kernel
theorem dModel_choose_178 : decode prog_14_method_88_code 178 = .ok (.iload 5, 2) := by decide +kernel
theorem dModel_choose_180 : decode prog_14_method_88_code 180 = .ok (.i2l, 1) := by decide +kernel
theorem dModel_choose_181 : decode prog_14_method_88_code 181 = .ok (.lsub, 1) := by decide +kernel
theorem dModel_choose_182 : decode prog_14_method_88_code 182 = .ok (.lmul, 1) := by decide +kernel
theorem dModel_choose_183 : decode prog_14_method_88_code 183 = .ok (.invokevirtual 674, 3) := by decide +kernel
theorem dModel_choose_186 : decode prog_14_method_88_code 186 = .ok (.iinc 3 1, 3) := by decide +kernel
theorem dModel_choose_189 : decode prog_14_method_88_code 189 = .ok (.goto (-136), 3) := by decide +kernel
theorem dModel_choose_192 : decode prog_14_method_88_code 192 = .ok (.iinc 2 1, 3) := by decide +kernel
theorem dModel_choose_195 : decode prog_14_method_88_code 195 = .ok (.goto (-152), 3) := by decide +kernel
theorem dModel_choose_198 : decode prog_14_method_88_code 198 = .ok (.iconst 0, 1) := by decide +kernel
theorem dModel_choose_199 : decode prog_14_method_88_code 199 = .ok (.istore_n 2, 1) := by decide +kernel
theorem dModel_choose_200 : decode prog_14_method_88_code 200 = .ok (.iload_n 2, 1) := by decide +kernel
theorem dModel_choose_201 : decode prog_14_method_88_code 201 = .ok (.aload_n 0, 1) := by decide +kernel
theorem dModel_choose_202 : decode prog_14_method_88_code 202 = .ok (.invokevirtual 624, 3) := by decide +kernel
theorem dModel_choose_205 : decode prog_14_method_88_code 205 = .ok (.if_icmp .ge 95, 3) := by decide +kernel
theorem dModel_choose_208 : decode prog_14_method_88_code 208 = .ok (.aload_n 0, 1) := by decide +kernel
theorem dModel_choose_209 : decode prog_14_method_88_code 209 = .ok (.getfield 584, 3) := by decide +kernel
theorem dModel_choose_212 : decode prog_14_method_88_code 212 = .ok (.iconst 3, 1) := by decide +kernel
theorem dModel_choose_213 : decode prog_14_method_88_code 213 = .ok (.iload_n 1, 1) := by decide +kernel
theorem dModel_choose_214 : decode prog_14_method_88_code 214 = .ok (.imul, 1) := by decide +kernel
theorem dModel_choose_215 : decode prog_14_method_88_code 215 = .ok (.iload_n 2, 1) := by decide +kernel
theorem dModel_choose_216 : decode prog_14_method_88_code 216 = .ok (.iadd, 1) := by decide +kernel
theorem dModel_choose_217 : decode prog_14_method_88_code 217 = .ok (.iaload, 1) := by decide +kernel
theorem dModel_choose_218 : decode prog_14_method_88_code 218 = .ok (.istore_n 3, 1) := by decide +kernel
theorem dModel_choose_219 : decode prog_14_method_88_code 219 = .ok (.iload_n 3, 1) := by decide +kernel
theorem dModel_choose_220 : decode prog_14_method_88_code 220 = .ok (.ifCond .lt 74, 3) := by decide +kernel
theorem dModel_choose_223 : decode prog_14_method_88_code 223 = .ok (.aload_n 0, 1) := by decide +kernel
theorem dModel_choose_224 : decode prog_14_method_88_code 224 = .ok (.getfield 348, 3) := by decide +kernel
theorem dModel_choose_227 : decode prog_14_method_88_code 227 = .ok (.iload_n 3, 1) := by decide +kernel
theorem dModel_choose_228 : decode prog_14_method_88_code 228 = .ok (.isub, 1) := by decide +kernel
theorem dModel_choose_229 : decode prog_14_method_88_code 229 = .ok (.bipush 12, 2) := by decide +kernel
theorem dModel_choose_231 : decode prog_14_method_88_code 231 = .ok (.if_icmp .ge 6, 3) := by decide +kernel
theorem dModel_choose_234 : decode prog_14_method_88_code 234 = .ok (.goto 60, 3) := by decide +kernel
theorem dModel_choose_237 : decode prog_14_method_88_code 237 = .ok (.aload_n 0, 1) := by decide +kernel
theorem dModel_choose_238 : decode prog_14_method_88_code 238 = .ok (.aload_n 0, 1) := by decide +kernel
theorem dModel_choose_239 : decode prog_14_method_88_code 239 = .ok (.getfield 400, 3) := by decide +kernel
theorem dModel_choose_242 : decode prog_14_method_88_code 242 = .ok (.aload_n 0, 1) := by decide +kernel
theorem dModel_choose_243 : decode prog_14_method_88_code 243 = .ok (.getfield 578, 3) := by decide +kernel
theorem dModel_choose_246 : decode prog_14_method_88_code 246 = .ok (.iload_n 1, 1) := by decide +kernel
theorem dModel_choose_247 : decode prog_14_method_88_code 247 = .ok (.laload, 1) := by decide +kernel
theorem dModel_choose_248 : decode prog_14_method_88_code 248 = .ok (.aload_n 0, 1) := by decide +kernel
theorem dModel_choose_249 : decode prog_14_method_88_code 249 = .ok (.getfield 409, 3) := by decide +kernel
theorem dModel_choose_252 : decode prog_14_method_88_code 252 = .ok (.invokevirtual 667, 3) := by decide +kernel
theorem dModel_choose_255 : decode prog_14_method_88_code 255 = .ok (.istore 4, 2) := by decide +kernel
theorem dModel_choose_257 : decode prog_14_method_88_code 257 = .ok (.aload_n 0, 1) := by decide +kernel
theorem dModel_choose_258 : decode prog_14_method_88_code 258 = .ok (.iload_n 2, 1) := by decide +kernel
theorem dModel_choose_259 : decode prog_14_method_88_code 259 = .ok (.iconst 0, 1) := by decide +kernel
theorem dModel_choose_260 : decode prog_14_method_88_code 260 = .ok (.invokevirtual 671, 3) := by decide +kernel
theorem dModel_choose_263 : decode prog_14_method_88_code 263 = .ok (.istore 5, 2) := by decide +kernel
theorem dModel_choose_265 : decode prog_14_method_88_code 265 = .ok (.aload_n 0, 1) := by decide +kernel
theorem dModel_choose_266 : decode prog_14_method_88_code 266 = .ok (.iconst 2, 1) := by decide +kernel
theorem dModel_choose_267 : decode prog_14_method_88_code 267 = .ok (.iload_n 2, 1) := by decide +kernel
theorem dModel_choose_268 : decode prog_14_method_88_code 268 = .ok (.iconst (-1), 1) := by decide +kernel
theorem dModel_choose_269 : decode prog_14_method_88_code 269 = .ok (.iload 4, 2) := by decide +kernel
theorem dModel_choose_271 : decode prog_14_method_88_code 271 = .ok (.iload 5, 2) := by decide +kernel
theorem dModel_choose_273 : decode prog_14_method_88_code 273 = .ok (.iload 4, 2) := by decide +kernel
theorem dModel_choose_275 : decode prog_14_method_88_code 275 = .ok (.i2l, 1) := by decide +kernel
theorem dModel_choose_276 : decode prog_14_method_88_code 276 = .ok (.iload 5, 2) := by decide +kernel
theorem dModel_choose_278 : decode prog_14_method_88_code 278 = .ok (.i2l, 1) := by decide +kernel
theorem dModel_choose_279 : decode prog_14_method_88_code 279 = .ok (.aload_n 0, 1) := by decide +kernel
theorem dModel_choose_280 : decode prog_14_method_88_code 280 = .ok (.getfield 506, 3) := by decide +kernel
theorem dModel_choose_283 : decode prog_14_method_88_code 283 = .ok (.lmul, 1) := by decide +kernel
theorem dModel_choose_284 : decode prog_14_method_88_code 284 = .ok (.aload_n 0, 1) := by decide +kernel
theorem dModel_choose_285 : decode prog_14_method_88_code 285 = .ok (.getfield 409, 3) := by decide +kernel
theorem dModel_choose_288 : decode prog_14_method_88_code 288 = .ok (.i2l, 1) := by decide +kernel
theorem dModel_choose_289 : decode prog_14_method_88_code 289 = .ok (.lsub, 1) := by decide +kernel
theorem dModel_choose_290 : decode prog_14_method_88_code 290 = .ok (.lmul, 1) := by decide +kernel
theorem dModel_choose_291 : decode prog_14_method_88_code 291 = .ok (.invokevirtual 674, 3) := by decide +kernel
theorem dModel_choose_294 : decode prog_14_method_88_code 294 = .ok (.iinc 2 1, 3) := by decide +kernel
theorem dModel_choose_297 : decode prog_14_method_88_code 297 = .ok (.goto (-97), 3) := by decide +kernel
theorem dModel_choose_300 : decode prog_14_method_88_code 300 = .ok (.iconst 0, 1) := by decide +kernel
theorem dModel_choose_301 : decode prog_14_method_88_code 301 = .ok (.istore_n 2, 1) := by decide +kernel
theorem dModel_choose_302 : decode prog_14_method_88_code 302 = .ok (.iload_n 2, 1) := by decide +kernel
theorem dModel_choose_303 : decode prog_14_method_88_code 303 = .ok (.aload_n 0, 1) := by decide +kernel
theorem dModel_choose_304 : decode prog_14_method_88_code 304 = .ok (.invokevirtual 624, 3) := by decide +kernel
theorem dModel_choose_307 : decode prog_14_method_88_code 307 = .ok (.if_icmp .ge 81, 3) := by decide +kernel
theorem dModel_choose_310 : decode prog_14_method_88_code 310 = .ok (.aload_n 0, 1) := by decide +kernel
theorem dModel_choose_311 : decode prog_14_method_88_code 311 = .ok (.getfield 584, 3) := by decide +kernel
theorem dModel_choose_314 : decode prog_14_method_88_code 314 = .ok (.iconst 3, 1) := by decide +kernel
theorem dModel_choose_315 : decode prog_14_method_88_code 315 = .ok (.iload_n 1, 1) := by decide +kernel
theorem dModel_choose_316 : decode prog_14_method_88_code 316 = .ok (.imul, 1) := by decide +kernel
theorem dModel_choose_317 : decode prog_14_method_88_code 317 = .ok (.iload_n 2, 1) := by decide +kernel
theorem dModel_choose_318 : decode prog_14_method_88_code 318 = .ok (.iadd, 1) := by decide +kernel
theorem dModel_choose_319 : decode prog_14_method_88_code 319 = .ok (.iaload, 1) := by decide +kernel
theorem dModel_choose_320 : decode prog_14_method_88_code 320 = .ok (.ifCond .ge 62, 3) := by decide +kernel
theorem dModel_choose_323 : decode prog_14_method_88_code 323 = .ok (.aload_n 0, 1) := by decide +kernel
theorem dModel_choose_324 : decode prog_14_method_88_code 324 = .ok (.getfield 578, 3) := by decide +kernel
theorem dModel_choose_327 : decode prog_14_method_88_code 327 = .ok (.iload_n 1, 1) := by decide +kernel
theorem dModel_choose_328 : decode prog_14_method_88_code 328 = .ok (.laload, 1) := by decide +kernel
theorem dModel_choose_329 : decode prog_14_method_88_code 329 = .ok (.aload_n 0, 1) := by decide +kernel
theorem dModel_choose_330 : decode prog_14_method_88_code 330 = .ok (.getfield 406, 3) := by decide +kernel
theorem dModel_choose_333 : decode prog_14_method_88_code 333 = .ok (.i2l, 1) := by decide +kernel
theorem dModel_choose_334 : decode prog_14_method_88_code 334 = .ok (.lcmp, 1) := by decide +kernel
theorem dModel_choose_335 : decode prog_14_method_88_code 335 = .ok (.ifCond .ge 6, 3) := by decide +kernel
theorem dModel_choose_338 : decode prog_14_method_88_code 338 = .ok (.goto 44, 3) := by decide +kernel
theorem dModel_choose_341 : decode prog_14_method_88_code 341 = .ok (.aload_n 0, 1) := by decide +kernel
theorem dModel_choose_342 : decode prog_14_method_88_code 342 = .ok (.iconst 3, 1) := by decide +kernel
theorem dModel_choose_343 : decode prog_14_method_88_code 343 = .ok (.iload_n 2, 1) := by decide +kernel
theorem dModel_choose_344 : decode prog_14_method_88_code 344 = .ok (.iconst (-1), 1) := by decide +kernel
theorem dModel_choose_345 : decode prog_14_method_88_code 345 = .ok (.iconst 1, 1) := by decide +kernel
theorem dModel_choose_346 : decode prog_14_method_88_code 346 = .ok (.iconst 0, 1) := by decide +kernel
theorem dModel_choose_347 : decode prog_14_method_88_code 347 = .ok (.ldc2_w 678, 3) := by decide +kernel
theorem dModel_choose_350 : decode prog_14_method_88_code 350 = .ok (.aload_n 0, 1) := by decide +kernel
theorem dModel_choose_351 : decode prog_14_method_88_code 351 = .ok (.iload_n 2, 1) := by decide +kernel
theorem dModel_choose_352 : decode prog_14_method_88_code 352 = .ok (.iconst 0, 1) := by decide +kernel
theorem dModel_choose_353 : decode prog_14_method_88_code 353 = .ok (.invokevirtual 671, 3) := by decide +kernel
theorem dModel_choose_356 : decode prog_14_method_88_code 356 = .ok (.i2l, 1) := by decide +kernel
theorem dModel_choose_357 : decode prog_14_method_88_code 357 = .ok (.aload_n 0, 1) := by decide +kernel
theorem dModel_choose_358 : decode prog_14_method_88_code 358 = .ok (.getfield 506, 3) := by decide +kernel
theorem dModel_choose_361 : decode prog_14_method_88_code 361 = .ok (.lmul, 1) := by decide +kernel
theorem dModel_choose_362 : decode prog_14_method_88_code 362 = .ok (.aload_n 0, 1) := by decide +kernel
theorem dModel_choose_363 : decode prog_14_method_88_code 363 = .ok (.getfield 409, 3) := by decide +kernel
theorem dModel_choose_366 : decode prog_14_method_88_code 366 = .ok (.i2l, 1) := by decide +kernel
theorem dModel_choose_367 : decode prog_14_method_88_code 367 = .ok (.lsub, 1) := by decide +kernel
theorem dModel_choose_368 : decode prog_14_method_88_code 368 = .ok (.lmul, 1) := by decide +kernel
theorem dModel_choose_369 : decode prog_14_method_88_code 369 = .ok (.aload_n 0, 1) := by decide +kernel
theorem dModel_choose_370 : decode prog_14_method_88_code 370 = .ok (.getfield 406, 3) := by decide +kernel
theorem dModel_choose_373 : decode prog_14_method_88_code 373 = .ok (.i2l, 1) := by decide +kernel
theorem dModel_choose_374 : decode prog_14_method_88_code 374 = .ok (.lsub, 1) := by decide +kernel
theorem dModel_choose_375 : decode prog_14_method_88_code 375 = .ok (.ldc2_w 678, 3) := by decide +kernel
theorem dModel_choose_378 : decode prog_14_method_88_code 378 = .ok (.ldiv, 1) := by decide +kernel
theorem dModel_choose_379 : decode prog_14_method_88_code 379 = .ok (.invokevirtual 674, 3) := by decide +kernel
theorem dModel_choose_382 : decode prog_14_method_88_code 382 = .ok (.iinc 2 1, 3) := by decide +kernel
theorem dModel_choose_385 : decode prog_14_method_88_code 385 = .ok (.goto (-83), 3) := by decide +kernel
theorem dModel_choose_388 : decode prog_14_method_88_code 388 = .ok (.aload_n 0, 1) := by decide +kernel
theorem dModel_choose_389 : decode prog_14_method_88_code 389 = .ok (.getfield 588, 3) := by decide +kernel
theorem dModel_choose_392 : decode prog_14_method_88_code 392 = .ok (.ifCond .le 62, 3) := by decide +kernel
theorem dModel_choose_395 : decode prog_14_method_88_code 395 = .ok (.aload_n 0, 1) := by decide +kernel
theorem dModel_choose_396 : decode prog_14_method_88_code 396 = .ok (.aload_n 0, 1) := by decide +kernel
theorem dModel_choose_397 : decode prog_14_method_88_code 397 = .ok (.getfield 400, 3) := by decide +kernel
theorem dModel_choose_400 : decode prog_14_method_88_code 400 = .ok (.aload_n 0, 1) := by decide +kernel
theorem dModel_choose_401 : decode prog_14_method_88_code 401 = .ok (.getfield 680, 3) := by decide +kernel
theorem dModel_choose_404 : decode prog_14_method_88_code 404 = .ok (.bipush 10, 2) := by decide +kernel
theorem dModel_choose_406 : decode prog_14_method_88_code 406 = .ok (.idiv, 1) := by decide +kernel
theorem dModel_choose_407 : decode prog_14_method_88_code 407 = .ok (.i2l, 1) := by decide +kernel
theorem dModel_choose_408 : decode prog_14_method_88_code 408 = .ok (.invokestatic 651, 3) := by decide +kernel
theorem dModel_choose_411 : decode prog_14_method_88_code 411 = .ok (.aload_n 0, 1) := by decide +kernel
theorem dModel_choose_412 : decode prog_14_method_88_code 412 = .ok (.getfield 578, 3) := by decide +kernel
theorem dModel_choose_415 : decode prog_14_method_88_code 415 = .ok (.iload_n 1, 1) := by decide +kernel
theorem dModel_choose_416 : decode prog_14_method_88_code 416 = .ok (.laload, 1) := by decide +kernel
theorem dModel_choose_417 : decode prog_14_method_88_code 417 = .ok (.bipush 10, 2) := by decide +kernel
theorem dModel_choose_419 : decode prog_14_method_88_code 419 = .ok (.aload_n 0, 1) := by decide +kernel
theorem dModel_choose_420 : decode prog_14_method_88_code 420 = .ok (.getfield 588, 3) := by decide +kernel
theorem dModel_choose_423 : decode prog_14_method_88_code 423 = .ok (.imul, 1) := by decide +kernel
theorem dModel_choose_424 : decode prog_14_method_88_code 424 = .ok (.invokevirtual 667, 3) := by decide +kernel
theorem dModel_choose_427 : decode prog_14_method_88_code 427 = .ok (.istore_n 2, 1) := by decide +kernel
theorem dModel_choose_428 : decode prog_14_method_88_code 428 = .ok (.aload_n 0, 1) := by decide +kernel
theorem dModel_choose_429 : decode prog_14_method_88_code 429 = .ok (.iconst 4, 1) := by decide +kernel
theorem dModel_choose_430 : decode prog_14_method_88_code 430 = .ok (.iconst (-1), 1) := by decide +kernel
theorem dModel_choose_431 : decode prog_14_method_88_code 431 = .ok (.iconst (-1), 1) := by decide +kernel
theorem dModel_choose_432 : decode prog_14_method_88_code 432 = .ok (.iload_n 2, 1) := by decide +kernel
theorem dModel_choose_433 : decode prog_14_method_88_code 433 = .ok (.iconst 0, 1) := by decide +kernel
theorem dModel_choose_434 : decode prog_14_method_88_code 434 = .ok (.iload_n 2, 1) := by decide +kernel
theorem dModel_choose_435 : decode prog_14_method_88_code 435 = .ok (.i2l, 1) := by decide +kernel
theorem dModel_choose_436 : decode prog_14_method_88_code 436 = .ok (.ldc2_w 683, 3) := by decide +kernel
theorem dModel_choose_439 : decode prog_14_method_88_code 439 = .ok (.lmul, 1) := by decide +kernel
theorem dModel_choose_440 : decode prog_14_method_88_code 440 = .ok (.aload_n 0, 1) := by decide +kernel
theorem dModel_choose_441 : decode prog_14_method_88_code 441 = .ok (.getfield 506, 3) := by decide +kernel
theorem dModel_choose_444 : decode prog_14_method_88_code 444 = .ok (.aload_n 0, 1) := by decide +kernel
theorem dModel_choose_445 : decode prog_14_method_88_code 445 = .ok (.getfield 588, 3) := by decide +kernel
theorem dModel_choose_448 : decode prog_14_method_88_code 448 = .ok (.i2l, 1) := by decide +kernel
theorem dModel_choose_449 : decode prog_14_method_88_code 449 = .ok (.lsub, 1) := by decide +kernel
theorem dModel_choose_450 : decode prog_14_method_88_code 450 = .ok (.lmul, 1) := by decide +kernel
theorem dModel_choose_451 : decode prog_14_method_88_code 451 = .ok (.invokevirtual 674, 3) := by decide +kernel
theorem dModel_choose_454 : decode prog_14_method_88_code 454 = .ok (.return_, 1) := by decide +kernel
theorem dModel_act_0 : decode prog_14_method_89_code 0 = .ok (.aload_n 0, 1) := by decide +kernel
theorem dModel_act_1 : decode prog_14_method_89_code 1 = .ok (.iload_n 1, 1) := by decide +kernel
theorem dModel_act_2 : decode prog_14_method_89_code 2 = .ok (.invokevirtual 685, 3) := by decide +kernel
theorem dModel_act_5 : decode prog_14_method_89_code 5 = .ok (.aload_n 0, 1) := by decide +kernel
theorem dModel_act_6 : decode prog_14_method_89_code 6 = .ok (.getfield 688, 3) := by decide +kernel
theorem dModel_act_9 : decode prog_14_method_89_code 9 = .ok (.iload_n 1, 1) := by decide +kernel
theorem dModel_act_10 : decode prog_14_method_89_code 10 = .ok (.aload_n 0, 1) := by decide +kernel
theorem dModel_act_11 : decode prog_14_method_89_code 11 = .ok (.getfield 636, 3) := by decide +kernel
theorem dModel_act_14 : decode prog_14_method_89_code 14 = .ok (.iastore, 1) := by decide +kernel
theorem dModel_act_15 : decode prog_14_method_89_code 15 = .ok (.aload_n 0, 1) := by decide +kernel
theorem dModel_act_16 : decode prog_14_method_89_code 16 = .ok (.getfield 691, 3) := by decide +kernel
theorem dModel_act_19 : decode prog_14_method_89_code 19 = .ok (.iload_n 1, 1) := by decide +kernel
theorem dModel_act_20 : decode prog_14_method_89_code 20 = .ok (.aload_n 0, 1) := by decide +kernel
theorem dModel_act_21 : decode prog_14_method_89_code 21 = .ok (.getfield 633, 3) := by decide +kernel
theorem dModel_act_24 : decode prog_14_method_89_code 24 = .ok (.lastore, 1) := by decide +kernel
theorem dModel_act_25 : decode prog_14_method_89_code 25 = .ok (.aload_n 0, 1) := by decide +kernel
theorem dModel_act_26 : decode prog_14_method_89_code 26 = .ok (.getfield 636, 3) := by decide +kernel
theorem dModel_act_29 : decode prog_14_method_89_code 29 = .ok (.tableswitch 330 1 4 #[31, 149, 211, 245], 31) := by decide +kernel
theorem dModel_act_60 : decode prog_14_method_89_code 60 = .ok (.aload_n 0, 1) := by decide +kernel
theorem dModel_act_61 : decode prog_14_method_89_code 61 = .ok (.getfield 269, 3) := by decide +kernel
theorem dModel_act_64 : decode prog_14_method_89_code 64 = .ok (.bipush 16, 2) := by decide +kernel
theorem dModel_act_66 : decode prog_14_method_89_code 66 = .ok (.aload_n 0, 1) := by decide +kernel
theorem dModel_act_67 : decode prog_14_method_89_code 67 = .ok (.aload_n 0, 1) := by decide +kernel
theorem dModel_act_68 : decode prog_14_method_89_code 68 = .ok (.getfield 642, 3) := by decide +kernel
theorem dModel_act_71 : decode prog_14_method_89_code 71 = .ok (.invokevirtual 494, 3) := by decide +kernel
theorem dModel_act_74 : decode prog_14_method_89_code 74 = .ok (.imul, 1) := by decide +kernel
theorem dModel_act_75 : decode prog_14_method_89_code 75 = .ok (.aload_n 0, 1) := by decide +kernel
theorem dModel_act_76 : decode prog_14_method_89_code 76 = .ok (.aload_n 0, 1) := by decide +kernel
theorem dModel_act_77 : decode prog_14_method_89_code 77 = .ok (.getfield 639, 3) := by decide +kernel
theorem dModel_act_80 : decode prog_14_method_89_code 80 = .ok (.invokevirtual 661, 3) := by decide +kernel
theorem dModel_act_83 : decode prog_14_method_89_code 83 = .ok (.iadd, 1) := by decide +kernel
theorem dModel_act_84 : decode prog_14_method_89_code 84 = .ok (.iaload, 1) := by decide +kernel
theorem dModel_act_85 : decode prog_14_method_89_code 85 = .ok (.istore_n 2, 1) := by decide +kernel
theorem dModel_act_86 : decode prog_14_method_89_code 86 = .ok (.aload_n 0, 1) := by decide +kernel
theorem dModel_act_87 : decode prog_14_method_89_code 87 = .ok (.getfield 578, 3) := by decide +kernel
theorem dModel_act_90 : decode prog_14_method_89_code 90 = .ok (.iload_n 1, 1) := by decide +kernel
theorem dModel_act_91 : decode prog_14_method_89_code 91 = .ok (.dup2, 1) := by decide +kernel
theorem dModel_act_92 : decode prog_14_method_89_code 92 = .ok (.laload, 1) := by decide +kernel
theorem dModel_act_93 : decode prog_14_method_89_code 93 = .ok (.aload_n 0, 1) := by decide +kernel
theorem dModel_act_94 : decode prog_14_method_89_code 94 = .ok (.getfield 645, 3) := by decide +kernel
theorem dModel_act_97 : decode prog_14_method_89_code 97 = .ok (.i2l, 1) := by decide +kernel
theorem dModel_act_98 : decode prog_14_method_89_code 98 = .ok (.bipush 10, 2) := by decide +kernel
theorem dModel_act_100 : decode prog_14_method_89_code 100 = .ok (.aload_n 0, 1) := by decide +kernel
theorem dModel_act_101 : decode prog_14_method_89_code 101 = .ok (.getfield 266, 3) := by decide +kernel
theorem dModel_act_104 : decode prog_14_method_89_code 104 = .ok (.iconst 5, 1) := by decide +kernel
theorem dModel_act_105 : decode prog_14_method_89_code 105 = .ok (.aload_n 0, 1) := by decide +kernel
theorem dModel_act_106 : decode prog_14_method_89_code 106 = .ok (.getfield 147, 3) := by decide +kernel
theorem dModel_act_109 : decode prog_14_method_89_code 109 = .ok (.imul, 1) := by decide +kernel
theorem dModel_act_110 : decode prog_14_method_89_code 110 = .ok (.aload_n 0, 1) := by decide +kernel
theorem dModel_act_111 : decode prog_14_method_89_code 111 = .ok (.getfield 642, 3) := by decide +kernel
theorem dModel_act_114 : decode prog_14_method_89_code 114 = .ok (.iadd, 1) := by decide +kernel
theorem dModel_act_115 : decode prog_14_method_89_code 115 = .ok (.iaload, 1) := by decide +kernel
theorem dModel_act_116 : decode prog_14_method_89_code 116 = .ok (.imul, 1) := by decide +kernel
theorem dModel_act_117 : decode prog_14_method_89_code 117 = .ok (.iload_n 2, 1) := by decide +kernel
theorem dModel_act_118 : decode prog_14_method_89_code 118 = .ok (.aload_n 0, 1) := by decide +kernel
theorem dModel_act_119 : decode prog_14_method_89_code 119 = .ok (.getfield 397, 3) := by decide +kernel
theorem dModel_act_122 : decode prog_14_method_89_code 122 = .ok (.imul, 1) := by decide +kernel
theorem dModel_act_123 : decode prog_14_method_89_code 123 = .ok (.iadd, 1) := by decide +kernel
theorem dModel_act_124 : decode prog_14_method_89_code 124 = .ok (.i2l, 1) := by decide +kernel
theorem dModel_act_125 : decode prog_14_method_89_code 125 = .ok (.lmul, 1) := by decide +kernel
theorem dModel_act_126 : decode prog_14_method_89_code 126 = .ok (.lsub, 1) := by decide +kernel
theorem dModel_act_127 : decode prog_14_method_89_code 127 = .ok (.lastore, 1) := by decide +kernel
theorem dModel_act_128 : decode prog_14_method_89_code 128 = .ok (.aload_n 0, 1) := by decide +kernel
theorem dModel_act_129 : decode prog_14_method_89_code 129 = .ok (.getfield 664, 3) := by decide +kernel
theorem dModel_act_132 : decode prog_14_method_89_code 132 = .ok (.aload_n 0, 1) := by decide +kernel
theorem dModel_act_133 : decode prog_14_method_89_code 133 = .ok (.getfield 642, 3) := by decide +kernel
theorem dModel_act_136 : decode prog_14_method_89_code 136 = .ok (.dup2, 1) := by decide +kernel
theorem dModel_act_137 : decode prog_14_method_89_code 137 = .ok (.iaload, 1) := by decide +kernel
theorem dModel_act_138 : decode prog_14_method_89_code 138 = .ok (.bipush 10, 2) := by decide +kernel
theorem dModel_act_140 : decode prog_14_method_89_code 140 = .ok (.aload_n 0, 1) := by decide +kernel
theorem dModel_act_141 : decode prog_14_method_89_code 141 = .ok (.getfield 645, 3) := by decide +kernel
theorem dModel_act_144 : decode prog_14_method_89_code 144 = .ok (.imul, 1) := by decide +kernel
theorem dModel_act_145 : decode prog_14_method_89_code 145 = .ok (.isub, 1) := by decide +kernel
theorem dModel_act_146 : decode prog_14_method_89_code 146 = .ok (.iastore, 1) := by decide +kernel
theorem dModel_act_147 : decode prog_14_method_89_code 147 = .ok (.aload_n 0, 1) := by decide +kernel
theorem dModel_act_148 : decode prog_14_method_89_code 148 = .ok (.iload_n 1, 1) := by decide +kernel
theorem dModel_act_149 : decode prog_14_method_89_code 149 = .ok (.iload_n 2, 1) := by decide +kernel
theorem dModel_act_150 : decode prog_14_method_89_code 150 = .ok (.iconst 0, 1) := by decide +kernel
theorem dModel_act_151 : decode prog_14_method_89_code 151 = .ok (.aload_n 0, 1) := by decide +kernel
theorem dModel_act_152 : decode prog_14_method_89_code 152 = .ok (.getfield 639, 3) := by decide +kernel
theorem dModel_act_155 : decode prog_14_method_89_code 155 = .ok (.aload_n 0, 1) := by decide +kernel
theorem dModel_act_156 : decode prog_14_method_89_code 156 = .ok (.getfield 645, 3) := by decide +kernel
theorem dModel_act_159 : decode prog_14_method_89_code 159 = .ok (.aload_n 0, 1) := by decide +kernel
theorem dModel_act_160 : decode prog_14_method_89_code 160 = .ok (.getfield 645, 3) := by decide +kernel
theorem dModel_act_163 : decode prog_14_method_89_code 163 = .ok (.aload_n 0, 1) := by decide +kernel
theorem dModel_act_164 : decode prog_14_method_89_code 164 = .ok (.getfield 648, 3) := by decide +kernel
theorem dModel_act_167 : decode prog_14_method_89_code 167 = .ok (.imul, 1) := by decide +kernel
theorem dModel_act_168 : decode prog_14_method_89_code 168 = .ok (.aload_n 0, 1) := by decide +kernel
theorem dModel_act_169 : decode prog_14_method_89_code 169 = .ok (.getfield 658, 3) := by decide +kernel
theorem dModel_act_172 : decode prog_14_method_89_code 172 = .ok (.invokevirtual 620, 3) := by decide +kernel
theorem dModel_act_175 : decode prog_14_method_89_code 175 = .ok (.goto 184, 3) := by decide +kernel
theorem dModel_act_178 : decode prog_14_method_89_code 178 = .ok (.aload_n 0, 1) := by decide +kernel
theorem dModel_act_179 : decode prog_14_method_89_code 179 = .ok (.getfield 578, 3) := by decide +kernel
theorem dModel_act_182 : decode prog_14_method_89_code 182 = .ok (.iload_n 1, 1) := by decide +kernel
theorem dModel_act_183 : decode prog_14_method_89_code 183 = .ok (.dup2, 1) := by decide +kernel
theorem dModel_act_184 : decode prog_14_method_89_code 184 = .ok (.laload, 1) := by decide +kernel
theorem dModel_act_185 : decode prog_14_method_89_code 185 = .ok (.aload_n 0, 1) := by decide +kernel
theorem dModel_act_186 : decode prog_14_method_89_code 186 = .ok (.getfield 645, 3) := by decide +kernel
theorem dModel_act_189 : decode prog_14_method_89_code 189 = .ok (.i2l, 1) := by decide +kernel
theorem dModel_act_190 : decode prog_14_method_89_code 190 = .ok (.aload_n 0, 1) := by decide +kernel
theorem dModel_act_191 : decode prog_14_method_89_code 191 = .ok (.getfield 409, 3) := by decide +kernel
theorem dModel_act_194 : decode prog_14_method_89_code 194 = .ok (.i2l, 1) := by decide +kernel
theorem dModel_act_195 : decode prog_14_method_89_code 195 = .ok (.lmul, 1) := by decide +kernel
theorem dModel_act_196 : decode prog_14_method_89_code 196 = .ok (.lsub, 1) := by decide +kernel
theorem dModel_act_197 : decode prog_14_method_89_code 197 = .ok (.lastore, 1) := by decide +kernel
theorem dModel_act_198 : decode prog_14_method_89_code 198 = .ok (.aload_n 0, 1) := by decide +kernel
theorem dModel_act_199 : decode prog_14_method_89_code 199 = .ok (.getfield 513, 3) := by decide +kernel
theorem dModel_act_202 : decode prog_14_method_89_code 202 = .ok (.aload_n 0, 1) := by decide +kernel
theorem dModel_act_203 : decode prog_14_method_89_code 203 = .ok (.getfield 639, 3) := by decide +kernel
theorem dModel_act_206 : decode prog_14_method_89_code 206 = .ok (.dup2, 1) := by decide +kernel
theorem dModel_act_207 : decode prog_14_method_89_code 207 = .ok (.iaload, 1) := by decide +kernel
theorem dModel_act_208 : decode prog_14_method_89_code 208 = .ok (.bipush 10, 2) := by decide +kernel
theorem dModel_act_210 : decode prog_14_method_89_code 210 = .ok (.aload_n 0, 1) := by decide +kernel
theorem dModel_act_211 : decode prog_14_method_89_code 211 = .ok (.getfield 645, 3) := by decide +kernel
theorem dModel_act_214 : decode prog_14_method_89_code 214 = .ok (.imul, 1) := by decide +kernel
theorem dModel_act_215 : decode prog_14_method_89_code 215 = .ok (.iadd, 1) := by decide +kernel
theorem dModel_act_216 : decode prog_14_method_89_code 216 = .ok (.iastore, 1) := by decide +kernel
theorem dModel_act_217 : decode prog_14_method_89_code 217 = .ok (.aload_n 0, 1) := by decide +kernel
theorem dModel_act_218 : decode prog_14_method_89_code 218 = .ok (.iload_n 1, 1) := by decide +kernel
theorem dModel_act_219 : decode prog_14_method_89_code 219 = .ok (.aload_n 0, 1) := by decide +kernel
theorem dModel_act_220 : decode prog_14_method_89_code 220 = .ok (.getfield 658, 3) := by decide +kernel
theorem dModel_act_223 : decode prog_14_method_89_code 223 = .ok (.aload_n 0, 1) := by decide +kernel
theorem dModel_act_224 : decode prog_14_method_89_code 224 = .ok (.getfield 645, 3) := by decide +kernel
theorem dModel_act_227 : decode prog_14_method_89_code 227 = .ok (.aload_n 0, 1) := by decide +kernel
theorem dModel_act_228 : decode prog_14_method_89_code 228 = .ok (.getfield 648, 3) := by decide +kernel
theorem dModel_act_231 : decode prog_14_method_89_code 231 = .ok (.imul, 1) := by decide +kernel
theorem dModel_act_232 : decode prog_14_method_89_code 232 = .ok (.iconst 0, 1) := by decide +kernel
theorem dModel_act_233 : decode prog_14_method_89_code 233 = .ok (.iconst 0, 1) := by decide +kernel
theorem dModel_act_234 : decode prog_14_method_89_code 234 = .ok (.invokevirtual 600, 3) := by decide +kernel
theorem dModel_act_237 : decode prog_14_method_89_code 237 = .ok (.goto 122, 3) := by decide +kernel
