theorem dX2_firstOf_0 : decode cX2_firstOf 0 = .ok (.iload_n 0, 1) := by decide +kernel
theorem dX2_firstOf_1 : decode cX2_firstOf 1 = .ok (.bipush 12, 2) := by decide +kernel
theorem dX2_firstOf_3 : decode cX2_firstOf 3 = .ok (.idiv, 1) := by decide +kernel
theorem dX2_firstOf_4 : decode cX2_firstOf 4 = .ok (.istore_n 1, 1) := by decide +kernel
theorem dX2_firstOf_5 : decode cX2_firstOf 5 = .ok (.iload_n 1, 1) := by decide +kernel
theorem dX2_firstOf_6 : decode cX2_firstOf 6 = .ok (.iconst 3, 1) := by decide +kernel
theorem dX2_firstOf_7 : decode cX2_firstOf 7 = .ok (.iadd, 1) := by decide +kernel
theorem dX2_firstOf_8 : decode cX2_firstOf 8 = .ok (.iconst 4, 1) := by decide +kernel
theorem dX2_firstOf_9 : decode cX2_firstOf 9 = .ok (.idiv, 1) := by decide +kernel
theorem dX2_firstOf_10 : decode cX2_firstOf 10 = .ok (.istore_n 2, 1) := by decide +kernel
theorem dX2_firstOf_11 : decode cX2_firstOf 11 = .ok (.iload_n 1, 1) := by decide +kernel
theorem dX2_firstOf_12 : decode cX2_firstOf 12 = .ok (.iconst 4, 1) := by decide +kernel
theorem dX2_firstOf_13 : decode cX2_firstOf 13 = .ok (.irem, 1) := by decide +kernel
theorem dX2_firstOf_14 : decode cX2_firstOf 14 = .ok (.ifCond .ne 14, 3) := by decide +kernel
theorem dX2_firstOf_17 : decode cX2_firstOf 17 = .ok (.iload_n 0, 1) := by decide +kernel
theorem dX2_firstOf_18 : decode cX2_firstOf 18 = .ok (.bipush 12, 2) := by decide +kernel
theorem dX2_firstOf_20 : decode cX2_firstOf 20 = .ok (.irem, 1) := by decide +kernel
theorem dX2_firstOf_21 : decode cX2_firstOf 21 = .ok (.iconst 2, 1) := by decide +kernel
theorem dX2_firstOf_22 : decode cX2_firstOf 22 = .ok (.if_icmp .lt 6, 3) := by decide +kernel
theorem dX2_firstOf_25 : decode cX2_firstOf 25 = .ok (.iinc 2 1, 3) := by decide +kernel
theorem dX2_firstOf_28 : decode cX2_firstOf 28 = .ok (.iload_n 1, 1) := by decide +kernel
theorem dX2_firstOf_29 : decode cX2_firstOf 29 = .ok (.sipush 365, 3) := by decide +kernel
theorem dX2_firstOf_32 : decode cX2_firstOf 32 = .ok (.imul, 1) := by decide +kernel
theorem dX2_firstOf_33 : decode cX2_firstOf 33 = .ok (.iload_n 2, 1) := by decide +kernel
theorem dX2_firstOf_34 : decode cX2_firstOf 34 = .ok (.iadd, 1) := by decide +kernel
theorem dX2_firstOf_35 : decode cX2_firstOf 35 = .ok (.getstatic 9, 3) := by decide +kernel
theorem dX2_firstOf_38 : decode cX2_firstOf 38 = .ok (.iload_n 0, 1) := by decide +kernel
theorem dX2_firstOf_39 : decode cX2_firstOf 39 = .ok (.bipush 12, 2) := by decide +kernel
theorem dX2_firstOf_41 : decode cX2_firstOf 41 = .ok (.invokestatic 13, 3) := by decide +kernel
theorem dX2_firstOf_44 : decode cX2_firstOf 44 = .ok (.iaload, 1) := by decide +kernel
theorem dX2_firstOf_45 : decode cX2_firstOf 45 = .ok (.iadd, 1) := by decide +kernel
theorem dX2_firstOf_46 : decode cX2_firstOf 46 = .ok (.ireturn, 1) := by decide +kernel
theorem dX2_lengthOf_0 : decode cX2_lengthOf 0 = .ok (.iload_n 0, 1) := by decide +kernel
theorem dX2_lengthOf_1 : decode cX2_lengthOf 1 = .ok (.iconst 1, 1) := by decide +kernel
theorem dX2_lengthOf_2 : decode cX2_lengthOf 2 = .ok (.iadd, 1) := by decide +kernel
theorem dX2_lengthOf_3 : decode cX2_lengthOf 3 = .ok (.invokestatic 19, 3) := by decide +kernel
theorem dX2_lengthOf_6 : decode cX2_lengthOf 6 = .ok (.iload_n 0, 1) := by decide +kernel
theorem dX2_lengthOf_7 : decode cX2_lengthOf 7 = .ok (.invokestatic 19, 3) := by decide +kernel
theorem dX2_lengthOf_10 : decode cX2_lengthOf 10 = .ok (.isub, 1) := by decide +kernel
theorem dX2_lengthOf_11 : decode cX2_lengthOf 11 = .ok (.ireturn, 1) := by decide +kernel
theorem dX2_monthOf_0 : decode cX2_monthOf 0 = .ok (.iload_n 0, 1) := by decide +kernel
theorem dX2_monthOf_1 : decode cX2_monthOf 1 = .ok (.sipush 1461, 3) := by decide +kernel
theorem dX2_monthOf_4 : decode cX2_monthOf 4 = .ok (.idiv, 1) := by decide +kernel
theorem dX2_monthOf_5 : decode cX2_monthOf 5 = .ok (.iconst 4, 1) := by decide +kernel
theorem dX2_monthOf_6 : decode cX2_monthOf 6 = .ok (.imul, 1) := by decide +kernel
theorem dX2_monthOf_7 : decode cX2_monthOf 7 = .ok (.istore_n 1, 1) := by decide +kernel
theorem dX2_monthOf_8 : decode cX2_monthOf 8 = .ok (.iload_n 0, 1) := by decide +kernel
theorem dX2_monthOf_9 : decode cX2_monthOf 9 = .ok (.sipush 1461, 3) := by decide +kernel
theorem dX2_monthOf_12 : decode cX2_monthOf 12 = .ok (.irem, 1) := by decide +kernel
theorem dX2_monthOf_13 : decode cX2_monthOf 13 = .ok (.istore_n 2, 1) := by decide +kernel
theorem dX2_monthOf_14 : decode cX2_monthOf 14 = .ok (.iconst 1, 1) := by decide +kernel
theorem dX2_monthOf_15 : decode cX2_monthOf 15 = .ok (.istore_n 3, 1) := by decide +kernel
theorem dX2_monthOf_16 : decode cX2_monthOf 16 = .ok (.iload_n 2, 1) := by decide +kernel
theorem dX2_monthOf_17 : decode cX2_monthOf 17 = .ok (.sipush 366, 3) := by decide +kernel
theorem dX2_monthOf_20 : decode cX2_monthOf 20 = .ok (.if_icmp .lt 29, 3) := by decide +kernel
theorem dX2_monthOf_23 : decode cX2_monthOf 23 = .ok (.iload_n 1, 1) := by decide +kernel
theorem dX2_monthOf_24 : decode cX2_monthOf 24 = .ok (.iconst 1, 1) := by decide +kernel
theorem dX2_monthOf_25 : decode cX2_monthOf 25 = .ok (.iload_n 2, 1) := by decide +kernel
theorem dX2_monthOf_26 : decode cX2_monthOf 26 = .ok (.sipush 366, 3) := by decide +kernel
theorem dX2_monthOf_29 : decode cX2_monthOf 29 = .ok (.isub, 1) := by decide +kernel
theorem dX2_monthOf_30 : decode cX2_monthOf 30 = .ok (.sipush 365, 3) := by decide +kernel
theorem dX2_monthOf_33 : decode cX2_monthOf 33 = .ok (.idiv, 1) := by decide +kernel
theorem dX2_monthOf_34 : decode cX2_monthOf 34 = .ok (.iadd, 1) := by decide +kernel
theorem dX2_monthOf_35 : decode cX2_monthOf 35 = .ok (.iadd, 1) := by decide +kernel
theorem dX2_monthOf_36 : decode cX2_monthOf 36 = .ok (.istore_n 1, 1) := by decide +kernel
theorem dX2_monthOf_37 : decode cX2_monthOf 37 = .ok (.iload_n 2, 1) := by decide +kernel
theorem dX2_monthOf_38 : decode cX2_monthOf 38 = .ok (.sipush 366, 3) := by decide +kernel
theorem dX2_monthOf_41 : decode cX2_monthOf 41 = .ok (.isub, 1) := by decide +kernel
theorem dX2_monthOf_42 : decode cX2_monthOf 42 = .ok (.sipush 365, 3) := by decide +kernel
theorem dX2_monthOf_45 : decode cX2_monthOf 45 = .ok (.irem, 1) := by decide +kernel
theorem dX2_monthOf_46 : decode cX2_monthOf 46 = .ok (.istore_n 2, 1) := by decide +kernel
theorem dX2_monthOf_47 : decode cX2_monthOf 47 = .ok (.iconst 0, 1) := by decide +kernel
theorem dX2_monthOf_48 : decode cX2_monthOf 48 = .ok (.istore_n 3, 1) := by decide +kernel
theorem dX2_monthOf_49 : decode cX2_monthOf 49 = .ok (.bipush 11, 2) := by decide +kernel
theorem dX2_monthOf_51 : decode cX2_monthOf 51 = .ok (.istore 4, 2) := by decide +kernel
theorem dX2_monthOf_53 : decode cX2_monthOf 53 = .ok (.iload 4, 2) := by decide +kernel
theorem dX2_monthOf_55 : decode cX2_monthOf 55 = .ok (.ifCond .le 39, 3) := by decide +kernel
theorem dX2_monthOf_58 : decode cX2_monthOf 58 = .ok (.iload_n 2, 1) := by decide +kernel
theorem dX2_monthOf_59 : decode cX2_monthOf 59 = .ok (.getstatic 9, 3) := by decide +kernel
theorem dX2_monthOf_62 : decode cX2_monthOf 62 = .ok (.iload 4, 2) := by decide +kernel
theorem dX2_monthOf_64 : decode cX2_monthOf 64 = .ok (.iaload, 1) := by decide +kernel
theorem dX2_monthOf_65 : decode cX2_monthOf 65 = .ok (.iload 4, 2) := by decide +kernel
theorem dX2_monthOf_67 : decode cX2_monthOf 67 = .ok (.iconst 2, 1) := by decide +kernel
theorem dX2_monthOf_68 : decode cX2_monthOf 68 = .ok (.if_icmp .lt 7, 3) := by decide +kernel
theorem dX2_monthOf_71 : decode cX2_monthOf 71 = .ok (.iload_n 3, 1) := by decide +kernel
theorem dX2_monthOf_72 : decode cX2_monthOf 72 = .ok (.goto 4, 3) := by decide +kernel
theorem dX2_monthOf_75 : decode cX2_monthOf 75 = .ok (.iconst 0, 1) := by decide +kernel
theorem dX2_monthOf_76 : decode cX2_monthOf 76 = .ok (.iadd, 1) := by decide +kernel
theorem dX2_monthOf_77 : decode cX2_monthOf 77 = .ok (.if_icmp .lt 11, 3) := by decide +kernel
theorem dX2_monthOf_80 : decode cX2_monthOf 80 = .ok (.iload_n 1, 1) := by decide +kernel
theorem dX2_monthOf_81 : decode cX2_monthOf 81 = .ok (.bipush 12, 2) := by decide +kernel
theorem dX2_monthOf_83 : decode cX2_monthOf 83 = .ok (.imul, 1) := by decide +kernel
theorem dX2_monthOf_84 : decode cX2_monthOf 84 = .ok (.iload 4, 2) := by decide +kernel
theorem dX2_monthOf_86 : decode cX2_monthOf 86 = .ok (.iadd, 1) := by decide +kernel
theorem dX2_monthOf_87 : decode cX2_monthOf 87 = .ok (.ireturn, 1) := by decide +kernel
theorem dX2_monthOf_88 : decode cX2_monthOf 88 = .ok (.iinc 4 (-1), 3) := by decide +kernel
theorem dX2_monthOf_91 : decode cX2_monthOf 91 = .ok (.goto (-38), 3) := by decide +kernel
theorem dX2_monthOf_94 : decode cX2_monthOf 94 = .ok (.iload_n 1, 1) := by decide +kernel
theorem dX2_monthOf_95 : decode cX2_monthOf 95 = .ok (.bipush 12, 2) := by decide +kernel
theorem dX2_monthOf_97 : decode cX2_monthOf 97 = .ok (.imul, 1) := by decide +kernel
theorem dX2_monthOf_98 : decode cX2_monthOf 98 = .ok (.ireturn, 1) := by decide +kernel
theorem dX2_partsBetween_0 : decode cX2_partsBetween 0 = .ok (.iload_n 0, 1) := by decide +kernel
theorem dX2_partsBetween_1 : decode cX2_partsBetween 1 = .ok (.ifCond .ne 14, 3) := by decide +kernel
theorem dX2_partsBetween_4 : decode cX2_partsBetween 4 = .ok (.iload_n 2, 1) := by decide +kernel
theorem dX2_partsBetween_5 : decode cX2_partsBetween 5 = .ok (.invokestatic 23, 3) := by decide +kernel
theorem dX2_partsBetween_8 : decode cX2_partsBetween 8 = .ok (.iload_n 1, 1) := by decide +kernel
theorem dX2_partsBetween_9 : decode cX2_partsBetween 9 = .ok (.invokestatic 23, 3) := by decide +kernel
theorem dX2_partsBetween_12 : decode cX2_partsBetween 12 = .ok (.isub, 1) := by decide +kernel
theorem dX2_partsBetween_13 : decode cX2_partsBetween 13 = .ok (.i2l, 1) := by decide +kernel
theorem dX2_partsBetween_14 : decode cX2_partsBetween 14 = .ok (.lreturn, 1) := by decide +kernel
theorem dX2_partsBetween_15 : decode cX2_partsBetween 15 = .ok (.iload_n 0, 1) := by decide +kernel
theorem dX2_partsBetween_16 : decode cX2_partsBetween 16 = .ok (.iconst 3, 1) := by decide +kernel
theorem dX2_partsBetween_17 : decode cX2_partsBetween 17 = .ok (.if_icmp .ge 8, 3) := by decide +kernel
theorem dX2_partsBetween_20 : decode cX2_partsBetween 20 = .ok (.iload_n 2, 1) := by decide +kernel
theorem dX2_partsBetween_21 : decode cX2_partsBetween 21 = .ok (.iload_n 1, 1) := by decide +kernel
theorem dX2_partsBetween_22 : decode cX2_partsBetween 22 = .ok (.isub, 1) := by decide +kernel
theorem dX2_partsBetween_23 : decode cX2_partsBetween 23 = .ok (.i2l, 1) := by decide +kernel
theorem dX2_partsBetween_24 : decode cX2_partsBetween 24 = .ok (.lreturn, 1) := by decide +kernel
theorem dX2_partsBetween_25 : decode cX2_partsBetween 25 = .ok (.iload_n 2, 1) := by decide +kernel
theorem dX2_partsBetween_26 : decode cX2_partsBetween 26 = .ok (.invokestatic 26, 3) := by decide +kernel
theorem dX2_partsBetween_29 : decode cX2_partsBetween 29 = .ok (.iload_n 1, 1) := by decide +kernel
theorem dX2_partsBetween_30 : decode cX2_partsBetween 30 = .ok (.invokestatic 26, 3) := by decide +kernel
theorem dX2_partsBetween_33 : decode cX2_partsBetween 33 = .ok (.isub, 1) := by decide +kernel
theorem dX2_partsBetween_34 : decode cX2_partsBetween 34 = .ok (.i2l, 1) := by decide +kernel
theorem dX2_partsBetween_35 : decode cX2_partsBetween 35 = .ok (.lstore_n 3, 1) := by decide +kernel
theorem dX2_partsBetween_36 : decode cX2_partsBetween 36 = .ok (.lload_n 3, 1) := by decide +kernel
theorem dX2_partsBetween_37 : decode cX2_partsBetween 37 = .ok (.ldc2_w 29, 3) := by decide +kernel
theorem dX2_partsBetween_40 : decode cX2_partsBetween 40 = .ok (.lmul, 1) := by decide +kernel
theorem dX2_partsBetween_41 : decode cX2_partsBetween 41 = .ok (.iload_n 2, 1) := by decide +kernel
theorem dX2_partsBetween_42 : decode cX2_partsBetween 42 = .ok (.iload_n 1, 1) := by decide +kernel
theorem dX2_partsBetween_43 : decode cX2_partsBetween 43 = .ok (.isub, 1) := by decide +kernel
theorem dX2_partsBetween_44 : decode cX2_partsBetween 44 = .ok (.i2l, 1) := by decide +kernel
theorem dX2_partsBetween_45 : decode cX2_partsBetween 45 = .ok (.lload_n 3, 1) := by decide +kernel
theorem dX2_partsBetween_46 : decode cX2_partsBetween 46 = .ok (.lsub, 1) := by decide +kernel
theorem dX2_partsBetween_47 : decode cX2_partsBetween 47 = .ok (.ldc2_w 31, 3) := by decide +kernel
theorem dX2_partsBetween_50 : decode cX2_partsBetween 50 = .ok (.lmul, 1) := by decide +kernel
theorem dX2_partsBetween_51 : decode cX2_partsBetween 51 = .ok (.ladd, 1) := by decide +kernel
theorem dX2_partsBetween_52 : decode cX2_partsBetween 52 = .ok (.lreturn, 1) := by decide +kernel
theorem dX2_cents_0 : decode cX2_cents 0 = .ok (.iload_n 2, 1) := by decide +kernel
theorem dX2_cents_1 : decode cX2_cents 1 = .ok (.iconst 2, 1) := by decide +kernel
theorem dX2_cents_2 : decode cX2_cents 2 = .ok (.if_icmp .ge 9, 3) := by decide +kernel
theorem dX2_cents_5 : decode cX2_cents 5 = .ok (.ldc2_w 33, 3) := by decide +kernel
theorem dX2_cents_8 : decode cX2_cents 8 = .ok (.goto 17, 3) := by decide +kernel
theorem dX2_cents_11 : decode cX2_cents 11 = .ok (.iload_n 2, 1) := by decide +kernel
theorem dX2_cents_12 : decode cX2_cents 12 = .ok (.iconst 2, 1) := by decide +kernel
theorem dX2_cents_13 : decode cX2_cents 13 = .ok (.if_icmp .ne 9, 3) := by decide +kernel
theorem dX2_cents_16 : decode cX2_cents 16 = .ok (.ldc2_w 29, 3) := by decide +kernel
theorem dX2_cents_19 : decode cX2_cents 19 = .ok (.goto 6, 3) := by decide +kernel
theorem dX2_cents_22 : decode cX2_cents 22 = .ok (.ldc2_w 35, 3) := by decide +kernel
theorem dX2_cents_25 : decode cX2_cents 25 = .ok (.lstore 5, 2) := by decide +kernel
theorem dX2_cents_27 : decode cX2_cents 27 = .ok (.lload 5, 2) := by decide +kernel
theorem dX2_cents_29 : decode cX2_cents 29 = .ok (.ldc2_w 37, 3) := by decide +kernel
theorem dX2_cents_32 : decode cX2_cents 32 = .ok (.lmul, 1) := by decide +kernel
theorem dX2_cents_33 : decode cX2_cents 33 = .ok (.lstore 7, 2) := by decide +kernel
theorem dX2_cents_35 : decode cX2_cents 35 = .ok (.lload_n 0, 1) := by decide +kernel
theorem dX2_cents_36 : decode cX2_cents 36 = .ok (.lload_n 3, 1) := by decide +kernel
theorem dX2_cents_37 : decode cX2_cents 37 = .ok (.lmul, 1) := by decide +kernel
theorem dX2_cents_38 : decode cX2_cents 38 = .ok (.lload 7, 2) := by decide +kernel
theorem dX2_cents_40 : decode cX2_cents 40 = .ok (.ldc2_w 39, 3) := by decide +kernel
theorem dX2_cents_43 : decode cX2_cents 43 = .ok (.ldiv, 1) := by decide +kernel
theorem dX2_cents_44 : decode cX2_cents 44 = .ok (.ladd, 1) := by decide +kernel
theorem dX2_cents_45 : decode cX2_cents 45 = .ok (.lload 7, 2) := by decide +kernel
theorem dX2_cents_47 : decode cX2_cents 47 = .ok (.ldiv, 1) := by decide +kernel
theorem dX2_cents_48 : decode cX2_cents 48 = .ok (.lreturn, 1) := by decide +kernel
theorem dX2_thirties_0 : decode cX2_thirties 0 = .ok (.iload_n 0, 1) := by decide +kernel
theorem dX2_thirties_1 : decode cX2_thirties 1 = .ok (.invokestatic 41, 3) := by decide +kernel
theorem dX2_thirties_4 : decode cX2_thirties 4 = .ok (.istore_n 1, 1) := by decide +kernel
theorem dX2_thirties_5 : decode cX2_thirties 5 = .ok (.iload_n 1, 1) := by decide +kernel
theorem dX2_thirties_6 : decode cX2_thirties 6 = .ok (.bipush 30, 2) := by decide +kernel
theorem dX2_thirties_8 : decode cX2_thirties 8 = .ok (.imul, 1) := by decide +kernel
theorem dX2_thirties_9 : decode cX2_thirties 9 = .ok (.bipush 30, 2) := by decide +kernel
theorem dX2_thirties_11 : decode cX2_thirties 11 = .ok (.iconst 1, 1) := by decide +kernel
theorem dX2_thirties_12 : decode cX2_thirties 12 = .ok (.iload_n 0, 1) := by decide +kernel
theorem dX2_thirties_13 : decode cX2_thirties 13 = .ok (.iadd, 1) := by decide +kernel
theorem dX2_thirties_14 : decode cX2_thirties 14 = .ok (.iload_n 1, 1) := by decide +kernel
theorem dX2_thirties_15 : decode cX2_thirties 15 = .ok (.invokestatic 19, 3) := by decide +kernel
theorem dX2_thirties_18 : decode cX2_thirties 18 = .ok (.isub, 1) := by decide +kernel
theorem dX2_thirties_19 : decode cX2_thirties 19 = .ok (.invokestatic 44, 3) := by decide +kernel
theorem dX2_thirties_22 : decode cX2_thirties 22 = .ok (.iadd, 1) := by decide +kernel
theorem dX2_thirties_23 : decode cX2_thirties 23 = .ok (.ireturn, 1) := by decide +kernel
theorem dX2_leapYearDays_0 : decode cX2_leapYearDays 0 = .ok (.iload_n 0, 1) := by decide +kernel
theorem dX2_leapYearDays_1 : decode cX2_leapYearDays 1 = .ok (.sipush 1461, 3) := by decide +kernel
theorem dX2_leapYearDays_4 : decode cX2_leapYearDays 4 = .ok (.idiv, 1) := by decide +kernel
theorem dX2_leapYearDays_5 : decode cX2_leapYearDays 5 = .ok (.sipush 366, 3) := by decide +kernel
theorem dX2_leapYearDays_8 : decode cX2_leapYearDays 8 = .ok (.imul, 1) := by decide +kernel
theorem dX2_leapYearDays_9 : decode cX2_leapYearDays 9 = .ok (.sipush 366, 3) := by decide +kernel
theorem dX2_leapYearDays_12 : decode cX2_leapYearDays 12 = .ok (.iload_n 0, 1) := by decide +kernel
theorem dX2_leapYearDays_13 : decode cX2_leapYearDays 13 = .ok (.sipush 1461, 3) := by decide +kernel
theorem dX2_leapYearDays_16 : decode cX2_leapYearDays 16 = .ok (.irem, 1) := by decide +kernel
theorem dX2_leapYearDays_17 : decode cX2_leapYearDays 17 = .ok (.invokestatic 44, 3) := by decide +kernel
theorem dX2_leapYearDays_20 : decode cX2_leapYearDays 20 = .ok (.iadd, 1) := by decide +kernel
theorem dX2_leapYearDays_21 : decode cX2_leapYearDays 21 = .ok (.ireturn, 1) := by decide +kernel
