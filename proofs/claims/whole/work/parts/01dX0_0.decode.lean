theorem dX0_isRateOfPeriod_0 : decode cX0_isRateOfPeriod 0 = .ok (.lload_n 0, 1) := by decide +kernel
theorem dX0_isRateOfPeriod_1 : decode cX0_isRateOfPeriod 1 = .ok (.lconst 0, 1) := by decide +kernel
theorem dX0_isRateOfPeriod_2 : decode cX0_isRateOfPeriod 2 = .ok (.lcmp, 1) := by decide +kernel
theorem dX0_isRateOfPeriod_3 : decode cX0_isRateOfPeriod 3 = .ok (.ifCond .lt 11, 3) := by decide +kernel
theorem dX0_isRateOfPeriod_6 : decode cX0_isRateOfPeriod 6 = .ok (.lload_n 0, 1) := by decide +kernel
theorem dX0_isRateOfPeriod_7 : decode cX0_isRateOfPeriod 7 = .ok (.ldc2_w 9, 3) := by decide +kernel
theorem dX0_isRateOfPeriod_10 : decode cX0_isRateOfPeriod 10 = .ok (.lcmp, 1) := by decide +kernel
theorem dX0_isRateOfPeriod_11 : decode cX0_isRateOfPeriod 11 = .ok (.ifCond .le 11, 3) := by decide +kernel
theorem dX0_isRateOfPeriod_14 : decode cX0_isRateOfPeriod 14 = .ok (.lload_n 0, 1) := by decide +kernel
theorem dX0_isRateOfPeriod_15 : decode cX0_isRateOfPeriod 15 = .ok (.ldc2_w 13, 3) := by decide +kernel
theorem dX0_isRateOfPeriod_18 : decode cX0_isRateOfPeriod 18 = .ok (.lcmp, 1) := by decide +kernel
theorem dX0_isRateOfPeriod_19 : decode cX0_isRateOfPeriod 19 = .ok (.ifCond .ne 7, 3) := by decide +kernel
theorem dX0_isRateOfPeriod_22 : decode cX0_isRateOfPeriod 22 = .ok (.iconst 1, 1) := by decide +kernel
theorem dX0_isRateOfPeriod_23 : decode cX0_isRateOfPeriod 23 = .ok (.goto 4, 3) := by decide +kernel
theorem dX0_isRateOfPeriod_26 : decode cX0_isRateOfPeriod 26 = .ok (.iconst 0, 1) := by decide +kernel
theorem dX0_isRateOfPeriod_27 : decode cX0_isRateOfPeriod 27 = .ok (.ireturn, 1) := by decide +kernel
theorem dX0_toDouble_0 : decode cX0_toDouble 0 = .ok (.lload_n 0, 1) := by decide +kernel
theorem dX0_toDouble_1 : decode cX0_toDouble 1 = .ok (.bipush 52, 2) := by decide +kernel
theorem dX0_toDouble_3 : decode cX0_toDouble 3 = .ok (.lushr, 1) := by decide +kernel
theorem dX0_toDouble_4 : decode cX0_toDouble 4 = .ok (.l2i, 1) := by decide +kernel
theorem dX0_toDouble_5 : decode cX0_toDouble 5 = .ok (.sipush 2047, 3) := by decide +kernel
theorem dX0_toDouble_8 : decode cX0_toDouble 8 = .ok (.iand, 1) := by decide +kernel
theorem dX0_toDouble_9 : decode cX0_toDouble 9 = .ok (.istore_n 2, 1) := by decide +kernel
theorem dX0_toDouble_10 : decode cX0_toDouble 10 = .ok (.lload_n 0, 1) := by decide +kernel
theorem dX0_toDouble_11 : decode cX0_toDouble 11 = .ok (.ldc2_w 15, 3) := by decide +kernel
theorem dX0_toDouble_14 : decode cX0_toDouble 14 = .ok (.land, 1) := by decide +kernel
theorem dX0_toDouble_15 : decode cX0_toDouble 15 = .ok (.lstore_n 3, 1) := by decide +kernel
theorem dX0_toDouble_16 : decode cX0_toDouble 16 = .ok (.iload_n 2, 1) := by decide +kernel
theorem dX0_toDouble_17 : decode cX0_toDouble 17 = .ok (.ifCond .ne 8, 3) := by decide +kernel
theorem dX0_toDouble_20 : decode cX0_toDouble 20 = .ok (.lload_n 3, 1) := by decide +kernel
theorem dX0_toDouble_21 : decode cX0_toDouble 21 = .ok (.l2d, 1) := by decide +kernel
theorem dX0_toDouble_22 : decode cX0_toDouble 22 = .ok (.goto 9, 3) := by decide +kernel
theorem dX0_toDouble_25 : decode cX0_toDouble 25 = .ok (.lload_n 3, 1) := by decide +kernel
theorem dX0_toDouble_26 : decode cX0_toDouble 26 = .ok (.ldc2_w 17, 3) := by decide +kernel
theorem dX0_toDouble_29 : decode cX0_toDouble 29 = .ok (.ladd, 1) := by decide +kernel
theorem dX0_toDouble_30 : decode cX0_toDouble 30 = .ok (.l2d, 1) := by decide +kernel
theorem dX0_toDouble_31 : decode cX0_toDouble 31 = .ok (.dstore 5, 2) := by decide +kernel
theorem dX0_toDouble_33 : decode cX0_toDouble 33 = .ok (.iload_n 2, 1) := by decide +kernel
theorem dX0_toDouble_34 : decode cX0_toDouble 34 = .ok (.iconst 1, 1) := by decide +kernel
theorem dX0_toDouble_35 : decode cX0_toDouble 35 = .ok (.invokestatic 19, 3) := by decide +kernel
theorem dX0_toDouble_38 : decode cX0_toDouble 38 = .ok (.sipush 1075, 3) := by decide +kernel
theorem dX0_toDouble_41 : decode cX0_toDouble 41 = .ok (.isub, 1) := by decide +kernel
theorem dX0_toDouble_42 : decode cX0_toDouble 42 = .ok (.istore 7, 2) := by decide +kernel
theorem dX0_toDouble_44 : decode cX0_toDouble 44 = .ok (.iconst 0, 1) := by decide +kernel
theorem dX0_toDouble_45 : decode cX0_toDouble 45 = .ok (.istore 8, 2) := by decide +kernel
theorem dX0_toDouble_47 : decode cX0_toDouble 47 = .ok (.iload 8, 2) := by decide +kernel
theorem dX0_toDouble_49 : decode cX0_toDouble 49 = .ok (.sipush 1100, 3) := by decide +kernel
theorem dX0_toDouble_52 : decode cX0_toDouble 52 = .ok (.if_icmp .ge 32, 3) := by decide +kernel
theorem dX0_toDouble_55 : decode cX0_toDouble 55 = .ok (.iload 7, 2) := by decide +kernel
theorem dX0_toDouble_57 : decode cX0_toDouble 57 = .ok (.ifCond .ge 27, 3) := by decide +kernel
theorem dX0_toDouble_60 : decode cX0_toDouble 60 = .ok (.dload 5, 2) := by decide +kernel
theorem dX0_toDouble_62 : decode cX0_toDouble 62 = .ok (.dconst 0, 1) := by decide +kernel
theorem dX0_toDouble_63 : decode cX0_toDouble 63 = .ok (.dcmp .l, 1) := by decide +kernel
theorem dX0_toDouble_64 : decode cX0_toDouble 64 = .ok (.ifCond .le 20, 3) := by decide +kernel
theorem dX0_toDouble_67 : decode cX0_toDouble 67 = .ok (.dload 5, 2) := by decide +kernel
theorem dX0_toDouble_69 : decode cX0_toDouble 69 = .ok (.ldc2_w 25, 3) := by decide +kernel
theorem dX0_toDouble_72 : decode cX0_toDouble 72 = .ok (.ddiv, 1) := by decide +kernel
theorem dX0_toDouble_73 : decode cX0_toDouble 73 = .ok (.dstore 5, 2) := by decide +kernel
theorem dX0_toDouble_75 : decode cX0_toDouble 75 = .ok (.iinc 7 1, 3) := by decide +kernel
theorem dX0_toDouble_78 : decode cX0_toDouble 78 = .ok (.iinc 8 1, 3) := by decide +kernel
theorem dX0_toDouble_81 : decode cX0_toDouble 81 = .ok (.goto (-34), 3) := by decide +kernel
theorem dX0_toDouble_84 : decode cX0_toDouble 84 = .ok (.dload 5, 2) := by decide +kernel
theorem dX0_toDouble_86 : decode cX0_toDouble 86 = .ok (.dreturn, 1) := by decide +kernel
theorem dX0_ofDouble_0 : decode cX0_ofDouble 0 = .ok (.dload_n 0, 1) := by decide +kernel
theorem dX0_ofDouble_1 : decode cX0_ofDouble 1 = .ok (.dconst 0, 1) := by decide +kernel
theorem dX0_ofDouble_2 : decode cX0_ofDouble 2 = .ok (.dcmp .l, 1) := by decide +kernel
theorem dX0_ofDouble_3 : decode cX0_ofDouble 3 = .ok (.ifCond .gt 5, 3) := by decide +kernel
theorem dX0_ofDouble_6 : decode cX0_ofDouble 6 = .ok (.lconst 0, 1) := by decide +kernel
theorem dX0_ofDouble_7 : decode cX0_ofDouble 7 = .ok (.lreturn, 1) := by decide +kernel
theorem dX0_ofDouble_8 : decode cX0_ofDouble 8 = .ok (.dload_n 0, 1) := by decide +kernel
theorem dX0_ofDouble_9 : decode cX0_ofDouble 9 = .ok (.dstore_n 2, 1) := by decide +kernel
theorem dX0_ofDouble_10 : decode cX0_ofDouble 10 = .ok (.sipush 1023, 3) := by decide +kernel
theorem dX0_ofDouble_13 : decode cX0_ofDouble 13 = .ok (.istore 4, 2) := by decide +kernel
theorem dX0_ofDouble_15 : decode cX0_ofDouble 15 = .ok (.iconst 0, 1) := by decide +kernel
theorem dX0_ofDouble_16 : decode cX0_ofDouble 16 = .ok (.istore 5, 2) := by decide +kernel
theorem dX0_ofDouble_18 : decode cX0_ofDouble 18 = .ok (.iload 5, 2) := by decide +kernel
theorem dX0_ofDouble_20 : decode cX0_ofDouble 20 = .ok (.sipush 1100, 3) := by decide +kernel
theorem dX0_ofDouble_23 : decode cX0_ofDouble 23 = .ok (.if_icmp .ge 26, 3) := by decide +kernel
theorem dX0_ofDouble_26 : decode cX0_ofDouble 26 = .ok (.dload_n 2, 1) := by decide +kernel
theorem dX0_ofDouble_27 : decode cX0_ofDouble 27 = .ok (.ldc2_w 25, 3) := by decide +kernel
theorem dX0_ofDouble_30 : decode cX0_ofDouble 30 = .ok (.dcmp .l, 1) := by decide +kernel
theorem dX0_ofDouble_31 : decode cX0_ofDouble 31 = .ok (.ifCond .lt 18, 3) := by decide +kernel
theorem dX0_ofDouble_34 : decode cX0_ofDouble 34 = .ok (.dload_n 2, 1) := by decide +kernel
theorem dX0_ofDouble_35 : decode cX0_ofDouble 35 = .ok (.ldc2_w 25, 3) := by decide +kernel
theorem dX0_ofDouble_38 : decode cX0_ofDouble 38 = .ok (.ddiv, 1) := by decide +kernel
theorem dX0_ofDouble_39 : decode cX0_ofDouble 39 = .ok (.dstore_n 2, 1) := by decide +kernel
theorem dX0_ofDouble_40 : decode cX0_ofDouble 40 = .ok (.iinc 4 1, 3) := by decide +kernel
theorem dX0_ofDouble_43 : decode cX0_ofDouble 43 = .ok (.iinc 5 1, 3) := by decide +kernel
theorem dX0_ofDouble_46 : decode cX0_ofDouble 46 = .ok (.goto (-28), 3) := by decide +kernel
theorem dX0_ofDouble_49 : decode cX0_ofDouble 49 = .ok (.iconst 0, 1) := by decide +kernel
theorem dX0_ofDouble_50 : decode cX0_ofDouble 50 = .ok (.istore 5, 2) := by decide +kernel
theorem dX0_ofDouble_52 : decode cX0_ofDouble 52 = .ok (.iload 5, 2) := by decide +kernel
theorem dX0_ofDouble_54 : decode cX0_ofDouble 54 = .ok (.sipush 1100, 3) := by decide +kernel
theorem dX0_ofDouble_57 : decode cX0_ofDouble 57 = .ok (.if_icmp .ge 24, 3) := by decide +kernel
theorem dX0_ofDouble_60 : decode cX0_ofDouble 60 = .ok (.dload_n 2, 1) := by decide +kernel
theorem dX0_ofDouble_61 : decode cX0_ofDouble 61 = .ok (.dconst 1, 1) := by decide +kernel
theorem dX0_ofDouble_62 : decode cX0_ofDouble 62 = .ok (.dcmp .g, 1) := by decide +kernel
theorem dX0_ofDouble_63 : decode cX0_ofDouble 63 = .ok (.ifCond .ge 18, 3) := by decide +kernel
theorem dX0_ofDouble_66 : decode cX0_ofDouble 66 = .ok (.dload_n 2, 1) := by decide +kernel
theorem dX0_ofDouble_67 : decode cX0_ofDouble 67 = .ok (.ldc2_w 25, 3) := by decide +kernel
theorem dX0_ofDouble_70 : decode cX0_ofDouble 70 = .ok (.dmul, 1) := by decide +kernel
theorem dX0_ofDouble_71 : decode cX0_ofDouble 71 = .ok (.dstore_n 2, 1) := by decide +kernel
theorem dX0_ofDouble_72 : decode cX0_ofDouble 72 = .ok (.iinc 4 (-1), 3) := by decide +kernel
theorem dX0_ofDouble_75 : decode cX0_ofDouble 75 = .ok (.iinc 5 1, 3) := by decide +kernel
theorem dX0_ofDouble_78 : decode cX0_ofDouble 78 = .ok (.goto (-26), 3) := by decide +kernel
theorem dX0_ofDouble_81 : decode cX0_ofDouble 81 = .ok (.iload 4, 2) := by decide +kernel
theorem dX0_ofDouble_83 : decode cX0_ofDouble 83 = .ok (.i2l, 1) := by decide +kernel
theorem dX0_ofDouble_84 : decode cX0_ofDouble 84 = .ok (.bipush 52, 2) := by decide +kernel
theorem dX0_ofDouble_86 : decode cX0_ofDouble 86 = .ok (.lshl, 1) := by decide +kernel
theorem dX0_ofDouble_87 : decode cX0_ofDouble 87 = .ok (.dload_n 2, 1) := by decide +kernel
theorem dX0_ofDouble_88 : decode cX0_ofDouble 88 = .ok (.dconst 1, 1) := by decide +kernel
theorem dX0_ofDouble_89 : decode cX0_ofDouble 89 = .ok (.dsub, 1) := by decide +kernel
theorem dX0_ofDouble_90 : decode cX0_ofDouble 90 = .ok (.ldc2_w 27, 3) := by decide +kernel
theorem dX0_ofDouble_93 : decode cX0_ofDouble 93 = .ok (.dmul, 1) := by decide +kernel
theorem dX0_ofDouble_94 : decode cX0_ofDouble 94 = .ok (.d2l, 1) := by decide +kernel
theorem dX0_ofDouble_95 : decode cX0_ofDouble 95 = .ok (.ladd, 1) := by decide +kernel
theorem dX0_ofDouble_96 : decode cX0_ofDouble 96 = .ok (.lreturn, 1) := by decide +kernel
theorem dX0_ofFloat_0 : decode cX0_ofFloat 0 = .ok (.fload_n 0, 1) := by decide +kernel
theorem dX0_ofFloat_1 : decode cX0_ofFloat 1 = .ok (.f2d, 1) := by decide +kernel
theorem dX0_ofFloat_2 : decode cX0_ofFloat 2 = .ok (.invokestatic 29, 3) := by decide +kernel
theorem dX0_ofFloat_5 : decode cX0_ofFloat 5 = .ok (.lstore_n 1, 1) := by decide +kernel
theorem dX0_ofFloat_6 : decode cX0_ofFloat 6 = .ok (.lload_n 1, 1) := by decide +kernel
theorem dX0_ofFloat_7 : decode cX0_ofFloat 7 = .ok (.lconst 0, 1) := by decide +kernel
theorem dX0_ofFloat_8 : decode cX0_ofFloat 8 = .ok (.lcmp, 1) := by decide +kernel
theorem dX0_ofFloat_9 : decode cX0_ofFloat 9 = .ok (.ifCond .ne 5, 3) := by decide +kernel
theorem dX0_ofFloat_12 : decode cX0_ofFloat 12 = .ok (.iconst 0, 1) := by decide +kernel
theorem dX0_ofFloat_13 : decode cX0_ofFloat 13 = .ok (.ireturn, 1) := by decide +kernel
theorem dX0_ofFloat_14 : decode cX0_ofFloat 14 = .ok (.lload_n 1, 1) := by decide +kernel
theorem dX0_ofFloat_15 : decode cX0_ofFloat 15 = .ok (.bipush 52, 2) := by decide +kernel
theorem dX0_ofFloat_17 : decode cX0_ofFloat 17 = .ok (.lushr, 1) := by decide +kernel
theorem dX0_ofFloat_18 : decode cX0_ofFloat 18 = .ok (.l2i, 1) := by decide +kernel
theorem dX0_ofFloat_19 : decode cX0_ofFloat 19 = .ok (.sipush 1023, 3) := by decide +kernel
theorem dX0_ofFloat_22 : decode cX0_ofFloat 22 = .ok (.isub, 1) := by decide +kernel
theorem dX0_ofFloat_23 : decode cX0_ofFloat 23 = .ok (.bipush 127, 2) := by decide +kernel
theorem dX0_ofFloat_25 : decode cX0_ofFloat 25 = .ok (.iadd, 1) := by decide +kernel
theorem dX0_ofFloat_26 : decode cX0_ofFloat 26 = .ok (.istore_n 3, 1) := by decide +kernel
theorem dX0_ofFloat_27 : decode cX0_ofFloat 27 = .ok (.iload_n 3, 1) := by decide +kernel
theorem dX0_ofFloat_28 : decode cX0_ofFloat 28 = .ok (.bipush 23, 2) := by decide +kernel
theorem dX0_ofFloat_30 : decode cX0_ofFloat 30 = .ok (.ishl, 1) := by decide +kernel
theorem dX0_ofFloat_31 : decode cX0_ofFloat 31 = .ok (.lload_n 1, 1) := by decide +kernel
theorem dX0_ofFloat_32 : decode cX0_ofFloat 32 = .ok (.ldc2_w 15, 3) := by decide +kernel
theorem dX0_ofFloat_35 : decode cX0_ofFloat 35 = .ok (.land, 1) := by decide +kernel
theorem dX0_ofFloat_36 : decode cX0_ofFloat 36 = .ok (.bipush 29, 2) := by decide +kernel
theorem dX0_ofFloat_38 : decode cX0_ofFloat 38 = .ok (.lushr, 1) := by decide +kernel
theorem dX0_ofFloat_39 : decode cX0_ofFloat 39 = .ok (.l2i, 1) := by decide +kernel
theorem dX0_ofFloat_40 : decode cX0_ofFloat 40 = .ok (.iadd, 1) := by decide +kernel
theorem dX0_ofFloat_41 : decode cX0_ofFloat 41 = .ok (.ireturn, 1) := by decide +kernel
