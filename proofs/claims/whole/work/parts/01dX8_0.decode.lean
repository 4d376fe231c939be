theorem dX8_init_0 : decode cX8_init 0 = .ok (.aload_n 0, 1) := by decide +kernel
theorem dX8_init_1 : decode cX8_init 1 = .ok (.invokespecial 3, 3) := by decide +kernel
theorem dX8_init_4 : decode cX8_init 4 = .ok (.aload_n 0, 1) := by decide +kernel
theorem dX8_init_5 : decode cX8_init 5 = .ok (.sipush 2524, 3) := by decide +kernel
theorem dX8_init_8 : decode cX8_init 8 = .ok (.newarray .long, 2) := by decide +kernel
theorem dX8_init_10 : decode cX8_init 10 = .ok (.putfield 9, 3) := by decide +kernel
theorem dX8_init_13 : decode cX8_init 13 = .ok (.aload_n 0, 1) := by decide +kernel
theorem dX8_init_14 : decode cX8_init 14 = .ok (.sipush 2524, 3) := by decide +kernel
theorem dX8_init_17 : decode cX8_init 17 = .ok (.newarray .long, 2) := by decide +kernel
theorem dX8_init_19 : decode cX8_init 19 = .ok (.putfield 13, 3) := by decide +kernel
theorem dX8_init_22 : decode cX8_init 22 = .ok (.aload_n 0, 1) := by decide +kernel
theorem dX8_init_23 : decode cX8_init 23 = .ok (.sipush 2524, 3) := by decide +kernel
theorem dX8_init_26 : decode cX8_init 26 = .ok (.newarray .long, 2) := by decide +kernel
theorem dX8_init_28 : decode cX8_init 28 = .ok (.putfield 16, 3) := by decide +kernel
theorem dX8_init_31 : decode cX8_init 31 = .ok (.aload_n 0, 1) := by decide +kernel
theorem dX8_init_32 : decode cX8_init 32 = .ok (.sipush 2524, 3) := by decide +kernel
theorem dX8_init_35 : decode cX8_init 35 = .ok (.newarray .long, 2) := by decide +kernel
theorem dX8_init_37 : decode cX8_init 37 = .ok (.putfield 19, 3) := by decide +kernel
theorem dX8_init_40 : decode cX8_init 40 = .ok (.aload_n 0, 1) := by decide +kernel
theorem dX8_init_41 : decode cX8_init 41 = .ok (.bipush 60, 2) := by decide +kernel
theorem dX8_init_43 : decode cX8_init 43 = .ok (.newarray .int, 2) := by decide +kernel
theorem dX8_init_45 : decode cX8_init 45 = .ok (.putfield 22, 3) := by decide +kernel
theorem dX8_init_48 : decode cX8_init 48 = .ok (.aload_n 0, 1) := by decide +kernel
theorem dX8_init_49 : decode cX8_init 49 = .ok (.bipush 60, 2) := by decide +kernel
theorem dX8_init_51 : decode cX8_init 51 = .ok (.newarray .long, 2) := by decide +kernel
theorem dX8_init_53 : decode cX8_init 53 = .ok (.putfield 26, 3) := by decide +kernel
theorem dX8_init_56 : decode cX8_init 56 = .ok (.aload_n 0, 1) := by decide +kernel
theorem dX8_init_57 : decode cX8_init 57 = .ok (.bipush 60, 2) := by decide +kernel
theorem dX8_init_59 : decode cX8_init 59 = .ok (.newarray .long, 2) := by decide +kernel
theorem dX8_init_61 : decode cX8_init 61 = .ok (.putfield 29, 3) := by decide +kernel
theorem dX8_init_64 : decode cX8_init 64 = .ok (.aload_n 0, 1) := by decide +kernel
theorem dX8_init_65 : decode cX8_init 65 = .ok (.bipush 60, 2) := by decide +kernel
theorem dX8_init_67 : decode cX8_init 67 = .ok (.newarray .long, 2) := by decide +kernel
theorem dX8_init_69 : decode cX8_init 69 = .ok (.putfield 32, 3) := by decide +kernel
theorem dX8_init_72 : decode cX8_init 72 = .ok (.aload_n 0, 1) := by decide +kernel
theorem dX8_init_73 : decode cX8_init 73 = .ok (.bipush 6, 2) := by decide +kernel
theorem dX8_init_75 : decode cX8_init 75 = .ok (.newarray .long, 2) := by decide +kernel
theorem dX8_init_77 : decode cX8_init 77 = .ok (.putfield 35, 3) := by decide +kernel
theorem dX8_init_80 : decode cX8_init 80 = .ok (.aload_n 0, 1) := by decide +kernel
theorem dX8_init_81 : decode cX8_init 81 = .ok (.bipush 120, 2) := by decide +kernel
theorem dX8_init_83 : decode cX8_init 83 = .ok (.newarray .int, 2) := by decide +kernel
theorem dX8_init_85 : decode cX8_init 85 = .ok (.putfield 38, 3) := by decide +kernel
theorem dX8_init_88 : decode cX8_init 88 = .ok (.aload_n 0, 1) := by decide +kernel
theorem dX8_init_89 : decode cX8_init 89 = .ok (.bipush 6, 2) := by decide +kernel
theorem dX8_init_91 : decode cX8_init 91 = .ok (.newarray .int, 2) := by decide +kernel
theorem dX8_init_93 : decode cX8_init 93 = .ok (.putfield 41, 3) := by decide +kernel
theorem dX8_init_96 : decode cX8_init 96 = .ok (.aload_n 0, 1) := by decide +kernel
theorem dX8_init_97 : decode cX8_init 97 = .ok (.bipush 6, 2) := by decide +kernel
theorem dX8_init_99 : decode cX8_init 99 = .ok (.newarray .int, 2) := by decide +kernel
theorem dX8_init_101 : decode cX8_init 101 = .ok (.putfield 44, 3) := by decide +kernel
theorem dX8_init_104 : decode cX8_init 104 = .ok (.aload_n 0, 1) := by decide +kernel
theorem dX8_init_105 : decode cX8_init 105 = .ok (.bipush 6, 2) := by decide +kernel
theorem dX8_init_107 : decode cX8_init 107 = .ok (.newarray .long, 2) := by decide +kernel
theorem dX8_init_109 : decode cX8_init 109 = .ok (.putfield 47, 3) := by decide +kernel
theorem dX8_init_112 : decode cX8_init 112 = .ok (.aload_n 0, 1) := by decide +kernel
theorem dX8_init_113 : decode cX8_init 113 = .ok (.bipush 6, 2) := by decide +kernel
theorem dX8_init_115 : decode cX8_init 115 = .ok (.newarray .long, 2) := by decide +kernel
theorem dX8_init_117 : decode cX8_init 117 = .ok (.putfield 50, 3) := by decide +kernel
theorem dX8_init_120 : decode cX8_init 120 = .ok (.aload_n 0, 1) := by decide +kernel
theorem dX8_init_121 : decode cX8_init 121 = .ok (.bipush 6, 2) := by decide +kernel
theorem dX8_init_123 : decode cX8_init 123 = .ok (.newarray .int, 2) := by decide +kernel
theorem dX8_init_125 : decode cX8_init 125 = .ok (.putfield 53, 3) := by decide +kernel
theorem dX8_init_128 : decode cX8_init 128 = .ok (.aload_n 0, 1) := by decide +kernel
theorem dX8_init_129 : decode cX8_init 129 = .ok (.bipush 6, 2) := by decide +kernel
theorem dX8_init_131 : decode cX8_init 131 = .ok (.bipush 60, 2) := by decide +kernel
theorem dX8_init_133 : decode cX8_init 133 = .ok (.multianewarray 56 2, 4) := by decide +kernel
theorem dX8_init_137 : decode cX8_init 137 = .ok (.putfield 58, 3) := by decide +kernel
theorem dX8_init_140 : decode cX8_init 140 = .ok (.aload_n 0, 1) := by decide +kernel
theorem dX8_init_141 : decode cX8_init 141 = .ok (.bipush 6, 2) := by decide +kernel
theorem dX8_init_143 : decode cX8_init 143 = .ok (.newarray .int, 2) := by decide +kernel
theorem dX8_init_145 : decode cX8_init 145 = .ok (.putfield 61, 3) := by decide +kernel
theorem dX8_init_148 : decode cX8_init 148 = .ok (.aload_n 0, 1) := by decide +kernel
theorem dX8_init_149 : decode cX8_init 149 = .ok (.getfield 9, 3) := by decide +kernel
theorem dX8_init_152 : decode cX8_init 152 = .ok (.sipush 2522, 3) := by decide +kernel
theorem dX8_init_155 : decode cX8_init 155 = .ok (.ldc2_w 64, 3) := by decide +kernel
theorem dX8_init_158 : decode cX8_init 158 = .ok (.lastore, 1) := by decide +kernel
theorem dX8_init_159 : decode cX8_init 159 = .ok (.aload_n 0, 1) := by decide +kernel
theorem dX8_init_160 : decode cX8_init 160 = .ok (.getfield 9, 3) := by decide +kernel
theorem dX8_init_163 : decode cX8_init 163 = .ok (.sipush 2523, 3) := by decide +kernel
theorem dX8_init_166 : decode cX8_init 166 = .ok (.ldc2_w 66, 3) := by decide +kernel
theorem dX8_init_169 : decode cX8_init 169 = .ok (.lastore, 1) := by decide +kernel
theorem dX8_init_170 : decode cX8_init 170 = .ok (.return_, 1) := by decide +kernel
theorem dX8_in_0 : decode cX8_in 0 = .ok (.lload_n 0, 1) := by decide +kernel
theorem dX8_in_1 : decode cX8_in 1 = .ok (.lload_n 2, 1) := by decide +kernel
theorem dX8_in_2 : decode cX8_in 2 = .ok (.lcmp, 1) := by decide +kernel
theorem dX8_in_3 : decode cX8_in 3 = .ok (.ifCond .lt 14, 3) := by decide +kernel
theorem dX8_in_6 : decode cX8_in 6 = .ok (.lload_n 0, 1) := by decide +kernel
theorem dX8_in_7 : decode cX8_in 7 = .ok (.lload 4, 2) := by decide +kernel
theorem dX8_in_9 : decode cX8_in 9 = .ok (.lcmp, 1) := by decide +kernel
theorem dX8_in_10 : decode cX8_in 10 = .ok (.ifCond .gt 7, 3) := by decide +kernel
theorem dX8_in_13 : decode cX8_in 13 = .ok (.iconst 1, 1) := by decide +kernel
theorem dX8_in_14 : decode cX8_in 14 = .ok (.goto 4, 3) := by decide +kernel
theorem dX8_in_17 : decode cX8_in 17 = .ok (.iconst 0, 1) := by decide +kernel
theorem dX8_in_18 : decode cX8_in 18 = .ok (.ireturn, 1) := by decide +kernel
theorem dX8_take_0 : decode cX8_take 0 = .ok (.iconst 0, 1) := by decide +kernel
theorem dX8_take_1 : decode cX8_take 1 = .ok (.istore_n 2, 1) := by decide +kernel
theorem dX8_take_2 : decode cX8_take 2 = .ok (.iload_n 2, 1) := by decide +kernel
theorem dX8_take_3 : decode cX8_take 3 = .ok (.sipush 2524, 3) := by decide +kernel
theorem dX8_take_6 : decode cX8_take 6 = .ok (.if_icmp .ge 15, 3) := by decide +kernel
theorem dX8_take_9 : decode cX8_take 9 = .ok (.aload_n 1, 1) := by decide +kernel
theorem dX8_take_10 : decode cX8_take 10 = .ok (.iload_n 2, 1) := by decide +kernel
theorem dX8_take_11 : decode cX8_take 11 = .ok (.aload_n 0, 1) := by decide +kernel
theorem dX8_take_12 : decode cX8_take 12 = .ok (.iload_n 2, 1) := by decide +kernel
theorem dX8_take_13 : decode cX8_take 13 = .ok (.laload, 1) := by decide +kernel
theorem dX8_take_14 : decode cX8_take 14 = .ok (.lastore, 1) := by decide +kernel
theorem dX8_take_15 : decode cX8_take 15 = .ok (.iinc 2 1, 3) := by decide +kernel
theorem dX8_take_18 : decode cX8_take 18 = .ok (.goto (-16), 3) := by decide +kernel
theorem dX8_take_21 : decode cX8_take 21 = .ok (.return_, 1) := by decide +kernel
theorem dX8_isLeap_0 : decode cX8_isLeap 0 = .ok (.iload_n 0, 1) := by decide +kernel
theorem dX8_isLeap_1 : decode cX8_isLeap 1 = .ok (.iconst 4, 1) := by decide +kernel
theorem dX8_isLeap_2 : decode cX8_isLeap 2 = .ok (.irem, 1) := by decide +kernel
theorem dX8_isLeap_3 : decode cX8_isLeap 3 = .ok (.ifCond .ne 7, 3) := by decide +kernel
theorem dX8_isLeap_6 : decode cX8_isLeap 6 = .ok (.iconst 1, 1) := by decide +kernel
theorem dX8_isLeap_7 : decode cX8_isLeap 7 = .ok (.goto 4, 3) := by decide +kernel
theorem dX8_isLeap_10 : decode cX8_isLeap 10 = .ok (.iconst 0, 1) := by decide +kernel
theorem dX8_isLeap_11 : decode cX8_isLeap 11 = .ok (.ireturn, 1) := by decide +kernel
theorem dX8_lastOf_0 : decode cX8_lastOf 0 = .ok (.iload_n 1, 1) := by decide +kernel
theorem dX8_lastOf_1 : decode cX8_lastOf 1 = .ok (.iconst 2, 1) := by decide +kernel
theorem dX8_lastOf_2 : decode cX8_lastOf 2 = .ok (.if_icmp .ne 20, 3) := by decide +kernel
theorem dX8_lastOf_5 : decode cX8_lastOf 5 = .ok (.iload_n 0, 1) := by decide +kernel
theorem dX8_lastOf_6 : decode cX8_lastOf 6 = .ok (.invokestatic 68, 3) := by decide +kernel
theorem dX8_lastOf_9 : decode cX8_lastOf 9 = .ok (.ifCond .eq 8, 3) := by decide +kernel
theorem dX8_lastOf_12 : decode cX8_lastOf 12 = .ok (.bipush 29, 2) := by decide +kernel
theorem dX8_lastOf_14 : decode cX8_lastOf 14 = .ok (.goto 38, 3) := by decide +kernel
theorem dX8_lastOf_17 : decode cX8_lastOf 17 = .ok (.bipush 28, 2) := by decide +kernel
theorem dX8_lastOf_19 : decode cX8_lastOf 19 = .ok (.goto 33, 3) := by decide +kernel
theorem dX8_lastOf_22 : decode cX8_lastOf 22 = .ok (.iload_n 1, 1) := by decide +kernel
theorem dX8_lastOf_23 : decode cX8_lastOf 23 = .ok (.iconst 4, 1) := by decide +kernel
theorem dX8_lastOf_24 : decode cX8_lastOf 24 = .ok (.if_icmp .eq 21, 3) := by decide +kernel
theorem dX8_lastOf_27 : decode cX8_lastOf 27 = .ok (.iload_n 1, 1) := by decide +kernel
theorem dX8_lastOf_28 : decode cX8_lastOf 28 = .ok (.bipush 6, 2) := by decide +kernel
theorem dX8_lastOf_30 : decode cX8_lastOf 30 = .ok (.if_icmp .eq 15, 3) := by decide +kernel
theorem dX8_lastOf_33 : decode cX8_lastOf 33 = .ok (.iload_n 1, 1) := by decide +kernel
theorem dX8_lastOf_34 : decode cX8_lastOf 34 = .ok (.bipush 9, 2) := by decide +kernel
theorem dX8_lastOf_36 : decode cX8_lastOf 36 = .ok (.if_icmp .eq 9, 3) := by decide +kernel
theorem dX8_lastOf_39 : decode cX8_lastOf 39 = .ok (.iload_n 1, 1) := by decide +kernel
theorem dX8_lastOf_40 : decode cX8_lastOf 40 = .ok (.bipush 11, 2) := by decide +kernel
theorem dX8_lastOf_42 : decode cX8_lastOf 42 = .ok (.if_icmp .ne 8, 3) := by decide +kernel
theorem dX8_lastOf_45 : decode cX8_lastOf 45 = .ok (.bipush 30, 2) := by decide +kernel
theorem dX8_lastOf_47 : decode cX8_lastOf 47 = .ok (.goto 5, 3) := by decide +kernel
theorem dX8_lastOf_50 : decode cX8_lastOf 50 = .ok (.bipush 31, 2) := by decide +kernel
theorem dX8_lastOf_52 : decode cX8_lastOf 52 = .ok (.ireturn, 1) := by decide +kernel
theorem dX8_yearOf_0 : decode cX8_yearOf 0 = .ok (.sipush 2000, 3) := by decide +kernel
theorem dX8_yearOf_3 : decode cX8_yearOf 3 = .ok (.iload_n 0, 1) := by decide +kernel
theorem dX8_yearOf_4 : decode cX8_yearOf 4 = .ok (.sipush 1461, 3) := by decide +kernel
theorem dX8_yearOf_7 : decode cX8_yearOf 7 = .ok (.idiv, 1) := by decide +kernel
theorem dX8_yearOf_8 : decode cX8_yearOf 8 = .ok (.iconst 4, 1) := by decide +kernel
theorem dX8_yearOf_9 : decode cX8_yearOf 9 = .ok (.imul, 1) := by decide +kernel
theorem dX8_yearOf_10 : decode cX8_yearOf 10 = .ok (.iadd, 1) := by decide +kernel
theorem dX8_yearOf_11 : decode cX8_yearOf 11 = .ok (.istore_n 1, 1) := by decide +kernel
theorem dX8_yearOf_12 : decode cX8_yearOf 12 = .ok (.iload_n 0, 1) := by decide +kernel
theorem dX8_yearOf_13 : decode cX8_yearOf 13 = .ok (.sipush 1461, 3) := by decide +kernel
theorem dX8_yearOf_16 : decode cX8_yearOf 16 = .ok (.irem, 1) := by decide +kernel
theorem dX8_yearOf_17 : decode cX8_yearOf 17 = .ok (.istore_n 2, 1) := by decide +kernel
theorem dX8_yearOf_18 : decode cX8_yearOf 18 = .ok (.iload_n 2, 1) := by decide +kernel
theorem dX8_yearOf_19 : decode cX8_yearOf 19 = .ok (.sipush 366, 3) := by decide +kernel
theorem dX8_yearOf_22 : decode cX8_yearOf 22 = .ok (.if_icmp .ge 7, 3) := by decide +kernel
theorem dX8_yearOf_25 : decode cX8_yearOf 25 = .ok (.iload_n 1, 1) := by decide +kernel
theorem dX8_yearOf_26 : decode cX8_yearOf 26 = .ok (.goto 16, 3) := by decide +kernel
theorem dX8_yearOf_29 : decode cX8_yearOf 29 = .ok (.iload_n 1, 1) := by decide +kernel
theorem dX8_yearOf_30 : decode cX8_yearOf 30 = .ok (.iconst 1, 1) := by decide +kernel
theorem dX8_yearOf_31 : decode cX8_yearOf 31 = .ok (.iadd, 1) := by decide +kernel
theorem dX8_yearOf_32 : decode cX8_yearOf 32 = .ok (.iload_n 2, 1) := by decide +kernel
theorem dX8_yearOf_33 : decode cX8_yearOf 33 = .ok (.sipush 366, 3) := by decide +kernel
theorem dX8_yearOf_36 : decode cX8_yearOf 36 = .ok (.isub, 1) := by decide +kernel
theorem dX8_yearOf_37 : decode cX8_yearOf 37 = .ok (.sipush 365, 3) := by decide +kernel
theorem dX8_yearOf_40 : decode cX8_yearOf 40 = .ok (.idiv, 1) := by decide +kernel
theorem dX8_yearOf_41 : decode cX8_yearOf 41 = .ok (.iadd, 1) := by decide +kernel
theorem dX8_yearOf_42 : decode cX8_yearOf 42 = .ok (.ireturn, 1) := by decide +kernel
theorem dX8_yearStart_0 : decode cX8_yearStart 0 = .ok (.iload_n 0, 1) := by decide +kernel
theorem dX8_yearStart_1 : decode cX8_yearStart 1 = .ok (.sipush 2000, 3) := by decide +kernel
theorem dX8_yearStart_4 : decode cX8_yearStart 4 = .ok (.isub, 1) := by decide +kernel
theorem dX8_yearStart_5 : decode cX8_yearStart 5 = .ok (.istore_n 1, 1) := by decide +kernel
theorem dX8_yearStart_6 : decode cX8_yearStart 6 = .ok (.sipush 365, 3) := by decide +kernel
theorem dX8_yearStart_9 : decode cX8_yearStart 9 = .ok (.iload_n 1, 1) := by decide +kernel
theorem dX8_yearStart_10 : decode cX8_yearStart 10 = .ok (.imul, 1) := by decide +kernel
theorem dX8_yearStart_11 : decode cX8_yearStart 11 = .ok (.iload_n 1, 1) := by decide +kernel
theorem dX8_yearStart_12 : decode cX8_yearStart 12 = .ok (.iconst 3, 1) := by decide +kernel
theorem dX8_yearStart_13 : decode cX8_yearStart 13 = .ok (.iadd, 1) := by decide +kernel
theorem dX8_yearStart_14 : decode cX8_yearStart 14 = .ok (.iconst 4, 1) := by decide +kernel
theorem dX8_yearStart_15 : decode cX8_yearStart 15 = .ok (.idiv, 1) := by decide +kernel
theorem dX8_yearStart_16 : decode cX8_yearStart 16 = .ok (.iadd, 1) := by decide +kernel
theorem dX8_yearStart_17 : decode cX8_yearStart 17 = .ok (.ireturn, 1) := by decide +kernel
theorem dX8_monthAndDay_0 : decode cX8_monthAndDay 0 = .ok (.iload_n 0, 1) := by decide +kernel
theorem dX8_monthAndDay_1 : decode cX8_monthAndDay 1 = .ok (.invokestatic 72, 3) := by decide +kernel
theorem dX8_monthAndDay_4 : decode cX8_monthAndDay 4 = .ok (.istore_n 1, 1) := by decide +kernel
theorem dX8_monthAndDay_5 : decode cX8_monthAndDay 5 = .ok (.iload_n 0, 1) := by decide +kernel
theorem dX8_monthAndDay_6 : decode cX8_monthAndDay 6 = .ok (.iload_n 1, 1) := by decide +kernel
theorem dX8_monthAndDay_7 : decode cX8_monthAndDay 7 = .ok (.invokestatic 76, 3) := by decide +kernel
theorem dX8_monthAndDay_10 : decode cX8_monthAndDay 10 = .ok (.isub, 1) := by decide +kernel
theorem dX8_monthAndDay_11 : decode cX8_monthAndDay 11 = .ok (.istore_n 2, 1) := by decide +kernel
theorem dX8_monthAndDay_12 : decode cX8_monthAndDay 12 = .ok (.iconst 1, 1) := by decide +kernel
theorem dX8_monthAndDay_13 : decode cX8_monthAndDay 13 = .ok (.istore_n 3, 1) := by decide +kernel
theorem dX8_monthAndDay_14 : decode cX8_monthAndDay 14 = .ok (.iload_n 2, 1) := by decide +kernel
theorem dX8_monthAndDay_15 : decode cX8_monthAndDay 15 = .ok (.iload_n 1, 1) := by decide +kernel
theorem dX8_monthAndDay_16 : decode cX8_monthAndDay 16 = .ok (.iload_n 3, 1) := by decide +kernel
theorem dX8_monthAndDay_17 : decode cX8_monthAndDay 17 = .ok (.invokestatic 79, 3) := by decide +kernel
theorem dX8_monthAndDay_20 : decode cX8_monthAndDay 20 = .ok (.if_icmp .lt 17, 3) := by decide +kernel
theorem dX8_monthAndDay_23 : decode cX8_monthAndDay 23 = .ok (.iload_n 2, 1) := by decide +kernel
theorem dX8_monthAndDay_24 : decode cX8_monthAndDay 24 = .ok (.iload_n 1, 1) := by decide +kernel
theorem dX8_monthAndDay_25 : decode cX8_monthAndDay 25 = .ok (.iload_n 3, 1) := by decide +kernel
theorem dX8_monthAndDay_26 : decode cX8_monthAndDay 26 = .ok (.invokestatic 79, 3) := by decide +kernel
theorem dX8_monthAndDay_29 : decode cX8_monthAndDay 29 = .ok (.isub, 1) := by decide +kernel
theorem dX8_monthAndDay_30 : decode cX8_monthAndDay 30 = .ok (.istore_n 2, 1) := by decide +kernel
theorem dX8_monthAndDay_31 : decode cX8_monthAndDay 31 = .ok (.iinc 3 1, 3) := by decide +kernel
theorem dX8_monthAndDay_34 : decode cX8_monthAndDay 34 = .ok (.goto (-20), 3) := by decide +kernel
theorem dX8_monthAndDay_37 : decode cX8_monthAndDay 37 = .ok (.bipush 100, 2) := by decide +kernel
theorem dX8_monthAndDay_39 : decode cX8_monthAndDay 39 = .ok (.iload_n 3, 1) := by decide +kernel
theorem dX8_monthAndDay_40 : decode cX8_monthAndDay 40 = .ok (.imul, 1) := by decide +kernel
theorem dX8_monthAndDay_41 : decode cX8_monthAndDay 41 = .ok (.iload_n 2, 1) := by decide +kernel
theorem dX8_monthAndDay_42 : decode cX8_monthAndDay 42 = .ok (.iadd, 1) := by decide +kernel
theorem dX8_monthAndDay_43 : decode cX8_monthAndDay 43 = .ok (.iconst 1, 1) := by decide +kernel
theorem dX8_monthAndDay_44 : decode cX8_monthAndDay 44 = .ok (.iadd, 1) := by decide +kernel
theorem dX8_monthAndDay_45 : decode cX8_monthAndDay 45 = .ok (.ireturn, 1) := by decide +kernel
theorem dX8_toDay_0 : decode cX8_toDay 0 = .ok (.iload_n 0, 1) := by decide +kernel
theorem dX8_toDay_1 : decode cX8_toDay 1 = .ok (.invokestatic 76, 3) := by decide +kernel
theorem dX8_toDay_4 : decode cX8_toDay 4 = .ok (.iload_n 2, 1) := by decide +kernel
theorem dX8_toDay_5 : decode cX8_toDay 5 = .ok (.iadd, 1) := by decide +kernel
theorem dX8_toDay_6 : decode cX8_toDay 6 = .ok (.iconst 1, 1) := by decide +kernel
theorem dX8_toDay_7 : decode cX8_toDay 7 = .ok (.isub, 1) := by decide +kernel
theorem dX8_toDay_8 : decode cX8_toDay 8 = .ok (.istore_n 3, 1) := by decide +kernel
theorem dX8_toDay_9 : decode cX8_toDay 9 = .ok (.iconst 1, 1) := by decide +kernel
theorem dX8_toDay_10 : decode cX8_toDay 10 = .ok (.istore 4, 2) := by decide +kernel
theorem dX8_toDay_12 : decode cX8_toDay 12 = .ok (.iload 4, 2) := by decide +kernel
theorem dX8_toDay_14 : decode cX8_toDay 14 = .ok (.iload_n 1, 1) := by decide +kernel
theorem dX8_toDay_15 : decode cX8_toDay 15 = .ok (.if_icmp .ge 18, 3) := by decide +kernel
theorem dX8_toDay_18 : decode cX8_toDay 18 = .ok (.iload_n 3, 1) := by decide +kernel
theorem dX8_toDay_19 : decode cX8_toDay 19 = .ok (.iload_n 0, 1) := by decide +kernel
theorem dX8_toDay_20 : decode cX8_toDay 20 = .ok (.iload 4, 2) := by decide +kernel
theorem dX8_toDay_22 : decode cX8_toDay 22 = .ok (.invokestatic 79, 3) := by decide +kernel
theorem dX8_toDay_25 : decode cX8_toDay 25 = .ok (.iadd, 1) := by decide +kernel
theorem dX8_toDay_26 : decode cX8_toDay 26 = .ok (.istore_n 3, 1) := by decide +kernel
theorem dX8_toDay_27 : decode cX8_toDay 27 = .ok (.iinc 4 1, 3) := by decide +kernel
theorem dX8_toDay_30 : decode cX8_toDay 30 = .ok (.goto (-18), 3) := by decide +kernel
theorem dX8_toDay_33 : decode cX8_toDay 33 = .ok (.iload_n 3, 1) := by decide +kernel
theorem dX8_toDay_34 : decode cX8_toDay 34 = .ok (.ireturn, 1) := by decide +kernel
theorem dX8_isDay_0 : decode cX8_isDay 0 = .ok (.iload_n 0, 1) := by decide +kernel
theorem dX8_isDay_1 : decode cX8_isDay 1 = .ok (.i2l, 1) := by decide +kernel
theorem dX8_isDay_2 : decode cX8_isDay 2 = .ok (.lconst 0, 1) := by decide +kernel
theorem dX8_isDay_3 : decode cX8_isDay 3 = .ok (.ldc2_w 83, 3) := by decide +kernel
theorem dX8_isDay_6 : decode cX8_isDay 6 = .ok (.invokestatic 85, 3) := by decide +kernel
theorem dX8_isDay_9 : decode cX8_isDay 9 = .ok (.ireturn, 1) := by decide +kernel
theorem dX8_date_0 : decode cX8_date 0 = .ok (.iload_n 1, 1) := by decide +kernel
theorem dX8_date_1 : decode cX8_date 1 = .ok (.invokestatic 89, 3) := by decide +kernel
theorem dX8_date_4 : decode cX8_date 4 = .ok (.ifCond .eq 15, 3) := by decide +kernel
theorem dX8_date_7 : decode cX8_date 7 = .ok (.iload_n 2, 1) := by decide +kernel
theorem dX8_date_8 : decode cX8_date 8 = .ok (.i2l, 1) := by decide +kernel
theorem dX8_date_9 : decode cX8_date 9 = .ok (.lconst 0, 1) := by decide +kernel
theorem dX8_date_10 : decode cX8_date 10 = .ok (.ldc2_w 92, 3) := by decide +kernel
theorem dX8_date_13 : decode cX8_date 13 = .ok (.invokestatic 85, 3) := by decide +kernel
theorem dX8_date_16 : decode cX8_date 16 = .ok (.ifCond .ne 5, 3) := by decide +kernel
theorem dX8_date_19 : decode cX8_date 19 = .ok (.iconst (-1), 1) := by decide +kernel
theorem dX8_date_20 : decode cX8_date 20 = .ok (.ireturn, 1) := by decide +kernel
theorem dX8_date_21 : decode cX8_date 21 = .ok (.iload_n 1, 1) := by decide +kernel
theorem dX8_date_22 : decode cX8_date 22 = .ok (.invokestatic 72, 3) := by decide +kernel
theorem dX8_date_25 : decode cX8_date 25 = .ok (.istore_n 3, 1) := by decide +kernel
theorem dX8_date_26 : decode cX8_date 26 = .ok (.iload_n 1, 1) := by decide +kernel
theorem dX8_date_27 : decode cX8_date 27 = .ok (.invokestatic 94, 3) := by decide +kernel
theorem dX8_date_30 : decode cX8_date 30 = .ok (.istore 4, 2) := by decide +kernel
theorem dX8_date_32 : decode cX8_date 32 = .ok (.iload_n 2, 1) := by decide +kernel
theorem dX8_date_33 : decode cX8_date 33 = .ok (.ifCond .ne 7, 3) := by decide +kernel
theorem dX8_date_36 : decode cX8_date 36 = .ok (.iload_n 3, 1) := by decide +kernel
theorem dX8_date_37 : decode cX8_date 37 = .ok (.goto 41, 3) := by decide +kernel
theorem dX8_date_40 : decode cX8_date 40 = .ok (.iload_n 2, 1) := by decide +kernel
theorem dX8_date_41 : decode cX8_date 41 = .ok (.iconst 1, 1) := by decide +kernel
theorem dX8_date_42 : decode cX8_date 42 = .ok (.if_icmp .ne 11, 3) := by decide +kernel
theorem dX8_date_45 : decode cX8_date 45 = .ok (.iload 4, 2) := by decide +kernel
theorem dX8_date_47 : decode cX8_date 47 = .ok (.bipush 100, 2) := by decide +kernel
theorem dX8_date_49 : decode cX8_date 49 = .ok (.idiv, 1) := by decide +kernel
theorem dX8_date_50 : decode cX8_date 50 = .ok (.goto 28, 3) := by decide +kernel
theorem dX8_date_53 : decode cX8_date 53 = .ok (.iload_n 2, 1) := by decide +kernel
theorem dX8_date_54 : decode cX8_date 54 = .ok (.iconst 2, 1) := by decide +kernel
theorem dX8_date_55 : decode cX8_date 55 = .ok (.if_icmp .ne 11, 3) := by decide +kernel
theorem dX8_date_58 : decode cX8_date 58 = .ok (.iload 4, 2) := by decide +kernel
theorem dX8_date_60 : decode cX8_date 60 = .ok (.bipush 100, 2) := by decide +kernel
theorem dX8_date_62 : decode cX8_date 62 = .ok (.irem, 1) := by decide +kernel
theorem dX8_date_63 : decode cX8_date 63 = .ok (.goto 15, 3) := by decide +kernel
theorem dX8_date_66 : decode cX8_date 66 = .ok (.iload_n 3, 1) := by decide +kernel
theorem dX8_date_67 : decode cX8_date 67 = .ok (.invokestatic 68, 3) := by decide +kernel
theorem dX8_date_70 : decode cX8_date 70 = .ok (.ifCond .eq 7, 3) := by decide +kernel
theorem dX8_date_73 : decode cX8_date 73 = .ok (.iconst 1, 1) := by decide +kernel
theorem dX8_date_74 : decode cX8_date 74 = .ok (.goto 4, 3) := by decide +kernel
theorem dX8_date_77 : decode cX8_date 77 = .ok (.iconst 0, 1) := by decide +kernel
theorem dX8_date_78 : decode cX8_date 78 = .ok (.ireturn, 1) := by decide +kernel
theorem dX8_dayOf_0 : decode cX8_dayOf 0 = .ok (.iload_n 1, 1) := by decide +kernel
theorem dX8_dayOf_1 : decode cX8_dayOf 1 = .ok (.i2l, 1) := by decide +kernel
theorem dX8_dayOf_2 : decode cX8_dayOf 2 = .ok (.ldc2_w 97, 3) := by decide +kernel
theorem dX8_dayOf_5 : decode cX8_dayOf 5 = .ok (.ldc2_w 99, 3) := by decide +kernel
theorem dX8_dayOf_8 : decode cX8_dayOf 8 = .ok (.invokestatic 85, 3) := by decide +kernel
theorem dX8_dayOf_11 : decode cX8_dayOf 11 = .ok (.ifCond .eq 33, 3) := by decide +kernel
theorem dX8_dayOf_14 : decode cX8_dayOf 14 = .ok (.iload_n 2, 1) := by decide +kernel
theorem dX8_dayOf_15 : decode cX8_dayOf 15 = .ok (.i2l, 1) := by decide +kernel
theorem dX8_dayOf_16 : decode cX8_dayOf 16 = .ok (.lconst 1, 1) := by decide +kernel
theorem dX8_dayOf_17 : decode cX8_dayOf 17 = .ok (.ldc2_w 101, 3) := by decide +kernel
theorem dX8_dayOf_20 : decode cX8_dayOf 20 = .ok (.invokestatic 85, 3) := by decide +kernel
theorem dX8_dayOf_23 : decode cX8_dayOf 23 = .ok (.ifCond .eq 21, 3) := by decide +kernel
theorem dX8_dayOf_26 : decode cX8_dayOf 26 = .ok (.iload_n 3, 1) := by decide +kernel
theorem dX8_dayOf_27 : decode cX8_dayOf 27 = .ok (.iconst 1, 1) := by decide +kernel
theorem dX8_dayOf_28 : decode cX8_dayOf 28 = .ok (.if_icmp .lt 16, 3) := by decide +kernel
theorem dX8_dayOf_31 : decode cX8_dayOf 31 = .ok (.iload_n 3, 1) := by decide +kernel
theorem dX8_dayOf_32 : decode cX8_dayOf 32 = .ok (.iload_n 1, 1) := by decide +kernel
theorem dX8_dayOf_33 : decode cX8_dayOf 33 = .ok (.iload_n 2, 1) := by decide +kernel
theorem dX8_dayOf_34 : decode cX8_dayOf 34 = .ok (.invokestatic 79, 3) := by decide +kernel
theorem dX8_dayOf_37 : decode cX8_dayOf 37 = .ok (.if_icmp .gt 7, 3) := by decide +kernel
theorem dX8_dayOf_40 : decode cX8_dayOf 40 = .ok (.iconst 1, 1) := by decide +kernel
theorem dX8_dayOf_41 : decode cX8_dayOf 41 = .ok (.goto 4, 3) := by decide +kernel
theorem dX8_dayOf_44 : decode cX8_dayOf 44 = .ok (.iconst 0, 1) := by decide +kernel
theorem dX8_dayOf_45 : decode cX8_dayOf 45 = .ok (.istore 4, 2) := by decide +kernel
theorem dX8_dayOf_47 : decode cX8_dayOf 47 = .ok (.iload 4, 2) := by decide +kernel
theorem dX8_dayOf_49 : decode cX8_dayOf 49 = .ok (.ifCond .eq 12, 3) := by decide +kernel
theorem dX8_dayOf_52 : decode cX8_dayOf 52 = .ok (.iload_n 1, 1) := by decide +kernel
theorem dX8_dayOf_53 : decode cX8_dayOf 53 = .ok (.iload_n 2, 1) := by decide +kernel
theorem dX8_dayOf_54 : decode cX8_dayOf 54 = .ok (.iload_n 3, 1) := by decide +kernel
theorem dX8_dayOf_55 : decode cX8_dayOf 55 = .ok (.invokestatic 103, 3) := by decide +kernel
theorem dX8_dayOf_58 : decode cX8_dayOf 58 = .ok (.goto 4, 3) := by decide +kernel
theorem dX8_dayOf_61 : decode cX8_dayOf 61 = .ok (.iconst (-1), 1) := by decide +kernel
theorem dX8_dayOf_62 : decode cX8_dayOf 62 = .ok (.ireturn, 1) := by decide +kernel
theorem dX8_monthsBehind_0 : decode cX8_monthsBehind 0 = .ok (.iload_n 0, 1) := by decide +kernel
theorem dX8_monthsBehind_1 : decode cX8_monthsBehind 1 = .ok (.invokestatic 94, 3) := by decide +kernel
theorem dX8_monthsBehind_4 : decode cX8_monthsBehind 4 = .ok (.istore_n 2, 1) := by decide +kernel
theorem dX8_monthsBehind_5 : decode cX8_monthsBehind 5 = .ok (.bipush 12, 2) := by decide +kernel
theorem dX8_monthsBehind_7 : decode cX8_monthsBehind 7 = .ok (.iload_n 0, 1) := by decide +kernel
theorem dX8_monthsBehind_8 : decode cX8_monthsBehind 8 = .ok (.invokestatic 72, 3) := by decide +kernel
theorem dX8_monthsBehind_11 : decode cX8_monthsBehind 11 = .ok (.imul, 1) := by decide +kernel
theorem dX8_monthsBehind_12 : decode cX8_monthsBehind 12 = .ok (.iload_n 2, 1) := by decide +kernel
theorem dX8_monthsBehind_13 : decode cX8_monthsBehind 13 = .ok (.bipush 100, 2) := by decide +kernel
theorem dX8_monthsBehind_15 : decode cX8_monthsBehind 15 = .ok (.idiv, 1) := by decide +kernel
theorem dX8_monthsBehind_16 : decode cX8_monthsBehind 16 = .ok (.iadd, 1) := by decide +kernel
theorem dX8_monthsBehind_17 : decode cX8_monthsBehind 17 = .ok (.iconst 1, 1) := by decide +kernel
theorem dX8_monthsBehind_18 : decode cX8_monthsBehind 18 = .ok (.isub, 1) := by decide +kernel
theorem dX8_monthsBehind_19 : decode cX8_monthsBehind 19 = .ok (.iload_n 1, 1) := by decide +kernel
theorem dX8_monthsBehind_20 : decode cX8_monthsBehind 20 = .ok (.iadd, 1) := by decide +kernel
theorem dX8_monthsBehind_21 : decode cX8_monthsBehind 21 = .ok (.istore_n 3, 1) := by decide +kernel
theorem dX8_monthsBehind_22 : decode cX8_monthsBehind 22 = .ok (.iload_n 3, 1) := by decide +kernel
theorem dX8_monthsBehind_23 : decode cX8_monthsBehind 23 = .ok (.bipush 12, 2) := by decide +kernel
theorem dX8_monthsBehind_25 : decode cX8_monthsBehind 25 = .ok (.idiv, 1) := by decide +kernel
theorem dX8_monthsBehind_26 : decode cX8_monthsBehind 26 = .ok (.istore 4, 2) := by decide +kernel
theorem dX8_monthsBehind_28 : decode cX8_monthsBehind 28 = .ok (.iload_n 3, 1) := by decide +kernel
theorem dX8_monthsBehind_29 : decode cX8_monthsBehind 29 = .ok (.bipush 12, 2) := by decide +kernel
theorem dX8_monthsBehind_31 : decode cX8_monthsBehind 31 = .ok (.irem, 1) := by decide +kernel
theorem dX8_monthsBehind_32 : decode cX8_monthsBehind 32 = .ok (.iconst 1, 1) := by decide +kernel
theorem dX8_monthsBehind_33 : decode cX8_monthsBehind 33 = .ok (.iadd, 1) := by decide +kernel
theorem dX8_monthsBehind_34 : decode cX8_monthsBehind 34 = .ok (.istore 5, 2) := by decide +kernel
theorem dX8_monthsBehind_36 : decode cX8_monthsBehind 36 = .ok (.iload 4, 2) := by decide +kernel
theorem dX8_monthsBehind_38 : decode cX8_monthsBehind 38 = .ok (.sipush 2099, 3) := by decide +kernel
theorem dX8_monthsBehind_41 : decode cX8_monthsBehind 41 = .ok (.if_icmp .le 6, 3) := by decide +kernel
theorem dX8_monthsBehind_44 : decode cX8_monthsBehind 44 = .ok (.ldc 107, 2) := by decide +kernel
theorem dX8_monthsBehind_46 : decode cX8_monthsBehind 46 = .ok (.ireturn, 1) := by decide +kernel
theorem dX8_monthsBehind_47 : decode cX8_monthsBehind 47 = .ok (.iload 4, 2) := by decide +kernel
theorem dX8_monthsBehind_49 : decode cX8_monthsBehind 49 = .ok (.iload 5, 2) := by decide +kernel
theorem dX8_monthsBehind_51 : decode cX8_monthsBehind 51 = .ok (.invokestatic 79, 3) := by decide +kernel
theorem dX8_monthsBehind_54 : decode cX8_monthsBehind 54 = .ok (.istore 6, 2) := by decide +kernel
theorem dX8_monthsBehind_56 : decode cX8_monthsBehind 56 = .ok (.iload_n 2, 1) := by decide +kernel
theorem dX8_monthsBehind_57 : decode cX8_monthsBehind 57 = .ok (.bipush 100, 2) := by decide +kernel
theorem dX8_monthsBehind_59 : decode cX8_monthsBehind 59 = .ok (.irem, 1) := by decide +kernel
theorem dX8_monthsBehind_60 : decode cX8_monthsBehind 60 = .ok (.istore 7, 2) := by decide +kernel
theorem dX8_monthsBehind_62 : decode cX8_monthsBehind 62 = .ok (.iload 4, 2) := by decide +kernel
theorem dX8_monthsBehind_64 : decode cX8_monthsBehind 64 = .ok (.iload 5, 2) := by decide +kernel
theorem dX8_monthsBehind_66 : decode cX8_monthsBehind 66 = .ok (.iload 7, 2) := by decide +kernel
theorem dX8_monthsBehind_68 : decode cX8_monthsBehind 68 = .ok (.iload 6, 2) := by decide +kernel
theorem dX8_monthsBehind_70 : decode cX8_monthsBehind 70 = .ok (.if_icmp .ge 8, 3) := by decide +kernel
theorem dX8_monthsBehind_73 : decode cX8_monthsBehind 73 = .ok (.iload 7, 2) := by decide +kernel
theorem dX8_monthsBehind_75 : decode cX8_monthsBehind 75 = .ok (.goto 5, 3) := by decide +kernel
theorem dX8_monthsBehind_78 : decode cX8_monthsBehind 78 = .ok (.iload 6, 2) := by decide +kernel
theorem dX8_monthsBehind_80 : decode cX8_monthsBehind 80 = .ok (.invokestatic 103, 3) := by decide +kernel
theorem dX8_monthsBehind_83 : decode cX8_monthsBehind 83 = .ok (.ireturn, 1) := by decide +kernel
theorem dX8_leapDays_0 : decode cX8_leapDays 0 = .ok (.iconst 0, 1) := by decide +kernel
theorem dX8_leapDays_1 : decode cX8_leapDays 1 = .ok (.istore_n 2, 1) := by decide +kernel
theorem dX8_leapDays_2 : decode cX8_leapDays 2 = .ok (.sipush 2000, 3) := by decide +kernel
theorem dX8_leapDays_5 : decode cX8_leapDays 5 = .ok (.istore_n 3, 1) := by decide +kernel
theorem dX8_leapDays_6 : decode cX8_leapDays 6 = .ok (.iload_n 3, 1) := by decide +kernel
theorem dX8_leapDays_7 : decode cX8_leapDays 7 = .ok (.sipush 2096, 3) := by decide +kernel
theorem dX8_leapDays_10 : decode cX8_leapDays 10 = .ok (.if_icmp .gt 70, 3) := by decide +kernel
theorem dX8_leapDays_13 : decode cX8_leapDays 13 = .ok (.iload_n 3, 1) := by decide +kernel
theorem dX8_leapDays_14 : decode cX8_leapDays 14 = .ok (.invokestatic 76, 3) := by decide +kernel
theorem dX8_leapDays_17 : decode cX8_leapDays 17 = .ok (.istore 4, 2) := by decide +kernel
theorem dX8_leapDays_19 : decode cX8_leapDays 19 = .ok (.iload 4, 2) := by decide +kernel
theorem dX8_leapDays_21 : decode cX8_leapDays 21 = .ok (.sipush 366, 3) := by decide +kernel
theorem dX8_leapDays_24 : decode cX8_leapDays 24 = .ok (.iadd, 1) := by decide +kernel
theorem dX8_leapDays_25 : decode cX8_leapDays 25 = .ok (.istore 5, 2) := by decide +kernel
theorem dX8_leapDays_27 : decode cX8_leapDays 27 = .ok (.iload 4, 2) := by decide +kernel
theorem dX8_leapDays_29 : decode cX8_leapDays 29 = .ok (.iload_n 0, 1) := by decide +kernel
theorem dX8_leapDays_30 : decode cX8_leapDays 30 = .ok (.if_icmp .le 8, 3) := by decide +kernel
theorem dX8_leapDays_33 : decode cX8_leapDays 33 = .ok (.iload 4, 2) := by decide +kernel
theorem dX8_leapDays_35 : decode cX8_leapDays 35 = .ok (.goto 4, 3) := by decide +kernel
theorem dX8_leapDays_38 : decode cX8_leapDays 38 = .ok (.iload_n 0, 1) := by decide +kernel
theorem dX8_leapDays_39 : decode cX8_leapDays 39 = .ok (.istore 6, 2) := by decide +kernel
theorem dX8_leapDays_41 : decode cX8_leapDays 41 = .ok (.iload 5, 2) := by decide +kernel
theorem dX8_leapDays_43 : decode cX8_leapDays 43 = .ok (.iload_n 1, 1) := by decide +kernel
theorem dX8_leapDays_44 : decode cX8_leapDays 44 = .ok (.if_icmp .ge 8, 3) := by decide +kernel
theorem dX8_leapDays_47 : decode cX8_leapDays 47 = .ok (.iload 5, 2) := by decide +kernel
theorem dX8_leapDays_49 : decode cX8_leapDays 49 = .ok (.goto 4, 3) := by decide +kernel
theorem dX8_leapDays_52 : decode cX8_leapDays 52 = .ok (.iload_n 1, 1) := by decide +kernel
theorem dX8_leapDays_53 : decode cX8_leapDays 53 = .ok (.istore 7, 2) := by decide +kernel
theorem dX8_leapDays_55 : decode cX8_leapDays 55 = .ok (.iload_n 2, 1) := by decide +kernel
theorem dX8_leapDays_56 : decode cX8_leapDays 56 = .ok (.iload 7, 2) := by decide +kernel
theorem dX8_leapDays_58 : decode cX8_leapDays 58 = .ok (.iload 6, 2) := by decide +kernel
theorem dX8_leapDays_60 : decode cX8_leapDays 60 = .ok (.if_icmp .le 11, 3) := by decide +kernel
theorem dX8_leapDays_63 : decode cX8_leapDays 63 = .ok (.iload 7, 2) := by decide +kernel
theorem dX8_leapDays_65 : decode cX8_leapDays 65 = .ok (.iload 6, 2) := by decide +kernel
theorem dX8_leapDays_67 : decode cX8_leapDays 67 = .ok (.isub, 1) := by decide +kernel
theorem dX8_leapDays_68 : decode cX8_leapDays 68 = .ok (.goto 4, 3) := by decide +kernel
theorem dX8_leapDays_71 : decode cX8_leapDays 71 = .ok (.iconst 0, 1) := by decide +kernel
theorem dX8_leapDays_72 : decode cX8_leapDays 72 = .ok (.iadd, 1) := by decide +kernel
theorem dX8_leapDays_73 : decode cX8_leapDays 73 = .ok (.istore_n 2, 1) := by decide +kernel
theorem dX8_leapDays_74 : decode cX8_leapDays 74 = .ok (.iinc 3 4, 3) := by decide +kernel
theorem dX8_leapDays_77 : decode cX8_leapDays 77 = .ok (.goto (-71), 3) := by decide +kernel
theorem dX8_leapDays_80 : decode cX8_leapDays 80 = .ok (.iload_n 2, 1) := by decide +kernel
theorem dX8_leapDays_81 : decode cX8_leapDays 81 = .ok (.ireturn, 1) := by decide +kernel
theorem dX8_thirties_0 : decode cX8_thirties 0 = .ok (.iload_n 0, 1) := by decide +kernel
theorem dX8_thirties_1 : decode cX8_thirties 1 = .ok (.invokestatic 94, 3) := by decide +kernel
theorem dX8_thirties_4 : decode cX8_thirties 4 = .ok (.istore_n 2, 1) := by decide +kernel
theorem dX8_thirties_5 : decode cX8_thirties 5 = .ok (.iload_n 1, 1) := by decide +kernel
theorem dX8_thirties_6 : decode cX8_thirties 6 = .ok (.invokestatic 94, 3) := by decide +kernel
theorem dX8_thirties_9 : decode cX8_thirties 9 = .ok (.istore_n 3, 1) := by decide +kernel
theorem dX8_thirties_10 : decode cX8_thirties 10 = .ok (.iload_n 2, 1) := by decide +kernel
theorem dX8_thirties_11 : decode cX8_thirties 11 = .ok (.bipush 100, 2) := by decide +kernel
theorem dX8_thirties_13 : decode cX8_thirties 13 = .ok (.irem, 1) := by decide +kernel
theorem dX8_thirties_14 : decode cX8_thirties 14 = .ok (.bipush 30, 2) := by decide +kernel
theorem dX8_thirties_16 : decode cX8_thirties 16 = .ok (.if_icmp .le 8, 3) := by decide +kernel
theorem dX8_thirties_19 : decode cX8_thirties 19 = .ok (.bipush 30, 2) := by decide +kernel
theorem dX8_thirties_21 : decode cX8_thirties 21 = .ok (.goto 7, 3) := by decide +kernel
theorem dX8_thirties_24 : decode cX8_thirties 24 = .ok (.iload_n 2, 1) := by decide +kernel
theorem dX8_thirties_25 : decode cX8_thirties 25 = .ok (.bipush 100, 2) := by decide +kernel
theorem dX8_thirties_27 : decode cX8_thirties 27 = .ok (.irem, 1) := by decide +kernel
theorem dX8_thirties_28 : decode cX8_thirties 28 = .ok (.istore 4, 2) := by decide +kernel
theorem dX8_thirties_30 : decode cX8_thirties 30 = .ok (.iload_n 3, 1) := by decide +kernel
theorem dX8_thirties_31 : decode cX8_thirties 31 = .ok (.bipush 100, 2) := by decide +kernel
theorem dX8_thirties_33 : decode cX8_thirties 33 = .ok (.irem, 1) := by decide +kernel
theorem dX8_thirties_34 : decode cX8_thirties 34 = .ok (.bipush 30, 2) := by decide +kernel
theorem dX8_thirties_36 : decode cX8_thirties 36 = .ok (.if_icmp .le 8, 3) := by decide +kernel
theorem dX8_thirties_39 : decode cX8_thirties 39 = .ok (.bipush 30, 2) := by decide +kernel
theorem dX8_thirties_41 : decode cX8_thirties 41 = .ok (.goto 7, 3) := by decide +kernel
theorem dX8_thirties_44 : decode cX8_thirties 44 = .ok (.iload_n 3, 1) := by decide +kernel
theorem dX8_thirties_45 : decode cX8_thirties 45 = .ok (.bipush 100, 2) := by decide +kernel
theorem dX8_thirties_47 : decode cX8_thirties 47 = .ok (.irem, 1) := by decide +kernel
theorem dX8_thirties_48 : decode cX8_thirties 48 = .ok (.istore 5, 2) := by decide +kernel
theorem dX8_thirties_50 : decode cX8_thirties 50 = .ok (.sipush 360, 3) := by decide +kernel
theorem dX8_thirties_53 : decode cX8_thirties 53 = .ok (.iload_n 1, 1) := by decide +kernel
theorem dX8_thirties_54 : decode cX8_thirties 54 = .ok (.invokestatic 72, 3) := by decide +kernel
theorem dX8_thirties_57 : decode cX8_thirties 57 = .ok (.iload_n 0, 1) := by decide +kernel
theorem dX8_thirties_58 : decode cX8_thirties 58 = .ok (.invokestatic 72, 3) := by decide +kernel
theorem dX8_thirties_61 : decode cX8_thirties 61 = .ok (.isub, 1) := by decide +kernel
theorem dX8_thirties_62 : decode cX8_thirties 62 = .ok (.imul, 1) := by decide +kernel
theorem dX8_thirties_63 : decode cX8_thirties 63 = .ok (.bipush 30, 2) := by decide +kernel
theorem dX8_thirties_65 : decode cX8_thirties 65 = .ok (.iload_n 3, 1) := by decide +kernel
theorem dX8_thirties_66 : decode cX8_thirties 66 = .ok (.bipush 100, 2) := by decide +kernel
theorem dX8_thirties_68 : decode cX8_thirties 68 = .ok (.idiv, 1) := by decide +kernel
theorem dX8_thirties_69 : decode cX8_thirties 69 = .ok (.iload_n 2, 1) := by decide +kernel
theorem dX8_thirties_70 : decode cX8_thirties 70 = .ok (.bipush 100, 2) := by decide +kernel
theorem dX8_thirties_72 : decode cX8_thirties 72 = .ok (.idiv, 1) := by decide +kernel
theorem dX8_thirties_73 : decode cX8_thirties 73 = .ok (.isub, 1) := by decide +kernel
theorem dX8_thirties_74 : decode cX8_thirties 74 = .ok (.imul, 1) := by decide +kernel
theorem dX8_thirties_75 : decode cX8_thirties 75 = .ok (.iadd, 1) := by decide +kernel
theorem dX8_thirties_76 : decode cX8_thirties 76 = .ok (.iload 5, 2) := by decide +kernel
theorem dX8_thirties_78 : decode cX8_thirties 78 = .ok (.iadd, 1) := by decide +kernel
theorem dX8_thirties_79 : decode cX8_thirties 79 = .ok (.iload 4, 2) := by decide +kernel
theorem dX8_thirties_81 : decode cX8_thirties 81 = .ok (.isub, 1) := by decide +kernel
theorem dX8_thirties_82 : decode cX8_thirties 82 = .ok (.ireturn, 1) := by decide +kernel
theorem dX8_interestOf_0 : decode cX8_interestOf 0 = .ok (.iload 4, 2) := by decide +kernel
theorem dX8_interestOf_2 : decode cX8_interestOf 2 = .ok (.ifCond .ne 14, 3) := by decide +kernel
theorem dX8_interestOf_5 : decode cX8_interestOf 5 = .ok (.iload 5, 2) := by decide +kernel
theorem dX8_interestOf_7 : decode cX8_interestOf 7 = .ok (.iload 6, 2) := by decide +kernel
theorem dX8_interestOf_9 : decode cX8_interestOf 9 = .ok (.invokestatic 108, 3) := by decide +kernel
theorem dX8_interestOf_12 : decode cX8_interestOf 12 = .ok (.i2l, 1) := by decide +kernel
theorem dX8_interestOf_13 : decode cX8_interestOf 13 = .ok (.goto 9, 3) := by decide +kernel
theorem dX8_interestOf_16 : decode cX8_interestOf 16 = .ok (.iload 6, 2) := by decide +kernel
theorem dX8_interestOf_18 : decode cX8_interestOf 18 = .ok (.iload 5, 2) := by decide +kernel
theorem dX8_interestOf_20 : decode cX8_interestOf 20 = .ok (.isub, 1) := by decide +kernel
theorem dX8_interestOf_21 : decode cX8_interestOf 21 = .ok (.i2l, 1) := by decide +kernel
theorem dX8_interestOf_22 : decode cX8_interestOf 22 = .ok (.lstore 7, 2) := by decide +kernel
theorem dX8_interestOf_24 : decode cX8_interestOf 24 = .ok (.iload 4, 2) := by decide +kernel
theorem dX8_interestOf_26 : decode cX8_interestOf 26 = .ok (.iconst 2, 1) := by decide +kernel
theorem dX8_interestOf_27 : decode cX8_interestOf 27 = .ok (.if_icmp .ne 9, 3) := by decide +kernel
theorem dX8_interestOf_30 : decode cX8_interestOf 30 = .ok (.ldc2_w 111, 3) := by decide +kernel
theorem dX8_interestOf_33 : decode cX8_interestOf 33 = .ok (.goto 6, 3) := by decide +kernel
theorem dX8_interestOf_36 : decode cX8_interestOf 36 = .ok (.ldc2_w 113, 3) := by decide +kernel
theorem dX8_interestOf_39 : decode cX8_interestOf 39 = .ok (.lstore 9, 2) := by decide +kernel
theorem dX8_interestOf_41 : decode cX8_interestOf 41 = .ok (.iload 4, 2) := by decide +kernel
theorem dX8_interestOf_43 : decode cX8_interestOf 43 = .ok (.iconst 3, 1) := by decide +kernel
theorem dX8_interestOf_44 : decode cX8_interestOf 44 = .ok (.if_icmp .ne 40, 3) := by decide +kernel
theorem dX8_interestOf_47 : decode cX8_interestOf 47 = .ok (.iload 5, 2) := by decide +kernel
theorem dX8_interestOf_49 : decode cX8_interestOf 49 = .ok (.iload 6, 2) := by decide +kernel
theorem dX8_interestOf_51 : decode cX8_interestOf 51 = .ok (.invokestatic 115, 3) := by decide +kernel
theorem dX8_interestOf_54 : decode cX8_interestOf 54 = .ok (.i2l, 1) := by decide +kernel
theorem dX8_interestOf_55 : decode cX8_interestOf 55 = .ok (.lstore 11, 2) := by decide +kernel
theorem dX8_interestOf_57 : decode cX8_interestOf 57 = .ok (.lload 11, 2) := by decide +kernel
theorem dX8_interestOf_59 : decode cX8_interestOf 59 = .ok (.ldc2_w 111, 3) := by decide +kernel
theorem dX8_interestOf_62 : decode cX8_interestOf 62 = .ok (.lmul, 1) := by decide +kernel
theorem dX8_interestOf_63 : decode cX8_interestOf 63 = .ok (.iload 6, 2) := by decide +kernel
theorem dX8_interestOf_65 : decode cX8_interestOf 65 = .ok (.iload 5, 2) := by decide +kernel
theorem dX8_interestOf_67 : decode cX8_interestOf 67 = .ok (.isub, 1) := by decide +kernel
theorem dX8_interestOf_68 : decode cX8_interestOf 68 = .ok (.i2l, 1) := by decide +kernel
theorem dX8_interestOf_69 : decode cX8_interestOf 69 = .ok (.lload 11, 2) := by decide +kernel
theorem dX8_interestOf_71 : decode cX8_interestOf 71 = .ok (.lsub, 1) := by decide +kernel
theorem dX8_interestOf_72 : decode cX8_interestOf 72 = .ok (.ldc2_w 118, 3) := by decide +kernel
theorem dX8_interestOf_75 : decode cX8_interestOf 75 = .ok (.lmul, 1) := by decide +kernel
theorem dX8_interestOf_76 : decode cX8_interestOf 76 = .ok (.ladd, 1) := by decide +kernel
theorem dX8_interestOf_77 : decode cX8_interestOf 77 = .ok (.lstore 7, 2) := by decide +kernel
theorem dX8_interestOf_79 : decode cX8_interestOf 79 = .ok (.ldc2_w 120, 3) := by decide +kernel
theorem dX8_interestOf_82 : decode cX8_interestOf 82 = .ok (.lstore 9, 2) := by decide +kernel
theorem dX8_interestOf_84 : decode cX8_interestOf 84 = .ok (.lload_n 0, 1) := by decide +kernel
theorem dX8_interestOf_85 : decode cX8_interestOf 85 = .ok (.lload_n 2, 1) := by decide +kernel
theorem dX8_interestOf_86 : decode cX8_interestOf 86 = .ok (.lmul, 1) := by decide +kernel
theorem dX8_interestOf_87 : decode cX8_interestOf 87 = .ok (.lload 7, 2) := by decide +kernel
theorem dX8_interestOf_89 : decode cX8_interestOf 89 = .ok (.lmul, 1) := by decide +kernel
theorem dX8_interestOf_90 : decode cX8_interestOf 90 = .ok (.lstore 11, 2) := by decide +kernel
theorem dX8_interestOf_92 : decode cX8_interestOf 92 = .ok (.lload 9, 2) := by decide +kernel
theorem dX8_interestOf_94 : decode cX8_interestOf 94 = .ok (.ldc2_w 122, 3) := by decide +kernel
theorem dX8_interestOf_97 : decode cX8_interestOf 97 = .ok (.lmul, 1) := by decide +kernel
theorem dX8_interestOf_98 : decode cX8_interestOf 98 = .ok (.lstore 13, 2) := by decide +kernel
theorem dX8_interestOf_100 : decode cX8_interestOf 100 = .ok (.lload 11, 2) := by decide +kernel
theorem dX8_interestOf_102 : decode cX8_interestOf 102 = .ok (.lload 13, 2) := by decide +kernel
theorem dX8_interestOf_104 : decode cX8_interestOf 104 = .ok (.ldiv, 1) := by decide +kernel
theorem dX8_interestOf_105 : decode cX8_interestOf 105 = .ok (.lload 11, 2) := by decide +kernel
theorem dX8_interestOf_107 : decode cX8_interestOf 107 = .ok (.lload 13, 2) := by decide +kernel
theorem dX8_interestOf_109 : decode cX8_interestOf 109 = .ok (.lrem, 1) := by decide +kernel
theorem dX8_interestOf_110 : decode cX8_interestOf 110 = .ok (.ldc2_w 124, 3) := by decide +kernel
theorem dX8_interestOf_113 : decode cX8_interestOf 113 = .ok (.lmul, 1) := by decide +kernel
theorem dX8_interestOf_114 : decode cX8_interestOf 114 = .ok (.lload 13, 2) := by decide +kernel
theorem dX8_interestOf_116 : decode cX8_interestOf 116 = .ok (.lcmp, 1) := by decide +kernel
theorem dX8_interestOf_117 : decode cX8_interestOf 117 = .ok (.ifCond .lt 7, 3) := by decide +kernel
theorem dX8_interestOf_120 : decode cX8_interestOf 120 = .ok (.iconst 1, 1) := by decide +kernel
theorem dX8_interestOf_121 : decode cX8_interestOf 121 = .ok (.goto 4, 3) := by decide +kernel
theorem dX8_interestOf_124 : decode cX8_interestOf 124 = .ok (.iconst 0, 1) := by decide +kernel
theorem dX8_interestOf_125 : decode cX8_interestOf 125 = .ok (.i2l, 1) := by decide +kernel
theorem dX8_interestOf_126 : decode cX8_interestOf 126 = .ok (.ladd, 1) := by decide +kernel
theorem dX8_interestOf_127 : decode cX8_interestOf 127 = .ok (.lreturn, 1) := by decide +kernel
theorem dX8_interest_0 : decode cX8_interest 0 = .ok (.lload_n 1, 1) := by decide +kernel
theorem dX8_interest_1 : decode cX8_interest 1 = .ok (.lconst 0, 1) := by decide +kernel
theorem dX8_interest_2 : decode cX8_interest 2 = .ok (.ldc2_w 126, 3) := by decide +kernel
theorem dX8_interest_5 : decode cX8_interest 5 = .ok (.invokestatic 85, 3) := by decide +kernel
theorem dX8_interest_8 : decode cX8_interest 8 = .ok (.ifCond .eq 55, 3) := by decide +kernel
theorem dX8_interest_11 : decode cX8_interest 11 = .ok (.iload_n 3, 1) := by decide +kernel
theorem dX8_interest_12 : decode cX8_interest 12 = .ok (.i2l, 1) := by decide +kernel
theorem dX8_interest_13 : decode cX8_interest 13 = .ok (.lconst 0, 1) := by decide +kernel
theorem dX8_interest_14 : decode cX8_interest 14 = .ok (.ldc2_w 128, 3) := by decide +kernel
theorem dX8_interest_17 : decode cX8_interest 17 = .ok (.invokestatic 85, 3) := by decide +kernel
theorem dX8_interest_20 : decode cX8_interest 20 = .ok (.ifCond .eq 43, 3) := by decide +kernel
theorem dX8_interest_23 : decode cX8_interest 23 = .ok (.iload 4, 2) := by decide +kernel
theorem dX8_interest_25 : decode cX8_interest 25 = .ok (.i2l, 1) := by decide +kernel
theorem dX8_interest_26 : decode cX8_interest 26 = .ok (.lconst 0, 1) := by decide +kernel
theorem dX8_interest_27 : decode cX8_interest 27 = .ok (.ldc2_w 92, 3) := by decide +kernel
theorem dX8_interest_30 : decode cX8_interest 30 = .ok (.invokestatic 85, 3) := by decide +kernel
theorem dX8_interest_33 : decode cX8_interest 33 = .ok (.ifCond .eq 30, 3) := by decide +kernel
theorem dX8_interest_36 : decode cX8_interest 36 = .ok (.iload 5, 2) := by decide +kernel
theorem dX8_interest_38 : decode cX8_interest 38 = .ok (.invokestatic 89, 3) := by decide +kernel
theorem dX8_interest_41 : decode cX8_interest 41 = .ok (.ifCond .eq 22, 3) := by decide +kernel
theorem dX8_interest_44 : decode cX8_interest 44 = .ok (.iload 6, 2) := by decide +kernel
theorem dX8_interest_46 : decode cX8_interest 46 = .ok (.invokestatic 89, 3) := by decide +kernel
theorem dX8_interest_49 : decode cX8_interest 49 = .ok (.ifCond .eq 14, 3) := by decide +kernel
theorem dX8_interest_52 : decode cX8_interest 52 = .ok (.iload 6, 2) := by decide +kernel
theorem dX8_interest_54 : decode cX8_interest 54 = .ok (.iload 5, 2) := by decide +kernel
theorem dX8_interest_56 : decode cX8_interest 56 = .ok (.if_icmp .lt 7, 3) := by decide +kernel
theorem dX8_interest_59 : decode cX8_interest 59 = .ok (.iconst 1, 1) := by decide +kernel
theorem dX8_interest_60 : decode cX8_interest 60 = .ok (.goto 4, 3) := by decide +kernel
theorem dX8_interest_63 : decode cX8_interest 63 = .ok (.iconst 0, 1) := by decide +kernel
theorem dX8_interest_64 : decode cX8_interest 64 = .ok (.istore 7, 2) := by decide +kernel
theorem dX8_interest_66 : decode cX8_interest 66 = .ok (.iload 7, 2) := by decide +kernel
theorem dX8_interest_68 : decode cX8_interest 68 = .ok (.ifCond .eq 18, 3) := by decide +kernel
theorem dX8_interest_71 : decode cX8_interest 71 = .ok (.lload_n 1, 1) := by decide +kernel
theorem dX8_interest_72 : decode cX8_interest 72 = .ok (.iload_n 3, 1) := by decide +kernel
theorem dX8_interest_73 : decode cX8_interest 73 = .ok (.i2l, 1) := by decide +kernel
theorem dX8_interest_74 : decode cX8_interest 74 = .ok (.iload 4, 2) := by decide +kernel
theorem dX8_interest_76 : decode cX8_interest 76 = .ok (.iload 5, 2) := by decide +kernel
theorem dX8_interest_78 : decode cX8_interest 78 = .ok (.iload 6, 2) := by decide +kernel
theorem dX8_interest_80 : decode cX8_interest 80 = .ok (.invokestatic 130, 3) := by decide +kernel
theorem dX8_interest_83 : decode cX8_interest 83 = .ok (.goto 6, 3) := by decide +kernel
theorem dX8_interest_86 : decode cX8_interest 86 = .ok (.ldc2_w 134, 3) := by decide +kernel
theorem dX8_interest_89 : decode cX8_interest 89 = .ok (.lreturn, 1) := by decide +kernel
theorem dX8_isLoan_0 : decode cX8_isLoan 0 = .ok (.iload_n 1, 1) := by decide +kernel
theorem dX8_isLoan_1 : decode cX8_isLoan 1 = .ok (.i2l, 1) := by decide +kernel
theorem dX8_isLoan_2 : decode cX8_isLoan 2 = .ok (.lconst 0, 1) := by decide +kernel
theorem dX8_isLoan_3 : decode cX8_isLoan 3 = .ok (.aload_n 0, 1) := by decide +kernel
theorem dX8_isLoan_4 : decode cX8_isLoan 4 = .ok (.getfield 9, 3) := by decide +kernel
theorem dX8_isLoan_7 : decode cX8_isLoan 7 = .ok (.sipush 2520, 3) := by decide +kernel
theorem dX8_isLoan_10 : decode cX8_isLoan 10 = .ok (.laload, 1) := by decide +kernel
theorem dX8_isLoan_11 : decode cX8_isLoan 11 = .ok (.lconst 1, 1) := by decide +kernel
theorem dX8_isLoan_12 : decode cX8_isLoan 12 = .ok (.lsub, 1) := by decide +kernel
theorem dX8_isLoan_13 : decode cX8_isLoan 13 = .ok (.invokestatic 85, 3) := by decide +kernel
theorem dX8_isLoan_16 : decode cX8_isLoan 16 = .ok (.ireturn, 1) := by decide +kernel
theorem dX8_at_0 : decode cX8_at 0 = .ok (.aload_n 0, 1) := by decide +kernel
theorem dX8_at_1 : decode cX8_at 1 = .ok (.getfield 9, 3) := by decide +kernel
theorem dX8_at_4 : decode cX8_at 4 = .ok (.iload_n 1, 1) := by decide +kernel
theorem dX8_at_5 : decode cX8_at 5 = .ok (.sipush 315, 3) := by decide +kernel
theorem dX8_at_8 : decode cX8_at 8 = .ok (.imul, 1) := by decide +kernel
theorem dX8_at_9 : decode cX8_at 9 = .ok (.iload_n 2, 1) := by decide +kernel
theorem dX8_at_10 : decode cX8_at 10 = .ok (.iadd, 1) := by decide +kernel
theorem dX8_at_11 : decode cX8_at 11 = .ok (.laload, 1) := by decide +kernel
theorem dX8_at_12 : decode cX8_at 12 = .ok (.lreturn, 1) := by decide +kernel
theorem dX8_sets_0 : decode cX8_sets 0 = .ok (.aload_n 0, 1) := by decide +kernel
theorem dX8_sets_1 : decode cX8_sets 1 = .ok (.getfield 9, 3) := by decide +kernel
theorem dX8_sets_4 : decode cX8_sets 4 = .ok (.iload_n 1, 1) := by decide +kernel
theorem dX8_sets_5 : decode cX8_sets 5 = .ok (.sipush 315, 3) := by decide +kernel
theorem dX8_sets_8 : decode cX8_sets 8 = .ok (.imul, 1) := by decide +kernel
theorem dX8_sets_9 : decode cX8_sets 9 = .ok (.iload_n 2, 1) := by decide +kernel
theorem dX8_sets_10 : decode cX8_sets 10 = .ok (.iadd, 1) := by decide +kernel
theorem dX8_sets_11 : decode cX8_sets 11 = .ok (.lload_n 3, 1) := by decide +kernel
theorem dX8_sets_12 : decode cX8_sets 12 = .ok (.lastore, 1) := by decide +kernel
theorem dX8_sets_13 : decode cX8_sets 13 = .ok (.return_, 1) := by decide +kernel
theorem dX8_endOf_0 : decode cX8_endOf 0 = .ok (.iload_n 2, 1) := by decide +kernel
theorem dX8_endOf_1 : decode cX8_endOf 1 = .ok (.ifCond .ne 14, 3) := by decide +kernel
theorem dX8_endOf_4 : decode cX8_endOf 4 = .ok (.aload_n 0, 1) := by decide +kernel
theorem dX8_endOf_5 : decode cX8_endOf 5 = .ok (.iload_n 1, 1) := by decide +kernel
theorem dX8_endOf_6 : decode cX8_endOf 6 = .ok (.bipush 6, 2) := by decide +kernel
theorem dX8_endOf_8 : decode cX8_endOf 8 = .ok (.invokevirtual 136, 3) := by decide +kernel
theorem dX8_endOf_11 : decode cX8_endOf 11 = .ok (.l2i, 1) := by decide +kernel
theorem dX8_endOf_12 : decode cX8_endOf 12 = .ok (.goto 15, 3) := by decide +kernel
theorem dX8_endOf_15 : decode cX8_endOf 15 = .ok (.aload_n 0, 1) := by decide +kernel
theorem dX8_endOf_16 : decode cX8_endOf 16 = .ok (.iload_n 1, 1) := by decide +kernel
theorem dX8_endOf_17 : decode cX8_endOf 17 = .ok (.bipush 6, 2) := by decide +kernel
theorem dX8_endOf_19 : decode cX8_endOf 19 = .ok (.invokevirtual 136, 3) := by decide +kernel
theorem dX8_endOf_22 : decode cX8_endOf 22 = .ok (.l2i, 1) := by decide +kernel
theorem dX8_endOf_23 : decode cX8_endOf 23 = .ok (.iload_n 2, 1) := by decide +kernel
theorem dX8_endOf_24 : decode cX8_endOf 24 = .ok (.invokestatic 140, 3) := by decide +kernel
theorem dX8_endOf_27 : decode cX8_endOf 27 = .ok (.ireturn, 1) := by decide +kernel
theorem dX8_periodInterest_0 : decode cX8_periodInterest 0 = .ok (.lload_n 2, 1) := by decide +kernel
theorem dX8_periodInterest_1 : decode cX8_periodInterest 1 = .ok (.aload_n 0, 1) := by decide +kernel
theorem dX8_periodInterest_2 : decode cX8_periodInterest 2 = .ok (.iload_n 1, 1) := by decide +kernel
theorem dX8_periodInterest_3 : decode cX8_periodInterest 3 = .ok (.iconst 1, 1) := by decide +kernel
theorem dX8_periodInterest_4 : decode cX8_periodInterest 4 = .ok (.invokevirtual 136, 3) := by decide +kernel
theorem dX8_periodInterest_7 : decode cX8_periodInterest 7 = .ok (.aload_n 0, 1) := by decide +kernel
theorem dX8_periodInterest_8 : decode cX8_periodInterest 8 = .ok (.iload_n 1, 1) := by decide +kernel
theorem dX8_periodInterest_9 : decode cX8_periodInterest 9 = .ok (.iconst 2, 1) := by decide +kernel
theorem dX8_periodInterest_10 : decode cX8_periodInterest 10 = .ok (.invokevirtual 136, 3) := by decide +kernel
theorem dX8_periodInterest_13 : decode cX8_periodInterest 13 = .ok (.l2i, 1) := by decide +kernel
theorem dX8_periodInterest_14 : decode cX8_periodInterest 14 = .ok (.aload_n 0, 1) := by decide +kernel
theorem dX8_periodInterest_15 : decode cX8_periodInterest 15 = .ok (.iload_n 1, 1) := by decide +kernel
theorem dX8_periodInterest_16 : decode cX8_periodInterest 16 = .ok (.iload 4, 2) := by decide +kernel
theorem dX8_periodInterest_18 : decode cX8_periodInterest 18 = .ok (.invokevirtual 143, 3) := by decide +kernel
theorem dX8_periodInterest_21 : decode cX8_periodInterest 21 = .ok (.aload_n 0, 1) := by decide +kernel
theorem dX8_periodInterest_22 : decode cX8_periodInterest 22 = .ok (.iload_n 1, 1) := by decide +kernel
theorem dX8_periodInterest_23 : decode cX8_periodInterest 23 = .ok (.iload 4, 2) := by decide +kernel
theorem dX8_periodInterest_25 : decode cX8_periodInterest 25 = .ok (.iconst 1, 1) := by decide +kernel
theorem dX8_periodInterest_26 : decode cX8_periodInterest 26 = .ok (.iadd, 1) := by decide +kernel
theorem dX8_periodInterest_27 : decode cX8_periodInterest 27 = .ok (.invokevirtual 143, 3) := by decide +kernel
theorem dX8_periodInterest_30 : decode cX8_periodInterest 30 = .ok (.invokestatic 130, 3) := by decide +kernel
theorem dX8_periodInterest_33 : decode cX8_periodInterest 33 = .ok (.lreturn, 1) := by decide +kernel
theorem dX8_cut_0 : decode cX8_cut 0 = .ok (.lload_n 0, 1) := by decide +kernel
theorem dX8_cut_1 : decode cX8_cut 1 = .ok (.lload_n 2, 1) := by decide +kernel
theorem dX8_cut_2 : decode cX8_cut 2 = .ok (.lcmp, 1) := by decide +kernel
theorem dX8_cut_3 : decode cX8_cut 3 = .ok (.ifCond .ge 7, 3) := by decide +kernel
theorem dX8_cut_6 : decode cX8_cut 6 = .ok (.lload_n 2, 1) := by decide +kernel
theorem dX8_cut_7 : decode cX8_cut 7 = .ok (.goto 16, 3) := by decide +kernel
theorem dX8_cut_10 : decode cX8_cut 10 = .ok (.lload_n 0, 1) := by decide +kernel
theorem dX8_cut_11 : decode cX8_cut 11 = .ok (.lload 4, 2) := by decide +kernel
theorem dX8_cut_13 : decode cX8_cut 13 = .ok (.lcmp, 1) := by decide +kernel
theorem dX8_cut_14 : decode cX8_cut 14 = .ok (.ifCond .le 8, 3) := by decide +kernel
theorem dX8_cut_17 : decode cX8_cut 17 = .ok (.lload 4, 2) := by decide +kernel
theorem dX8_cut_19 : decode cX8_cut 19 = .ok (.goto 4, 3) := by decide +kernel
theorem dX8_cut_22 : decode cX8_cut 22 = .ok (.lload_n 0, 1) := by decide +kernel
theorem dX8_cut_23 : decode cX8_cut 23 = .ok (.lreturn, 1) := by decide +kernel
theorem dX8_repays_0 : decode cX8_repays 0 = .ok (.aload_n 0, 1) := by decide +kernel
theorem dX8_repays_1 : decode cX8_repays 1 = .ok (.iload_n 1, 1) := by decide +kernel
theorem dX8_repays_2 : decode cX8_repays 2 = .ok (.bipush 8, 2) := by decide +kernel
theorem dX8_repays_4 : decode cX8_repays 4 = .ok (.invokevirtual 136, 3) := by decide +kernel
theorem dX8_repays_7 : decode cX8_repays 7 = .ok (.lstore 4, 2) := by decide +kernel
theorem dX8_repays_9 : decode cX8_repays 9 = .ok (.aload_n 0, 1) := by decide +kernel
theorem dX8_repays_10 : decode cX8_repays 10 = .ok (.iload_n 1, 1) := by decide +kernel
theorem dX8_repays_11 : decode cX8_repays 11 = .ok (.bipush 7, 2) := by decide +kernel
theorem dX8_repays_13 : decode cX8_repays 13 = .ok (.invokevirtual 136, 3) := by decide +kernel
theorem dX8_repays_16 : decode cX8_repays 16 = .ok (.l2i, 1) := by decide +kernel
theorem dX8_repays_17 : decode cX8_repays 17 = .ok (.istore 6, 2) := by decide +kernel
theorem dX8_repays_19 : decode cX8_repays 19 = .ok (.iload 6, 2) := by decide +kernel
theorem dX8_repays_21 : decode cX8_repays 21 = .ok (.i2l, 1) := by decide +kernel
theorem dX8_repays_22 : decode cX8_repays 22 = .ok (.aload_n 0, 1) := by decide +kernel
theorem dX8_repays_23 : decode cX8_repays 23 = .ok (.iload_n 1, 1) := by decide +kernel
theorem dX8_repays_24 : decode cX8_repays 24 = .ok (.iconst 4, 1) := by decide +kernel
theorem dX8_repays_25 : decode cX8_repays 25 = .ok (.invokevirtual 136, 3) := by decide +kernel
theorem dX8_repays_28 : decode cX8_repays 28 = .ok (.lcmp, 1) := by decide +kernel
theorem dX8_repays_29 : decode cX8_repays 29 = .ok (.ifCond .ge 31, 3) := by decide +kernel
theorem dX8_repays_32 : decode cX8_repays 32 = .ok (.lload 4, 2) := by decide +kernel
theorem dX8_repays_34 : decode cX8_repays 34 = .ok (.lload_n 2, 1) := by decide +kernel
theorem dX8_repays_35 : decode cX8_repays 35 = .ok (.aload_n 0, 1) := by decide +kernel
theorem dX8_repays_36 : decode cX8_repays 36 = .ok (.iload_n 1, 1) := by decide +kernel
theorem dX8_repays_37 : decode cX8_repays 37 = .ok (.lload 4, 2) := by decide +kernel
theorem dX8_repays_39 : decode cX8_repays 39 = .ok (.iload 6, 2) := by decide +kernel
theorem dX8_repays_41 : decode cX8_repays 41 = .ok (.invokevirtual 146, 3) := by decide +kernel
theorem dX8_repays_44 : decode cX8_repays 44 = .ok (.lsub, 1) := by decide +kernel
theorem dX8_repays_45 : decode cX8_repays 45 = .ok (.lconst 0, 1) := by decide +kernel
theorem dX8_repays_46 : decode cX8_repays 46 = .ok (.lload 4, 2) := by decide +kernel
theorem dX8_repays_48 : decode cX8_repays 48 = .ok (.invokestatic 150, 3) := by decide +kernel
theorem dX8_repays_51 : decode cX8_repays 51 = .ok (.lsub, 1) := by decide +kernel
theorem dX8_repays_52 : decode cX8_repays 52 = .ok (.lstore 4, 2) := by decide +kernel
theorem dX8_repays_54 : decode cX8_repays 54 = .ok (.iinc 6 1, 3) := by decide +kernel
theorem dX8_repays_57 : decode cX8_repays 57 = .ok (.goto (-38), 3) := by decide +kernel
theorem dX8_repays_60 : decode cX8_repays 60 = .ok (.lload 4, 2) := by decide +kernel
theorem dX8_repays_62 : decode cX8_repays 62 = .ok (.lconst 0, 1) := by decide +kernel
theorem dX8_repays_63 : decode cX8_repays 63 = .ok (.lcmp, 1) := by decide +kernel
theorem dX8_repays_64 : decode cX8_repays 64 = .ok (.ifCond .ne 7, 3) := by decide +kernel
theorem dX8_repays_67 : decode cX8_repays 67 = .ok (.iconst 1, 1) := by decide +kernel
theorem dX8_repays_68 : decode cX8_repays 68 = .ok (.goto 4, 3) := by decide +kernel
theorem dX8_repays_71 : decode cX8_repays 71 = .ok (.iconst 0, 1) := by decide +kernel
theorem dX8_repays_72 : decode cX8_repays 72 = .ok (.ireturn, 1) := by decide +kernel
theorem dX8_level_0 : decode cX8_level 0 = .ok (.aload_n 0, 1) := by decide +kernel
theorem dX8_level_1 : decode cX8_level 1 = .ok (.iload_n 1, 1) := by decide +kernel
theorem dX8_level_2 : decode cX8_level 2 = .ok (.iconst 3, 1) := by decide +kernel
theorem dX8_level_3 : decode cX8_level 3 = .ok (.invokevirtual 136, 3) := by decide +kernel
theorem dX8_level_6 : decode cX8_level 6 = .ok (.lconst 0, 1) := by decide +kernel
theorem dX8_level_7 : decode cX8_level 7 = .ok (.lcmp, 1) := by decide +kernel
theorem dX8_level_8 : decode cX8_level 8 = .ok (.ifCond .ne 15, 3) := by decide +kernel
theorem dX8_level_11 : decode cX8_level 11 = .ok (.aload_n 0, 1) := by decide +kernel
theorem dX8_level_12 : decode cX8_level 12 = .ok (.iload_n 1, 1) := by decide +kernel
theorem dX8_level_13 : decode cX8_level 13 = .ok (.bipush 8, 2) := by decide +kernel
theorem dX8_level_15 : decode cX8_level 15 = .ok (.invokevirtual 136, 3) := by decide +kernel
theorem dX8_level_18 : decode cX8_level 18 = .ok (.lconst 0, 1) := by decide +kernel
theorem dX8_level_19 : decode cX8_level 19 = .ok (.lcmp, 1) := by decide +kernel
theorem dX8_level_20 : decode cX8_level 20 = .ok (.ifCond .ne 4, 3) := by decide +kernel
theorem dX8_level_23 : decode cX8_level 23 = .ok (.return_, 1) := by decide +kernel
theorem dX8_level_24 : decode cX8_level 24 = .ok (.lconst 0, 1) := by decide +kernel
theorem dX8_level_25 : decode cX8_level 25 = .ok (.lstore_n 2, 1) := by decide +kernel
theorem dX8_level_26 : decode cX8_level 26 = .ok (.ldc2_w 154, 3) := by decide +kernel
theorem dX8_level_29 : decode cX8_level 29 = .ok (.lstore 4, 2) := by decide +kernel
theorem dX8_level_31 : decode cX8_level 31 = .ok (.lload_n 2, 1) := by decide +kernel
theorem dX8_level_32 : decode cX8_level 32 = .ok (.lload 4, 2) := by decide +kernel
theorem dX8_level_34 : decode cX8_level 34 = .ok (.lcmp, 1) := by decide +kernel
theorem dX8_level_35 : decode cX8_level 35 = .ok (.ifCond .ge 38, 3) := by decide +kernel
theorem dX8_level_38 : decode cX8_level 38 = .ok (.lload_n 2, 1) := by decide +kernel
theorem dX8_level_39 : decode cX8_level 39 = .ok (.lload 4, 2) := by decide +kernel
theorem dX8_level_41 : decode cX8_level 41 = .ok (.ladd, 1) := by decide +kernel
theorem dX8_level_42 : decode cX8_level 42 = .ok (.ldc2_w 124, 3) := by decide +kernel
theorem dX8_level_45 : decode cX8_level 45 = .ok (.ldiv, 1) := by decide +kernel
theorem dX8_level_46 : decode cX8_level 46 = .ok (.lstore 6, 2) := by decide +kernel
theorem dX8_level_48 : decode cX8_level 48 = .ok (.aload_n 0, 1) := by decide +kernel
theorem dX8_level_49 : decode cX8_level 49 = .ok (.iload_n 1, 1) := by decide +kernel
theorem dX8_level_50 : decode cX8_level 50 = .ok (.lload 6, 2) := by decide +kernel
theorem dX8_level_52 : decode cX8_level 52 = .ok (.invokevirtual 156, 3) := by decide +kernel
theorem dX8_level_55 : decode cX8_level 55 = .ok (.ifCond .eq 10, 3) := by decide +kernel
theorem dX8_level_58 : decode cX8_level 58 = .ok (.lload 6, 2) := by decide +kernel
theorem dX8_level_60 : decode cX8_level 60 = .ok (.lstore 4, 2) := by decide +kernel
theorem dX8_level_62 : decode cX8_level 62 = .ok (.goto 8, 3) := by decide +kernel
theorem dX8_level_65 : decode cX8_level 65 = .ok (.lload 6, 2) := by decide +kernel
theorem dX8_level_67 : decode cX8_level 67 = .ok (.lconst 1, 1) := by decide +kernel
theorem dX8_level_68 : decode cX8_level 68 = .ok (.ladd, 1) := by decide +kernel
theorem dX8_level_69 : decode cX8_level 69 = .ok (.lstore_n 2, 1) := by decide +kernel
theorem dX8_level_70 : decode cX8_level 70 = .ok (.goto (-39), 3) := by decide +kernel
theorem dX8_level_73 : decode cX8_level 73 = .ok (.aload_n 0, 1) := by decide +kernel
theorem dX8_level_74 : decode cX8_level 74 = .ok (.iload_n 1, 1) := by decide +kernel
theorem dX8_level_75 : decode cX8_level 75 = .ok (.bipush 9, 2) := by decide +kernel
theorem dX8_level_77 : decode cX8_level 77 = .ok (.lload_n 2, 1) := by decide +kernel
theorem dX8_level_78 : decode cX8_level 78 = .ok (.invokevirtual 160, 3) := by decide +kernel
theorem dX8_level_81 : decode cX8_level 81 = .ok (.return_, 1) := by decide +kernel
theorem dX8_loan_0 : decode cX8_loan 0 = .ok (.lload_n 1, 1) := by decide +kernel
theorem dX8_loan_1 : decode cX8_loan 1 = .ok (.lconst 1, 1) := by decide +kernel
theorem dX8_loan_2 : decode cX8_loan 2 = .ok (.ldc2_w 126, 3) := by decide +kernel
theorem dX8_loan_5 : decode cX8_loan 5 = .ok (.invokestatic 85, 3) := by decide +kernel
theorem dX8_loan_8 : decode cX8_loan 8 = .ok (.ifCond .eq 78, 3) := by decide +kernel
theorem dX8_loan_11 : decode cX8_loan 11 = .ok (.iload_n 3, 1) := by decide +kernel
theorem dX8_loan_12 : decode cX8_loan 12 = .ok (.i2l, 1) := by decide +kernel
theorem dX8_loan_13 : decode cX8_loan 13 = .ok (.lconst 0, 1) := by decide +kernel
theorem dX8_loan_14 : decode cX8_loan 14 = .ok (.ldc2_w 128, 3) := by decide +kernel
theorem dX8_loan_17 : decode cX8_loan 17 = .ok (.invokestatic 85, 3) := by decide +kernel
theorem dX8_loan_20 : decode cX8_loan 20 = .ok (.ifCond .eq 66, 3) := by decide +kernel
theorem dX8_loan_23 : decode cX8_loan 23 = .ok (.iload 4, 2) := by decide +kernel
theorem dX8_loan_25 : decode cX8_loan 25 = .ok (.i2l, 1) := by decide +kernel
theorem dX8_loan_26 : decode cX8_loan 26 = .ok (.lconst 0, 1) := by decide +kernel
theorem dX8_loan_27 : decode cX8_loan 27 = .ok (.ldc2_w 92, 3) := by decide +kernel
theorem dX8_loan_30 : decode cX8_loan 30 = .ok (.invokestatic 85, 3) := by decide +kernel
theorem dX8_loan_33 : decode cX8_loan 33 = .ok (.ifCond .eq 53, 3) := by decide +kernel
theorem dX8_loan_36 : decode cX8_loan 36 = .ok (.iload 5, 2) := by decide +kernel
theorem dX8_loan_38 : decode cX8_loan 38 = .ok (.i2l, 1) := by decide +kernel
theorem dX8_loan_39 : decode cX8_loan 39 = .ok (.lconst 0, 1) := by decide +kernel
theorem dX8_loan_40 : decode cX8_loan 40 = .ok (.ldc2_w 164, 3) := by decide +kernel
theorem dX8_loan_43 : decode cX8_loan 43 = .ok (.invokestatic 85, 3) := by decide +kernel
theorem dX8_loan_46 : decode cX8_loan 46 = .ok (.ifCond .eq 40, 3) := by decide +kernel
theorem dX8_loan_49 : decode cX8_loan 49 = .ok (.iload 5, 2) := by decide +kernel
theorem dX8_loan_51 : decode cX8_loan 51 = .ok (.bipush 100, 2) := by decide +kernel
theorem dX8_loan_53 : decode cX8_loan 53 = .ok (.idiv, 1) := by decide +kernel
theorem dX8_loan_54 : decode cX8_loan 54 = .ok (.bipush 10, 2) := by decide +kernel
theorem dX8_loan_56 : decode cX8_loan 56 = .ok (.irem, 1) := by decide +kernel
theorem dX8_loan_57 : decode cX8_loan 57 = .ok (.i2l, 1) := by decide +kernel
theorem dX8_loan_58 : decode cX8_loan 58 = .ok (.lconst 0, 1) := by decide +kernel
theorem dX8_loan_59 : decode cX8_loan 59 = .ok (.lconst 1, 1) := by decide +kernel
theorem dX8_loan_60 : decode cX8_loan 60 = .ok (.invokestatic 85, 3) := by decide +kernel
theorem dX8_loan_63 : decode cX8_loan 63 = .ok (.ifCond .eq 23, 3) := by decide +kernel
theorem dX8_loan_66 : decode cX8_loan 66 = .ok (.iload 5, 2) := by decide +kernel
theorem dX8_loan_68 : decode cX8_loan 68 = .ok (.bipush 100, 2) := by decide +kernel
theorem dX8_loan_70 : decode cX8_loan 70 = .ok (.irem, 1) := by decide +kernel
theorem dX8_loan_71 : decode cX8_loan 71 = .ok (.i2l, 1) := by decide +kernel
theorem dX8_loan_72 : decode cX8_loan 72 = .ok (.lconst 1, 1) := by decide +kernel
theorem dX8_loan_73 : decode cX8_loan 73 = .ok (.ldc2_w 166, 3) := by decide +kernel
theorem dX8_loan_76 : decode cX8_loan 76 = .ok (.invokestatic 85, 3) := by decide +kernel
theorem dX8_loan_79 : decode cX8_loan 79 = .ok (.ifCond .eq 7, 3) := by decide +kernel
theorem dX8_loan_82 : decode cX8_loan 82 = .ok (.iconst 1, 1) := by decide +kernel
theorem dX8_loan_83 : decode cX8_loan 83 = .ok (.goto 4, 3) := by decide +kernel
theorem dX8_loan_86 : decode cX8_loan 86 = .ok (.iconst 0, 1) := by decide +kernel
theorem dX8_loan_87 : decode cX8_loan 87 = .ok (.istore 6, 2) := by decide +kernel
theorem dX8_loan_89 : decode cX8_loan 89 = .ok (.iload 6, 2) := by decide +kernel
theorem dX8_loan_91 : decode cX8_loan 91 = .ok (.ifCond .ne 5, 3) := by decide +kernel
theorem dX8_loan_94 : decode cX8_loan 94 = .ok (.iconst (-1), 1) := by decide +kernel
theorem dX8_loan_95 : decode cX8_loan 95 = .ok (.ireturn, 1) := by decide +kernel
theorem dX8_loan_96 : decode cX8_loan 96 = .ok (.aload_n 0, 1) := by decide +kernel
theorem dX8_loan_97 : decode cX8_loan 97 = .ok (.getfield 9, 3) := by decide +kernel
theorem dX8_loan_100 : decode cX8_loan 100 = .ok (.sipush 2521, 3) := by decide +kernel
theorem dX8_loan_103 : decode cX8_loan 103 = .ok (.laload, 1) := by decide +kernel
theorem dX8_loan_104 : decode cX8_loan 104 = .ok (.l2i, 1) := by decide +kernel
theorem dX8_loan_105 : decode cX8_loan 105 = .ok (.iload 5, 2) := by decide +kernel
theorem dX8_loan_107 : decode cX8_loan 107 = .ok (.bipush 100, 2) := by decide +kernel
theorem dX8_loan_109 : decode cX8_loan 109 = .ok (.irem, 1) := by decide +kernel
theorem dX8_loan_110 : decode cX8_loan 110 = .ok (.invokestatic 140, 3) := by decide +kernel
theorem dX8_loan_113 : decode cX8_loan 113 = .ok (.ldc 168, 2) := by decide +kernel
theorem dX8_loan_115 : decode cX8_loan 115 = .ok (.if_icmp .le 6, 3) := by decide +kernel
theorem dX8_loan_118 : decode cX8_loan 118 = .ok (.bipush (-5), 2) := by decide +kernel
theorem dX8_loan_120 : decode cX8_loan 120 = .ok (.ireturn, 1) := by decide +kernel
theorem dX8_loan_121 : decode cX8_loan 121 = .ok (.aload_n 0, 1) := by decide +kernel
theorem dX8_loan_122 : decode cX8_loan 122 = .ok (.getfield 9, 3) := by decide +kernel
theorem dX8_loan_125 : decode cX8_loan 125 = .ok (.sipush 2520, 3) := by decide +kernel
theorem dX8_loan_128 : decode cX8_loan 128 = .ok (.laload, 1) := by decide +kernel
theorem dX8_loan_129 : decode cX8_loan 129 = .ok (.ldc2_w 169, 3) := by decide +kernel
theorem dX8_loan_132 : decode cX8_loan 132 = .ok (.lcmp, 1) := by decide +kernel
theorem dX8_loan_133 : decode cX8_loan 133 = .ok (.ifCond .ne 6, 3) := by decide +kernel
theorem dX8_loan_136 : decode cX8_loan 136 = .ok (.bipush (-3), 2) := by decide +kernel
theorem dX8_loan_138 : decode cX8_loan 138 = .ok (.ireturn, 1) := by decide +kernel
theorem dX8_loan_139 : decode cX8_loan 139 = .ok (.aload_n 0, 1) := by decide +kernel
theorem dX8_loan_140 : decode cX8_loan 140 = .ok (.getfield 9, 3) := by decide +kernel
theorem dX8_loan_143 : decode cX8_loan 143 = .ok (.sipush 2520, 3) := by decide +kernel
theorem dX8_loan_146 : decode cX8_loan 146 = .ok (.dup2, 1) := by decide +kernel
theorem dX8_loan_147 : decode cX8_loan 147 = .ok (.laload, 1) := by decide +kernel
theorem dX8_loan_148 : decode cX8_loan 148 = .ok (.dup2_x2, 1) := by decide +kernel
theorem dX8_loan_149 : decode cX8_loan 149 = .ok (.lconst 1, 1) := by decide +kernel
theorem dX8_loan_150 : decode cX8_loan 150 = .ok (.ladd, 1) := by decide +kernel
theorem dX8_loan_151 : decode cX8_loan 151 = .ok (.lastore, 1) := by decide +kernel
theorem dX8_loan_152 : decode cX8_loan 152 = .ok (.l2i, 1) := by decide +kernel
theorem dX8_loan_153 : decode cX8_loan 153 = .ok (.istore 7, 2) := by decide +kernel
theorem dX8_loan_155 : decode cX8_loan 155 = .ok (.iconst 0, 1) := by decide +kernel
theorem dX8_loan_156 : decode cX8_loan 156 = .ok (.istore 8, 2) := by decide +kernel
theorem dX8_loan_158 : decode cX8_loan 158 = .ok (.iload 8, 2) := by decide +kernel
theorem dX8_loan_160 : decode cX8_loan 160 = .ok (.sipush 315, 3) := by decide +kernel
theorem dX8_loan_163 : decode cX8_loan 163 = .ok (.if_icmp .ge 18, 3) := by decide +kernel
theorem dX8_loan_166 : decode cX8_loan 166 = .ok (.aload_n 0, 1) := by decide +kernel
theorem dX8_loan_167 : decode cX8_loan 167 = .ok (.iload 7, 2) := by decide +kernel
theorem dX8_loan_169 : decode cX8_loan 169 = .ok (.iload 8, 2) := by decide +kernel
theorem dX8_loan_171 : decode cX8_loan 171 = .ok (.lconst 0, 1) := by decide +kernel
theorem dX8_loan_172 : decode cX8_loan 172 = .ok (.invokevirtual 160, 3) := by decide +kernel
theorem dX8_loan_175 : decode cX8_loan 175 = .ok (.iinc 8 1, 3) := by decide +kernel
theorem dX8_loan_178 : decode cX8_loan 178 = .ok (.goto (-20), 3) := by decide +kernel
theorem dX8_loan_181 : decode cX8_loan 181 = .ok (.aload_n 0, 1) := by decide +kernel
theorem dX8_loan_182 : decode cX8_loan 182 = .ok (.iload 7, 2) := by decide +kernel
theorem dX8_loan_184 : decode cX8_loan 184 = .ok (.iconst 0, 1) := by decide +kernel
theorem dX8_loan_185 : decode cX8_loan 185 = .ok (.lload_n 1, 1) := by decide +kernel
theorem dX8_loan_186 : decode cX8_loan 186 = .ok (.invokevirtual 160, 3) := by decide +kernel
theorem dX8_loan_189 : decode cX8_loan 189 = .ok (.aload_n 0, 1) := by decide +kernel
theorem dX8_loan_190 : decode cX8_loan 190 = .ok (.iload 7, 2) := by decide +kernel
theorem dX8_loan_192 : decode cX8_loan 192 = .ok (.iconst 1, 1) := by decide +kernel
theorem dX8_loan_193 : decode cX8_loan 193 = .ok (.iload_n 3, 1) := by decide +kernel
theorem dX8_loan_194 : decode cX8_loan 194 = .ok (.i2l, 1) := by decide +kernel
theorem dX8_loan_195 : decode cX8_loan 195 = .ok (.invokevirtual 160, 3) := by decide +kernel
theorem dX8_loan_198 : decode cX8_loan 198 = .ok (.aload_n 0, 1) := by decide +kernel
theorem dX8_loan_199 : decode cX8_loan 199 = .ok (.iload 7, 2) := by decide +kernel
theorem dX8_loan_201 : decode cX8_loan 201 = .ok (.iconst 2, 1) := by decide +kernel
theorem dX8_loan_202 : decode cX8_loan 202 = .ok (.iload 4, 2) := by decide +kernel
theorem dX8_loan_204 : decode cX8_loan 204 = .ok (.i2l, 1) := by decide +kernel
theorem dX8_loan_205 : decode cX8_loan 205 = .ok (.invokevirtual 160, 3) := by decide +kernel
theorem dX8_loan_208 : decode cX8_loan 208 = .ok (.aload_n 0, 1) := by decide +kernel
theorem dX8_loan_209 : decode cX8_loan 209 = .ok (.iload 7, 2) := by decide +kernel
theorem dX8_loan_211 : decode cX8_loan 211 = .ok (.iconst 3, 1) := by decide +kernel
theorem dX8_loan_212 : decode cX8_loan 212 = .ok (.iload 5, 2) := by decide +kernel
theorem dX8_loan_214 : decode cX8_loan 214 = .ok (.sipush 1000, 3) := by decide +kernel
theorem dX8_loan_217 : decode cX8_loan 217 = .ok (.idiv, 1) := by decide +kernel
theorem dX8_loan_218 : decode cX8_loan 218 = .ok (.i2l, 1) := by decide +kernel
theorem dX8_loan_219 : decode cX8_loan 219 = .ok (.invokevirtual 160, 3) := by decide +kernel
theorem dX8_loan_222 : decode cX8_loan 222 = .ok (.aload_n 0, 1) := by decide +kernel
theorem dX8_loan_223 : decode cX8_loan 223 = .ok (.iload 7, 2) := by decide +kernel
theorem dX8_loan_225 : decode cX8_loan 225 = .ok (.iconst 5, 1) := by decide +kernel
theorem dX8_loan_226 : decode cX8_loan 226 = .ok (.iload 5, 2) := by decide +kernel
theorem dX8_loan_228 : decode cX8_loan 228 = .ok (.bipush 100, 2) := by decide +kernel
theorem dX8_loan_230 : decode cX8_loan 230 = .ok (.idiv, 1) := by decide +kernel
theorem dX8_loan_231 : decode cX8_loan 231 = .ok (.bipush 10, 2) := by decide +kernel
theorem dX8_loan_233 : decode cX8_loan 233 = .ok (.irem, 1) := by decide +kernel
theorem dX8_loan_234 : decode cX8_loan 234 = .ok (.i2l, 1) := by decide +kernel
theorem dX8_loan_235 : decode cX8_loan 235 = .ok (.invokevirtual 160, 3) := by decide +kernel
theorem dX8_loan_238 : decode cX8_loan 238 = .ok (.aload_n 0, 1) := by decide +kernel
theorem dX8_loan_239 : decode cX8_loan 239 = .ok (.iload 7, 2) := by decide +kernel
theorem dX8_loan_241 : decode cX8_loan 241 = .ok (.iconst 4, 1) := by decide +kernel
theorem dX8_loan_242 : decode cX8_loan 242 = .ok (.iload 5, 2) := by decide +kernel
theorem dX8_loan_244 : decode cX8_loan 244 = .ok (.bipush 100, 2) := by decide +kernel
theorem dX8_loan_246 : decode cX8_loan 246 = .ok (.irem, 1) := by decide +kernel
theorem dX8_loan_247 : decode cX8_loan 247 = .ok (.i2l, 1) := by decide +kernel
theorem dX8_loan_248 : decode cX8_loan 248 = .ok (.invokevirtual 160, 3) := by decide +kernel
theorem dX8_loan_251 : decode cX8_loan 251 = .ok (.aload_n 0, 1) := by decide +kernel
theorem dX8_loan_252 : decode cX8_loan 252 = .ok (.iload 7, 2) := by decide +kernel
theorem dX8_loan_254 : decode cX8_loan 254 = .ok (.bipush 6, 2) := by decide +kernel
theorem dX8_loan_256 : decode cX8_loan 256 = .ok (.aload_n 0, 1) := by decide +kernel
theorem dX8_loan_257 : decode cX8_loan 257 = .ok (.getfield 9, 3) := by decide +kernel
theorem dX8_loan_260 : decode cX8_loan 260 = .ok (.sipush 2521, 3) := by decide +kernel
theorem dX8_loan_263 : decode cX8_loan 263 = .ok (.laload, 1) := by decide +kernel
theorem dX8_loan_264 : decode cX8_loan 264 = .ok (.invokevirtual 160, 3) := by decide +kernel
theorem dX8_loan_267 : decode cX8_loan 267 = .ok (.aload_n 0, 1) := by decide +kernel
theorem dX8_loan_268 : decode cX8_loan 268 = .ok (.iload 7, 2) := by decide +kernel
theorem dX8_loan_270 : decode cX8_loan 270 = .ok (.bipush 8, 2) := by decide +kernel
theorem dX8_loan_272 : decode cX8_loan 272 = .ok (.lload_n 1, 1) := by decide +kernel
theorem dX8_loan_273 : decode cX8_loan 273 = .ok (.invokevirtual 160, 3) := by decide +kernel
theorem dX8_loan_276 : decode cX8_loan 276 = .ok (.aload_n 0, 1) := by decide +kernel
theorem dX8_loan_277 : decode cX8_loan 277 = .ok (.iload 7, 2) := by decide +kernel
theorem dX8_loan_279 : decode cX8_loan 279 = .ok (.invokevirtual 171, 3) := by decide +kernel
theorem dX8_loan_282 : decode cX8_loan 282 = .ok (.iload 7, 2) := by decide +kernel
theorem dX8_loan_284 : decode cX8_loan 284 = .ok (.ireturn, 1) := by decide +kernel
theorem dX8_principalOf_0 : decode cX8_principalOf 0 = .ok (.aload_n 0, 1) := by decide +kernel
theorem dX8_principalOf_1 : decode cX8_principalOf 1 = .ok (.iload_n 1, 1) := by decide +kernel
theorem dX8_principalOf_2 : decode cX8_principalOf 2 = .ok (.iconst 4, 1) := by decide +kernel
theorem dX8_principalOf_3 : decode cX8_principalOf 3 = .ok (.invokevirtual 136, 3) := by decide +kernel
theorem dX8_principalOf_6 : decode cX8_principalOf 6 = .ok (.l2i, 1) := by decide +kernel
theorem dX8_principalOf_7 : decode cX8_principalOf 7 = .ok (.iload 6, 2) := by decide +kernel
theorem dX8_principalOf_9 : decode cX8_principalOf 9 = .ok (.isub, 1) := by decide +kernel
theorem dX8_principalOf_10 : decode cX8_principalOf 10 = .ok (.istore 7, 2) := by decide +kernel
theorem dX8_principalOf_12 : decode cX8_principalOf 12 = .ok (.iload 7, 2) := by decide +kernel
theorem dX8_principalOf_14 : decode cX8_principalOf 14 = .ok (.iconst 1, 1) := by decide +kernel
theorem dX8_principalOf_15 : decode cX8_principalOf 15 = .ok (.if_icmp .ne 5, 3) := by decide +kernel
theorem dX8_principalOf_18 : decode cX8_principalOf 18 = .ok (.lload_n 2, 1) := by decide +kernel
theorem dX8_principalOf_19 : decode cX8_principalOf 19 = .ok (.lreturn, 1) := by decide +kernel
theorem dX8_principalOf_20 : decode cX8_principalOf 20 = .ok (.aload_n 0, 1) := by decide +kernel
theorem dX8_principalOf_21 : decode cX8_principalOf 21 = .ok (.iload_n 1, 1) := by decide +kernel
theorem dX8_principalOf_22 : decode cX8_principalOf 22 = .ok (.iconst 3, 1) := by decide +kernel
theorem dX8_principalOf_23 : decode cX8_principalOf 23 = .ok (.invokevirtual 136, 3) := by decide +kernel
theorem dX8_principalOf_26 : decode cX8_principalOf 26 = .ok (.lconst 0, 1) := by decide +kernel
theorem dX8_principalOf_27 : decode cX8_principalOf 27 = .ok (.lcmp, 1) := by decide +kernel
theorem dX8_principalOf_28 : decode cX8_principalOf 28 = .ok (.ifCond .ne 21, 3) := by decide +kernel
theorem dX8_principalOf_31 : decode cX8_principalOf 31 = .ok (.aload_n 0, 1) := by decide +kernel
theorem dX8_principalOf_32 : decode cX8_principalOf 32 = .ok (.iload_n 1, 1) := by decide +kernel
theorem dX8_principalOf_33 : decode cX8_principalOf 33 = .ok (.bipush 9, 2) := by decide +kernel
theorem dX8_principalOf_35 : decode cX8_principalOf 35 = .ok (.invokevirtual 136, 3) := by decide +kernel
theorem dX8_principalOf_38 : decode cX8_principalOf 38 = .ok (.lload 4, 2) := by decide +kernel
theorem dX8_principalOf_40 : decode cX8_principalOf 40 = .ok (.lsub, 1) := by decide +kernel
theorem dX8_principalOf_41 : decode cX8_principalOf 41 = .ok (.lconst 0, 1) := by decide +kernel
theorem dX8_principalOf_42 : decode cX8_principalOf 42 = .ok (.lload_n 2, 1) := by decide +kernel
theorem dX8_principalOf_43 : decode cX8_principalOf 43 = .ok (.invokestatic 150, 3) := by decide +kernel
theorem dX8_principalOf_46 : decode cX8_principalOf 46 = .ok (.goto 23, 3) := by decide +kernel
theorem dX8_principalOf_49 : decode cX8_principalOf 49 = .ok (.aload_n 0, 1) := by decide +kernel
theorem dX8_principalOf_50 : decode cX8_principalOf 50 = .ok (.iload_n 1, 1) := by decide +kernel
theorem dX8_principalOf_51 : decode cX8_principalOf 51 = .ok (.iconst 3, 1) := by decide +kernel
theorem dX8_principalOf_52 : decode cX8_principalOf 52 = .ok (.invokevirtual 136, 3) := by decide +kernel
theorem dX8_principalOf_55 : decode cX8_principalOf 55 = .ok (.lconst 1, 1) := by decide +kernel
theorem dX8_principalOf_56 : decode cX8_principalOf 56 = .ok (.lcmp, 1) := by decide +kernel
theorem dX8_principalOf_57 : decode cX8_principalOf 57 = .ok (.ifCond .ne 11, 3) := by decide +kernel
theorem dX8_principalOf_60 : decode cX8_principalOf 60 = .ok (.lload_n 2, 1) := by decide +kernel
theorem dX8_principalOf_61 : decode cX8_principalOf 61 = .ok (.iload 7, 2) := by decide +kernel
theorem dX8_principalOf_63 : decode cX8_principalOf 63 = .ok (.i2l, 1) := by decide +kernel
theorem dX8_principalOf_64 : decode cX8_principalOf 64 = .ok (.ldiv, 1) := by decide +kernel
theorem dX8_principalOf_65 : decode cX8_principalOf 65 = .ok (.goto 4, 3) := by decide +kernel
theorem dX8_principalOf_68 : decode cX8_principalOf 68 = .ok (.lconst 0, 1) := by decide +kernel
theorem dX8_principalOf_69 : decode cX8_principalOf 69 = .ok (.lreturn, 1) := by decide +kernel
theorem dX8_ends_0 : decode cX8_ends 0 = .ok (.aload_n 0, 1) := by decide +kernel
theorem dX8_ends_1 : decode cX8_ends 1 = .ok (.iload_n 1, 1) := by decide +kernel
theorem dX8_ends_2 : decode cX8_ends 2 = .ok (.bipush 7, 2) := by decide +kernel
theorem dX8_ends_4 : decode cX8_ends 4 = .ok (.invokevirtual 136, 3) := by decide +kernel
theorem dX8_ends_7 : decode cX8_ends 7 = .ok (.l2i, 1) := by decide +kernel
theorem dX8_ends_8 : decode cX8_ends 8 = .ok (.istore_n 2, 1) := by decide +kernel
theorem dX8_ends_9 : decode cX8_ends 9 = .ok (.aload_n 0, 1) := by decide +kernel
theorem dX8_ends_10 : decode cX8_ends 10 = .ok (.iload_n 1, 1) := by decide +kernel
theorem dX8_ends_11 : decode cX8_ends 11 = .ok (.bipush 8, 2) := by decide +kernel
theorem dX8_ends_13 : decode cX8_ends 13 = .ok (.invokevirtual 136, 3) := by decide +kernel
theorem dX8_ends_16 : decode cX8_ends 16 = .ok (.lstore_n 3, 1) := by decide +kernel
theorem dX8_ends_17 : decode cX8_ends 17 = .ok (.aload_n 0, 1) := by decide +kernel
theorem dX8_ends_18 : decode cX8_ends 18 = .ok (.iload_n 1, 1) := by decide +kernel
theorem dX8_ends_19 : decode cX8_ends 19 = .ok (.lload_n 3, 1) := by decide +kernel
theorem dX8_ends_20 : decode cX8_ends 20 = .ok (.iload_n 2, 1) := by decide +kernel
theorem dX8_ends_21 : decode cX8_ends 21 = .ok (.invokevirtual 146, 3) := by decide +kernel
theorem dX8_ends_24 : decode cX8_ends 24 = .ok (.lstore 5, 2) := by decide +kernel
theorem dX8_ends_26 : decode cX8_ends 26 = .ok (.aload_n 0, 1) := by decide +kernel
theorem dX8_ends_27 : decode cX8_ends 27 = .ok (.iload_n 1, 1) := by decide +kernel
theorem dX8_ends_28 : decode cX8_ends 28 = .ok (.lload_n 3, 1) := by decide +kernel
theorem dX8_ends_29 : decode cX8_ends 29 = .ok (.lload 5, 2) := by decide +kernel
theorem dX8_ends_31 : decode cX8_ends 31 = .ok (.iload_n 2, 1) := by decide +kernel
theorem dX8_ends_32 : decode cX8_ends 32 = .ok (.invokevirtual 175, 3) := by decide +kernel
theorem dX8_ends_35 : decode cX8_ends 35 = .ok (.lstore 7, 2) := by decide +kernel
theorem dX8_ends_37 : decode cX8_ends 37 = .ok (.aload_n 0, 1) := by decide +kernel
theorem dX8_ends_38 : decode cX8_ends 38 = .ok (.iload_n 1, 1) := by decide +kernel
theorem dX8_ends_39 : decode cX8_ends 39 = .ok (.bipush 7, 2) := by decide +kernel
theorem dX8_ends_41 : decode cX8_ends 41 = .ok (.iload_n 2, 1) := by decide +kernel
theorem dX8_ends_42 : decode cX8_ends 42 = .ok (.iconst 1, 1) := by decide +kernel
theorem dX8_ends_43 : decode cX8_ends 43 = .ok (.iadd, 1) := by decide +kernel
theorem dX8_ends_44 : decode cX8_ends 44 = .ok (.i2l, 1) := by decide +kernel
theorem dX8_ends_45 : decode cX8_ends 45 = .ok (.invokevirtual 160, 3) := by decide +kernel
theorem dX8_ends_48 : decode cX8_ends 48 = .ok (.aload_n 0, 1) := by decide +kernel
theorem dX8_ends_49 : decode cX8_ends 49 = .ok (.iload_n 1, 1) := by decide +kernel
theorem dX8_ends_50 : decode cX8_ends 50 = .ok (.bipush 8, 2) := by decide +kernel
theorem dX8_ends_52 : decode cX8_ends 52 = .ok (.lload_n 3, 1) := by decide +kernel
theorem dX8_ends_53 : decode cX8_ends 53 = .ok (.lload 7, 2) := by decide +kernel
theorem dX8_ends_55 : decode cX8_ends 55 = .ok (.lsub, 1) := by decide +kernel
theorem dX8_ends_56 : decode cX8_ends 56 = .ok (.invokevirtual 160, 3) := by decide +kernel
theorem dX8_ends_59 : decode cX8_ends 59 = .ok (.lload 5, 2) := by decide +kernel
theorem dX8_ends_61 : decode cX8_ends 61 = .ok (.lload 7, 2) := by decide +kernel
theorem dX8_ends_63 : decode cX8_ends 63 = .ok (.ladd, 1) := by decide +kernel
theorem dX8_ends_64 : decode cX8_ends 64 = .ok (.lconst 0, 1) := by decide +kernel
theorem dX8_ends_65 : decode cX8_ends 65 = .ok (.lcmp, 1) := by decide +kernel
theorem dX8_ends_66 : decode cX8_ends 66 = .ok (.ifCond .ne 5, 3) := by decide +kernel
theorem dX8_ends_69 : decode cX8_ends 69 = .ok (.iconst 0, 1) := by decide +kernel
theorem dX8_ends_70 : decode cX8_ends 70 = .ok (.ireturn, 1) := by decide +kernel
theorem dX8_ends_71 : decode cX8_ends 71 = .ok (.bipush 15, 2) := by decide +kernel
theorem dX8_ends_73 : decode cX8_ends 73 = .ok (.iconst 5, 1) := by decide +kernel
theorem dX8_ends_74 : decode cX8_ends 74 = .ok (.aload_n 0, 1) := by decide +kernel
theorem dX8_ends_75 : decode cX8_ends 75 = .ok (.iload_n 1, 1) := by decide +kernel
theorem dX8_ends_76 : decode cX8_ends 76 = .ok (.bipush 14, 2) := by decide +kernel
theorem dX8_ends_78 : decode cX8_ends 78 = .ok (.invokevirtual 136, 3) := by decide +kernel
theorem dX8_ends_81 : decode cX8_ends 81 = .ok (.l2i, 1) := by decide +kernel
theorem dX8_ends_82 : decode cX8_ends 82 = .ok (.imul, 1) := by decide +kernel
theorem dX8_ends_83 : decode cX8_ends 83 = .ok (.iadd, 1) := by decide +kernel
theorem dX8_ends_84 : decode cX8_ends 84 = .ok (.istore 9, 2) := by decide +kernel
theorem dX8_ends_86 : decode cX8_ends 86 = .ok (.aload_n 0, 1) := by decide +kernel
theorem dX8_ends_87 : decode cX8_ends 87 = .ok (.iload_n 1, 1) := by decide +kernel
theorem dX8_ends_88 : decode cX8_ends 88 = .ok (.iload 9, 2) := by decide +kernel
theorem dX8_ends_90 : decode cX8_ends 90 = .ok (.aload_n 0, 1) := by decide +kernel
theorem dX8_ends_91 : decode cX8_ends 91 = .ok (.getfield 9, 3) := by decide +kernel
theorem dX8_ends_94 : decode cX8_ends 94 = .ok (.sipush 2521, 3) := by decide +kernel
theorem dX8_ends_97 : decode cX8_ends 97 = .ok (.laload, 1) := by decide +kernel
theorem dX8_ends_98 : decode cX8_ends 98 = .ok (.invokevirtual 160, 3) := by decide +kernel
theorem dX8_ends_101 : decode cX8_ends 101 = .ok (.aload_n 0, 1) := by decide +kernel
theorem dX8_ends_102 : decode cX8_ends 102 = .ok (.iload_n 1, 1) := by decide +kernel
theorem dX8_ends_103 : decode cX8_ends 103 = .ok (.iload 9, 2) := by decide +kernel
theorem dX8_ends_105 : decode cX8_ends 105 = .ok (.iconst 1, 1) := by decide +kernel
theorem dX8_ends_106 : decode cX8_ends 106 = .ok (.iadd, 1) := by decide +kernel
theorem dX8_ends_107 : decode cX8_ends 107 = .ok (.lload 5, 2) := by decide +kernel
theorem dX8_ends_109 : decode cX8_ends 109 = .ok (.invokevirtual 160, 3) := by decide +kernel
theorem dX8_ends_112 : decode cX8_ends 112 = .ok (.aload_n 0, 1) := by decide +kernel
theorem dX8_ends_113 : decode cX8_ends 113 = .ok (.iload_n 1, 1) := by decide +kernel
theorem dX8_ends_114 : decode cX8_ends 114 = .ok (.iload 9, 2) := by decide +kernel
theorem dX8_ends_116 : decode cX8_ends 116 = .ok (.iconst 2, 1) := by decide +kernel
theorem dX8_ends_117 : decode cX8_ends 117 = .ok (.iadd, 1) := by decide +kernel
theorem dX8_ends_118 : decode cX8_ends 118 = .ok (.lload 7, 2) := by decide +kernel
theorem dX8_ends_120 : decode cX8_ends 120 = .ok (.invokevirtual 160, 3) := by decide +kernel
theorem dX8_ends_123 : decode cX8_ends 123 = .ok (.aload_n 0, 1) := by decide +kernel
theorem dX8_ends_124 : decode cX8_ends 124 = .ok (.iload_n 1, 1) := by decide +kernel
theorem dX8_ends_125 : decode cX8_ends 125 = .ok (.iload 9, 2) := by decide +kernel
theorem dX8_ends_127 : decode cX8_ends 127 = .ok (.iconst 3, 1) := by decide +kernel
theorem dX8_ends_128 : decode cX8_ends 128 = .ok (.iadd, 1) := by decide +kernel
theorem dX8_ends_129 : decode cX8_ends 129 = .ok (.lconst 0, 1) := by decide +kernel
theorem dX8_ends_130 : decode cX8_ends 130 = .ok (.invokevirtual 160, 3) := by decide +kernel
theorem dX8_ends_133 : decode cX8_ends 133 = .ok (.aload_n 0, 1) := by decide +kernel
theorem dX8_ends_134 : decode cX8_ends 134 = .ok (.iload_n 1, 1) := by decide +kernel
theorem dX8_ends_135 : decode cX8_ends 135 = .ok (.iload 9, 2) := by decide +kernel
theorem dX8_ends_137 : decode cX8_ends 137 = .ok (.iconst 4, 1) := by decide +kernel
theorem dX8_ends_138 : decode cX8_ends 138 = .ok (.iadd, 1) := by decide +kernel
theorem dX8_ends_139 : decode cX8_ends 139 = .ok (.lconst 0, 1) := by decide +kernel
theorem dX8_ends_140 : decode cX8_ends 140 = .ok (.invokevirtual 160, 3) := by decide +kernel
theorem dX8_ends_143 : decode cX8_ends 143 = .ok (.aload_n 0, 1) := by decide +kernel
theorem dX8_ends_144 : decode cX8_ends 144 = .ok (.iload_n 1, 1) := by decide +kernel
theorem dX8_ends_145 : decode cX8_ends 145 = .ok (.bipush 14, 2) := by decide +kernel
theorem dX8_ends_147 : decode cX8_ends 147 = .ok (.aload_n 0, 1) := by decide +kernel
theorem dX8_ends_148 : decode cX8_ends 148 = .ok (.iload_n 1, 1) := by decide +kernel
theorem dX8_ends_149 : decode cX8_ends 149 = .ok (.bipush 14, 2) := by decide +kernel
theorem dX8_ends_151 : decode cX8_ends 151 = .ok (.invokevirtual 136, 3) := by decide +kernel
theorem dX8_ends_154 : decode cX8_ends 154 = .ok (.lconst 1, 1) := by decide +kernel
theorem dX8_ends_155 : decode cX8_ends 155 = .ok (.ladd, 1) := by decide +kernel
theorem dX8_ends_156 : decode cX8_ends 156 = .ok (.invokevirtual 160, 3) := by decide +kernel
theorem dX8_ends_159 : decode cX8_ends 159 = .ok (.iconst 1, 1) := by decide +kernel
theorem dX8_ends_160 : decode cX8_ends 160 = .ok (.ireturn, 1) := by decide +kernel
theorem dX8_fees_0 : decode cX8_fees 0 = .ok (.iconst 0, 1) := by decide +kernel
theorem dX8_fees_1 : decode cX8_fees 1 = .ok (.istore_n 2, 1) := by decide +kernel
theorem dX8_fees_2 : decode cX8_fees 2 = .ok (.iload_n 2, 1) := by decide +kernel
theorem dX8_fees_3 : decode cX8_fees 3 = .ok (.i2l, 1) := by decide +kernel
theorem dX8_fees_4 : decode cX8_fees 4 = .ok (.aload_n 0, 1) := by decide +kernel
theorem dX8_fees_5 : decode cX8_fees 5 = .ok (.iload_n 1, 1) := by decide +kernel
theorem dX8_fees_6 : decode cX8_fees 6 = .ok (.bipush 14, 2) := by decide +kernel
theorem dX8_fees_8 : decode cX8_fees 8 = .ok (.invokevirtual 136, 3) := by decide +kernel
theorem dX8_fees_11 : decode cX8_fees 11 = .ok (.lcmp, 1) := by decide +kernel
theorem dX8_fees_12 : decode cX8_fees 12 = .ok (.ifCond .ge 81, 3) := by decide +kernel
theorem dX8_fees_15 : decode cX8_fees 15 = .ok (.bipush 15, 2) := by decide +kernel
theorem dX8_fees_17 : decode cX8_fees 17 = .ok (.iconst 5, 1) := by decide +kernel
theorem dX8_fees_18 : decode cX8_fees 18 = .ok (.iload_n 2, 1) := by decide +kernel
theorem dX8_fees_19 : decode cX8_fees 19 = .ok (.imul, 1) := by decide +kernel
theorem dX8_fees_20 : decode cX8_fees 20 = .ok (.iadd, 1) := by decide +kernel
theorem dX8_fees_21 : decode cX8_fees 21 = .ok (.istore_n 3, 1) := by decide +kernel
theorem dX8_fees_22 : decode cX8_fees 22 = .ok (.aload_n 0, 1) := by decide +kernel
theorem dX8_fees_23 : decode cX8_fees 23 = .ok (.iload_n 1, 1) := by decide +kernel
theorem dX8_fees_24 : decode cX8_fees 24 = .ok (.iload_n 3, 1) := by decide +kernel
theorem dX8_fees_25 : decode cX8_fees 25 = .ok (.iconst 4, 1) := by decide +kernel
theorem dX8_fees_26 : decode cX8_fees 26 = .ok (.iadd, 1) := by decide +kernel
theorem dX8_fees_27 : decode cX8_fees 27 = .ok (.invokevirtual 136, 3) := by decide +kernel
theorem dX8_fees_30 : decode cX8_fees 30 = .ok (.lconst 0, 1) := by decide +kernel
theorem dX8_fees_31 : decode cX8_fees 31 = .ok (.lcmp, 1) := by decide +kernel
theorem dX8_fees_32 : decode cX8_fees 32 = .ok (.ifCond .ne 55, 3) := by decide +kernel
theorem dX8_fees_35 : decode cX8_fees 35 = .ok (.aload_n 0, 1) := by decide +kernel
theorem dX8_fees_36 : decode cX8_fees 36 = .ok (.getfield 9, 3) := by decide +kernel
theorem dX8_fees_39 : decode cX8_fees 39 = .ok (.sipush 2521, 3) := by decide +kernel
theorem dX8_fees_42 : decode cX8_fees 42 = .ok (.laload, 1) := by decide +kernel
theorem dX8_fees_43 : decode cX8_fees 43 = .ok (.aload_n 0, 1) := by decide +kernel
theorem dX8_fees_44 : decode cX8_fees 44 = .ok (.iload_n 1, 1) := by decide +kernel
theorem dX8_fees_45 : decode cX8_fees 45 = .ok (.iload_n 3, 1) := by decide +kernel
theorem dX8_fees_46 : decode cX8_fees 46 = .ok (.invokevirtual 136, 3) := by decide +kernel
theorem dX8_fees_49 : decode cX8_fees 49 = .ok (.lsub, 1) := by decide +kernel
theorem dX8_fees_50 : decode cX8_fees 50 = .ok (.aload_n 0, 1) := by decide +kernel
theorem dX8_fees_51 : decode cX8_fees 51 = .ok (.getfield 9, 3) := by decide +kernel
theorem dX8_fees_54 : decode cX8_fees 54 = .ok (.sipush 2522, 3) := by decide +kernel
theorem dX8_fees_57 : decode cX8_fees 57 = .ok (.laload, 1) := by decide +kernel
theorem dX8_fees_58 : decode cX8_fees 58 = .ok (.lcmp, 1) := by decide +kernel
theorem dX8_fees_59 : decode cX8_fees 59 = .ok (.ifCond .ne 28, 3) := by decide +kernel
theorem dX8_fees_62 : decode cX8_fees 62 = .ok (.aload_n 0, 1) := by decide +kernel
theorem dX8_fees_63 : decode cX8_fees 63 = .ok (.iload_n 1, 1) := by decide +kernel
theorem dX8_fees_64 : decode cX8_fees 64 = .ok (.iload_n 3, 1) := by decide +kernel
theorem dX8_fees_65 : decode cX8_fees 65 = .ok (.iconst 3, 1) := by decide +kernel
theorem dX8_fees_66 : decode cX8_fees 66 = .ok (.iadd, 1) := by decide +kernel
theorem dX8_fees_67 : decode cX8_fees 67 = .ok (.aload_n 0, 1) := by decide +kernel
theorem dX8_fees_68 : decode cX8_fees 68 = .ok (.getfield 9, 3) := by decide +kernel
theorem dX8_fees_71 : decode cX8_fees 71 = .ok (.sipush 2523, 3) := by decide +kernel
theorem dX8_fees_74 : decode cX8_fees 74 = .ok (.laload, 1) := by decide +kernel
theorem dX8_fees_75 : decode cX8_fees 75 = .ok (.invokevirtual 160, 3) := by decide +kernel
theorem dX8_fees_78 : decode cX8_fees 78 = .ok (.aload_n 0, 1) := by decide +kernel
theorem dX8_fees_79 : decode cX8_fees 79 = .ok (.iload_n 1, 1) := by decide +kernel
theorem dX8_fees_80 : decode cX8_fees 80 = .ok (.iload_n 3, 1) := by decide +kernel
theorem dX8_fees_81 : decode cX8_fees 81 = .ok (.iconst 4, 1) := by decide +kernel
theorem dX8_fees_82 : decode cX8_fees 82 = .ok (.iadd, 1) := by decide +kernel
theorem dX8_fees_83 : decode cX8_fees 83 = .ok (.lconst 1, 1) := by decide +kernel
theorem dX8_fees_84 : decode cX8_fees 84 = .ok (.invokevirtual 160, 3) := by decide +kernel
theorem dX8_fees_87 : decode cX8_fees 87 = .ok (.iinc 2 1, 3) := by decide +kernel
theorem dX8_fees_90 : decode cX8_fees 90 = .ok (.goto (-88), 3) := by decide +kernel
theorem dX8_fees_93 : decode cX8_fees 93 = .ok (.return_, 1) := by decide +kernel
theorem dX8_days_0 : decode cX8_days 0 = .ok (.iload_n 1, 1) := by decide +kernel
theorem dX8_days_1 : decode cX8_days 1 = .ok (.i2l, 1) := by decide +kernel
theorem dX8_days_2 : decode cX8_days 2 = .ok (.lconst 1, 1) := by decide +kernel
theorem dX8_days_3 : decode cX8_days 3 = .ok (.ldc2_w 179, 3) := by decide +kernel
theorem dX8_days_6 : decode cX8_days 6 = .ok (.invokestatic 85, 3) := by decide +kernel
theorem dX8_days_9 : decode cX8_days 9 = .ok (.ifCond .ne 5, 3) := by decide +kernel
theorem dX8_days_12 : decode cX8_days 12 = .ok (.iconst (-1), 1) := by decide +kernel
theorem dX8_days_13 : decode cX8_days 13 = .ok (.ireturn, 1) := by decide +kernel
theorem dX8_days_14 : decode cX8_days 14 = .ok (.aload_n 0, 1) := by decide +kernel
theorem dX8_days_15 : decode cX8_days 15 = .ok (.getfield 9, 3) := by decide +kernel
theorem dX8_days_18 : decode cX8_days 18 = .ok (.sipush 2521, 3) := by decide +kernel
theorem dX8_days_21 : decode cX8_days 21 = .ok (.laload, 1) := by decide +kernel
theorem dX8_days_22 : decode cX8_days 22 = .ok (.iload_n 1, 1) := by decide +kernel
theorem dX8_days_23 : decode cX8_days 23 = .ok (.i2l, 1) := by decide +kernel
theorem dX8_days_24 : decode cX8_days 24 = .ok (.ladd, 1) := by decide +kernel
theorem dX8_days_25 : decode cX8_days 25 = .ok (.ldc2_w 83, 3) := by decide +kernel
theorem dX8_days_28 : decode cX8_days 28 = .ok (.lcmp, 1) := by decide +kernel
theorem dX8_days_29 : decode cX8_days 29 = .ok (.ifCond .le 6, 3) := by decide +kernel
theorem dX8_days_32 : decode cX8_days 32 = .ok (.bipush (-5), 2) := by decide +kernel
theorem dX8_days_34 : decode cX8_days 34 = .ok (.ireturn, 1) := by decide +kernel
theorem dX8_days_35 : decode cX8_days 35 = .ok (.iconst 0, 1) := by decide +kernel
theorem dX8_days_36 : decode cX8_days 36 = .ok (.istore_n 2, 1) := by decide +kernel
theorem dX8_days_37 : decode cX8_days 37 = .ok (.iconst 0, 1) := by decide +kernel
theorem dX8_days_38 : decode cX8_days 38 = .ok (.istore_n 3, 1) := by decide +kernel
theorem dX8_days_39 : decode cX8_days 39 = .ok (.iload_n 3, 1) := by decide +kernel
theorem dX8_days_40 : decode cX8_days 40 = .ok (.iload_n 1, 1) := by decide +kernel
theorem dX8_days_41 : decode cX8_days 41 = .ok (.if_icmp .ge 140, 3) := by decide +kernel
theorem dX8_days_44 : decode cX8_days 44 = .ok (.aload_n 0, 1) := by decide +kernel
theorem dX8_days_45 : decode cX8_days 45 = .ok (.getfield 9, 3) := by decide +kernel
theorem dX8_days_48 : decode cX8_days 48 = .ok (.sipush 2521, 3) := by decide +kernel
theorem dX8_days_51 : decode cX8_days 51 = .ok (.dup2, 1) := by decide +kernel
theorem dX8_days_52 : decode cX8_days 52 = .ok (.laload, 1) := by decide +kernel
theorem dX8_days_53 : decode cX8_days 53 = .ok (.lconst 1, 1) := by decide +kernel
theorem dX8_days_54 : decode cX8_days 54 = .ok (.ladd, 1) := by decide +kernel
theorem dX8_days_55 : decode cX8_days 55 = .ok (.lastore, 1) := by decide +kernel
theorem dX8_days_56 : decode cX8_days 56 = .ok (.iconst 0, 1) := by decide +kernel
theorem dX8_days_57 : decode cX8_days 57 = .ok (.istore 4, 2) := by decide +kernel
theorem dX8_days_59 : decode cX8_days 59 = .ok (.iload 4, 2) := by decide +kernel
theorem dX8_days_61 : decode cX8_days 61 = .ok (.i2l, 1) := by decide +kernel
theorem dX8_days_62 : decode cX8_days 62 = .ok (.aload_n 0, 1) := by decide +kernel
theorem dX8_days_63 : decode cX8_days 63 = .ok (.getfield 9, 3) := by decide +kernel
theorem dX8_days_66 : decode cX8_days 66 = .ok (.sipush 2520, 3) := by decide +kernel
theorem dX8_days_69 : decode cX8_days 69 = .ok (.laload, 1) := by decide +kernel
theorem dX8_days_70 : decode cX8_days 70 = .ok (.lcmp, 1) := by decide +kernel
theorem dX8_days_71 : decode cX8_days 71 = .ok (.ifCond .ge 74, 3) := by decide +kernel
theorem dX8_days_74 : decode cX8_days 74 = .ok (.aload_n 0, 1) := by decide +kernel
theorem dX8_days_75 : decode cX8_days 75 = .ok (.iload 4, 2) := by decide +kernel
theorem dX8_days_77 : decode cX8_days 77 = .ok (.bipush 7, 2) := by decide +kernel
theorem dX8_days_79 : decode cX8_days 79 = .ok (.invokevirtual 136, 3) := by decide +kernel
theorem dX8_days_82 : decode cX8_days 82 = .ok (.l2i, 1) := by decide +kernel
theorem dX8_days_83 : decode cX8_days 83 = .ok (.istore 5, 2) := by decide +kernel
theorem dX8_days_85 : decode cX8_days 85 = .ok (.iload 5, 2) := by decide +kernel
theorem dX8_days_87 : decode cX8_days 87 = .ok (.i2l, 1) := by decide +kernel
theorem dX8_days_88 : decode cX8_days 88 = .ok (.aload_n 0, 1) := by decide +kernel
theorem dX8_days_89 : decode cX8_days 89 = .ok (.iload 4, 2) := by decide +kernel
theorem dX8_days_91 : decode cX8_days 91 = .ok (.iconst 4, 1) := by decide +kernel
theorem dX8_days_92 : decode cX8_days 92 = .ok (.invokevirtual 136, 3) := by decide +kernel
theorem dX8_days_95 : decode cX8_days 95 = .ok (.lcmp, 1) := by decide +kernel
theorem dX8_days_96 : decode cX8_days 96 = .ok (.ifCond .ge 43, 3) := by decide +kernel
theorem dX8_days_99 : decode cX8_days 99 = .ok (.aload_n 0, 1) := by decide +kernel
theorem dX8_days_100 : decode cX8_days 100 = .ok (.iload 4, 2) := by decide +kernel
theorem dX8_days_102 : decode cX8_days 102 = .ok (.iload 5, 2) := by decide +kernel
theorem dX8_days_104 : decode cX8_days 104 = .ok (.iconst 1, 1) := by decide +kernel
theorem dX8_days_105 : decode cX8_days 105 = .ok (.iadd, 1) := by decide +kernel
theorem dX8_days_106 : decode cX8_days 106 = .ok (.invokevirtual 143, 3) := by decide +kernel
theorem dX8_days_109 : decode cX8_days 109 = .ok (.i2l, 1) := by decide +kernel
theorem dX8_days_110 : decode cX8_days 110 = .ok (.aload_n 0, 1) := by decide +kernel
theorem dX8_days_111 : decode cX8_days 111 = .ok (.getfield 9, 3) := by decide +kernel
theorem dX8_days_114 : decode cX8_days 114 = .ok (.sipush 2521, 3) := by decide +kernel
theorem dX8_days_117 : decode cX8_days 117 = .ok (.laload, 1) := by decide +kernel
theorem dX8_days_118 : decode cX8_days 118 = .ok (.lcmp, 1) := by decide +kernel
theorem dX8_days_119 : decode cX8_days 119 = .ok (.ifCond .ne 20, 3) := by decide +kernel
theorem dX8_days_122 : decode cX8_days 122 = .ok (.iload_n 2, 1) := by decide +kernel
theorem dX8_days_123 : decode cX8_days 123 = .ok (.aload_n 0, 1) := by decide +kernel
theorem dX8_days_124 : decode cX8_days 124 = .ok (.iload 4, 2) := by decide +kernel
theorem dX8_days_126 : decode cX8_days 126 = .ok (.invokevirtual 181, 3) := by decide +kernel
theorem dX8_days_129 : decode cX8_days 129 = .ok (.ifCond .eq 7, 3) := by decide +kernel
theorem dX8_days_132 : decode cX8_days 132 = .ok (.iconst 1, 1) := by decide +kernel
theorem dX8_days_133 : decode cX8_days 133 = .ok (.goto 4, 3) := by decide +kernel
theorem dX8_days_136 : decode cX8_days 136 = .ok (.iconst 0, 1) := by decide +kernel
theorem dX8_days_137 : decode cX8_days 137 = .ok (.iadd, 1) := by decide +kernel
theorem dX8_days_138 : decode cX8_days 138 = .ok (.istore_n 2, 1) := by decide +kernel
theorem dX8_days_139 : decode cX8_days 139 = .ok (.iinc 4 1, 3) := by decide +kernel
theorem dX8_days_142 : decode cX8_days 142 = .ok (.goto (-83), 3) := by decide +kernel
theorem dX8_days_145 : decode cX8_days 145 = .ok (.iconst 0, 1) := by decide +kernel
theorem dX8_days_146 : decode cX8_days 146 = .ok (.istore 4, 2) := by decide +kernel
theorem dX8_days_148 : decode cX8_days 148 = .ok (.iload 4, 2) := by decide +kernel
theorem dX8_days_150 : decode cX8_days 150 = .ok (.i2l, 1) := by decide +kernel
theorem dX8_days_151 : decode cX8_days 151 = .ok (.aload_n 0, 1) := by decide +kernel
theorem dX8_days_152 : decode cX8_days 152 = .ok (.getfield 9, 3) := by decide +kernel
theorem dX8_days_155 : decode cX8_days 155 = .ok (.sipush 2520, 3) := by decide +kernel
theorem dX8_days_158 : decode cX8_days 158 = .ok (.laload, 1) := by decide +kernel
theorem dX8_days_159 : decode cX8_days 159 = .ok (.lcmp, 1) := by decide +kernel
theorem dX8_days_160 : decode cX8_days 160 = .ok (.ifCond .ge 15, 3) := by decide +kernel
