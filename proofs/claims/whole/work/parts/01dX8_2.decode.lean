theorem dX8_sooner_19 : decode cX8_sooner 19 = .ok (.getfield 9, 3) := by decide +kernel
theorem dX8_sooner_22 : decode cX8_sooner 22 = .ok (.aload_n 0, 1) := by decide +kernel
theorem dX8_sooner_23 : decode cX8_sooner 23 = .ok (.getfield 13, 3) := by decide +kernel
theorem dX8_sooner_26 : decode cX8_sooner 26 = .ok (.invokestatic 267, 3) := by decide +kernel
theorem dX8_sooner_29 : decode cX8_sooner 29 = .ok (.aload_n 0, 1) := by decide +kernel
theorem dX8_sooner_30 : decode cX8_sooner 30 = .ok (.iload_n 1, 1) := by decide +kernel
theorem dX8_sooner_31 : decode cX8_sooner 31 = .ok (.lload_n 2, 1) := by decide +kernel
theorem dX8_sooner_32 : decode cX8_sooner 32 = .ok (.invokevirtual 205, 3) := by decide +kernel
theorem dX8_sooner_35 : decode cX8_sooner 35 = .ok (.aload_n 0, 1) := by decide +kernel
theorem dX8_sooner_36 : decode cX8_sooner 36 = .ok (.iload_n 1, 1) := by decide +kernel
theorem dX8_sooner_37 : decode cX8_sooner 37 = .ok (.invokevirtual 271, 3) := by decide +kernel
theorem dX8_sooner_40 : decode cX8_sooner 40 = .ok (.istore 5, 2) := by decide +kernel
theorem dX8_sooner_42 : decode cX8_sooner 42 = .ok (.aload_n 0, 1) := by decide +kernel
theorem dX8_sooner_43 : decode cX8_sooner 43 = .ok (.getfield 13, 3) := by decide +kernel
theorem dX8_sooner_46 : decode cX8_sooner 46 = .ok (.aload_n 0, 1) := by decide +kernel
theorem dX8_sooner_47 : decode cX8_sooner 47 = .ok (.getfield 9, 3) := by decide +kernel
theorem dX8_sooner_50 : decode cX8_sooner 50 = .ok (.invokestatic 267, 3) := by decide +kernel
theorem dX8_sooner_53 : decode cX8_sooner 53 = .ok (.iload 4, 2) := by decide +kernel
theorem dX8_sooner_55 : decode cX8_sooner 55 = .ok (.iload 5, 2) := by decide +kernel
theorem dX8_sooner_57 : decode cX8_sooner 57 = .ok (.if_icmp .le 11, 3) := by decide +kernel
theorem dX8_sooner_60 : decode cX8_sooner 60 = .ok (.iload 4, 2) := by decide +kernel
theorem dX8_sooner_62 : decode cX8_sooner 62 = .ok (.iload 5, 2) := by decide +kernel
theorem dX8_sooner_64 : decode cX8_sooner 64 = .ok (.isub, 1) := by decide +kernel
theorem dX8_sooner_65 : decode cX8_sooner 65 = .ok (.goto 4, 3) := by decide +kernel
theorem dX8_sooner_68 : decode cX8_sooner 68 = .ok (.iconst 0, 1) := by decide +kernel
theorem dX8_sooner_69 : decode cX8_sooner 69 = .ok (.ireturn, 1) := by decide +kernel
theorem dX8_isHolder_0 : decode cX8_isHolder 0 = .ok (.iload_n 1, 1) := by decide +kernel
theorem dX8_isHolder_1 : decode cX8_isHolder 1 = .ok (.i2l, 1) := by decide +kernel
theorem dX8_isHolder_2 : decode cX8_isHolder 2 = .ok (.lconst 0, 1) := by decide +kernel
theorem dX8_isHolder_3 : decode cX8_isHolder 3 = .ok (.ldc2_w 265, 3) := by decide +kernel
theorem dX8_isHolder_6 : decode cX8_isHolder 6 = .ok (.invokestatic 85, 3) := by decide +kernel
theorem dX8_isHolder_9 : decode cX8_isHolder 9 = .ok (.ireturn, 1) := by decide +kernel
theorem dX8_judge_0 : decode cX8_judge 0 = .ok (.aload_n 0, 1) := by decide +kernel
theorem dX8_judge_1 : decode cX8_judge 1 = .ok (.iload_n 1, 1) := by decide +kernel
theorem dX8_judge_2 : decode cX8_judge 2 = .ok (.invokevirtual 274, 3) := by decide +kernel
theorem dX8_judge_5 : decode cX8_judge 5 = .ok (.ifCond .eq 11, 3) := by decide +kernel
theorem dX8_judge_8 : decode cX8_judge 8 = .ok (.aload_n 0, 1) := by decide +kernel
theorem dX8_judge_9 : decode cX8_judge 9 = .ok (.iload_n 2, 1) := by decide +kernel
theorem dX8_judge_10 : decode cX8_judge 10 = .ok (.invokevirtual 197, 3) := by decide +kernel
theorem dX8_judge_13 : decode cX8_judge 13 = .ok (.ifCond .ne 5, 3) := by decide +kernel
theorem dX8_judge_16 : decode cX8_judge 16 = .ok (.iconst (-1), 1) := by decide +kernel
theorem dX8_judge_17 : decode cX8_judge 17 = .ok (.ireturn, 1) := by decide +kernel
theorem dX8_judge_18 : decode cX8_judge 18 = .ok (.aload_n 0, 1) := by decide +kernel
theorem dX8_judge_19 : decode cX8_judge 19 = .ok (.getfield 41, 3) := by decide +kernel
theorem dX8_judge_22 : decode cX8_judge 22 = .ok (.iload_n 1, 1) := by decide +kernel
theorem dX8_judge_23 : decode cX8_judge 23 = .ok (.iaload, 1) := by decide +kernel
theorem dX8_judge_24 : decode cX8_judge 24 = .ok (.iconst 3, 1) := by decide +kernel
theorem dX8_judge_25 : decode cX8_judge 25 = .ok (.if_icmp .eq 20, 3) := by decide +kernel
theorem dX8_judge_28 : decode cX8_judge 28 = .ok (.aload_n 0, 1) := by decide +kernel
theorem dX8_judge_29 : decode cX8_judge 29 = .ok (.getfield 41, 3) := by decide +kernel
theorem dX8_judge_32 : decode cX8_judge 32 = .ok (.iload_n 1, 1) := by decide +kernel
theorem dX8_judge_33 : decode cX8_judge 33 = .ok (.iaload, 1) := by decide +kernel
theorem dX8_judge_34 : decode cX8_judge 34 = .ok (.ifCond .ne 8, 3) := by decide +kernel
theorem dX8_judge_37 : decode cX8_judge 37 = .ok (.bipush (-11), 2) := by decide +kernel
theorem dX8_judge_39 : decode cX8_judge 39 = .ok (.goto 5, 3) := by decide +kernel
theorem dX8_judge_42 : decode cX8_judge 42 = .ok (.bipush (-12), 2) := by decide +kernel
theorem dX8_judge_44 : decode cX8_judge 44 = .ok (.ireturn, 1) := by decide +kernel
theorem dX8_judge_45 : decode cX8_judge 45 = .ok (.aload_n 0, 1) := by decide +kernel
theorem dX8_judge_46 : decode cX8_judge 46 = .ok (.iload_n 2, 1) := by decide +kernel
theorem dX8_judge_47 : decode cX8_judge 47 = .ok (.invokevirtual 219, 3) := by decide +kernel
theorem dX8_judge_50 : decode cX8_judge 50 = .ok (.iconst 0, 1) := by decide +kernel
theorem dX8_judge_51 : decode cX8_judge 51 = .ok (.istore_n 3, 1) := by decide +kernel
theorem dX8_judge_52 : decode cX8_judge 52 = .ok (.iload_n 3, 1) := by decide +kernel
theorem dX8_judge_53 : decode cX8_judge 53 = .ok (.aload_n 0, 1) := by decide +kernel
theorem dX8_judge_54 : decode cX8_judge 54 = .ok (.getfield 53, 3) := by decide +kernel
theorem dX8_judge_57 : decode cX8_judge 57 = .ok (.iload_n 1, 1) := by decide +kernel
theorem dX8_judge_58 : decode cX8_judge 58 = .ok (.iaload, 1) := by decide +kernel
theorem dX8_judge_59 : decode cX8_judge 59 = .ok (.if_icmp .ge 42, 3) := by decide +kernel
theorem dX8_judge_62 : decode cX8_judge 62 = .ok (.aload_n 0, 1) := by decide +kernel
theorem dX8_judge_63 : decode cX8_judge 63 = .ok (.iload_n 3, 1) := by decide +kernel
theorem dX8_judge_64 : decode cX8_judge 64 = .ok (.invokevirtual 231, 3) := by decide +kernel
theorem dX8_judge_67 : decode cX8_judge 67 = .ok (.istore 4, 2) := by decide +kernel
theorem dX8_judge_69 : decode cX8_judge 69 = .ok (.iload 4, 2) := by decide +kernel
theorem dX8_judge_71 : decode cX8_judge 71 = .ok (.ifCond .lt 22, 3) := by decide +kernel
theorem dX8_judge_74 : decode cX8_judge 74 = .ok (.aload_n 0, 1) := by decide +kernel
theorem dX8_judge_75 : decode cX8_judge 75 = .ok (.getfield 29, 3) := by decide +kernel
theorem dX8_judge_78 : decode cX8_judge 78 = .ok (.iload 4, 2) := by decide +kernel
theorem dX8_judge_80 : decode cX8_judge 80 = .ok (.laload, 1) := by decide +kernel
theorem dX8_judge_81 : decode cX8_judge 81 = .ok (.aload_n 0, 1) := by decide +kernel
theorem dX8_judge_82 : decode cX8_judge 82 = .ok (.getfield 58, 3) := by decide +kernel
theorem dX8_judge_85 : decode cX8_judge 85 = .ok (.iload_n 1, 1) := by decide +kernel
theorem dX8_judge_86 : decode cX8_judge 86 = .ok (.aaload, 1) := by decide +kernel
theorem dX8_judge_87 : decode cX8_judge 87 = .ok (.iload_n 3, 1) := by decide +kernel
theorem dX8_judge_88 : decode cX8_judge 88 = .ok (.laload, 1) := by decide +kernel
theorem dX8_judge_89 : decode cX8_judge 89 = .ok (.lcmp, 1) := by decide +kernel
theorem dX8_judge_90 : decode cX8_judge 90 = .ok (.ifCond .eq 5, 3) := by decide +kernel
theorem dX8_judge_93 : decode cX8_judge 93 = .ok (.iload_n 3, 1) := by decide +kernel
theorem dX8_judge_94 : decode cX8_judge 94 = .ok (.ireturn, 1) := by decide +kernel
theorem dX8_judge_95 : decode cX8_judge 95 = .ok (.iinc 3 1, 3) := by decide +kernel
theorem dX8_judge_98 : decode cX8_judge 98 = .ok (.goto (-46), 3) := by decide +kernel
theorem dX8_judge_101 : decode cX8_judge 101 = .ok (.aload_n 0, 1) := by decide +kernel
theorem dX8_judge_102 : decode cX8_judge 102 = .ok (.aload_n 0, 1) := by decide +kernel
theorem dX8_judge_103 : decode cX8_judge 103 = .ok (.getfield 53, 3) := by decide +kernel
theorem dX8_judge_106 : decode cX8_judge 106 = .ok (.iload_n 1, 1) := by decide +kernel
theorem dX8_judge_107 : decode cX8_judge 107 = .ok (.iaload, 1) := by decide +kernel
theorem dX8_judge_108 : decode cX8_judge 108 = .ok (.invokevirtual 231, 3) := by decide +kernel
theorem dX8_judge_111 : decode cX8_judge 111 = .ok (.ifCond .lt 12, 3) := by decide +kernel
theorem dX8_judge_114 : decode cX8_judge 114 = .ok (.aload_n 0, 1) := by decide +kernel
theorem dX8_judge_115 : decode cX8_judge 115 = .ok (.getfield 53, 3) := by decide +kernel
theorem dX8_judge_118 : decode cX8_judge 118 = .ok (.iload_n 1, 1) := by decide +kernel
theorem dX8_judge_119 : decode cX8_judge 119 = .ok (.iaload, 1) := by decide +kernel
theorem dX8_judge_120 : decode cX8_judge 120 = .ok (.goto 5, 3) := by decide +kernel
theorem dX8_judge_123 : decode cX8_judge 123 = .ok (.bipush (-2), 2) := by decide +kernel
theorem dX8_judge_125 : decode cX8_judge 125 = .ok (.ireturn, 1) := by decide +kernel
theorem dX8_feed_0 : decode cX8_feed 0 = .ok (.iload_n 1, 1) := by decide +kernel
theorem dX8_feed_1 : decode cX8_feed 1 = .ok (.i2l, 1) := by decide +kernel
theorem dX8_feed_2 : decode cX8_feed 2 = .ok (.lconst 0, 1) := by decide +kernel
theorem dX8_feed_3 : decode cX8_feed 3 = .ok (.ldc2_w 277, 3) := by decide +kernel
theorem dX8_feed_6 : decode cX8_feed 6 = .ok (.invokestatic 85, 3) := by decide +kernel
theorem dX8_feed_9 : decode cX8_feed 9 = .ok (.ifCond .ne 5, 3) := by decide +kernel
theorem dX8_feed_12 : decode cX8_feed 12 = .ok (.iconst (-1), 1) := by decide +kernel
theorem dX8_feed_13 : decode cX8_feed 13 = .ok (.ireturn, 1) := by decide +kernel
theorem dX8_feed_14 : decode cX8_feed 14 = .ok (.aload_n 0, 1) := by decide +kernel
theorem dX8_feed_15 : decode cX8_feed 15 = .ok (.getfield 279, 3) := by decide +kernel
theorem dX8_feed_18 : decode cX8_feed 18 = .ok (.bipush 120, 2) := by decide +kernel
theorem dX8_feed_20 : decode cX8_feed 20 = .ok (.if_icmp .ne 6, 3) := by decide +kernel
theorem dX8_feed_23 : decode cX8_feed 23 = .ok (.bipush (-3), 2) := by decide +kernel
theorem dX8_feed_25 : decode cX8_feed 25 = .ok (.ireturn, 1) := by decide +kernel
theorem dX8_feed_26 : decode cX8_feed 26 = .ok (.aload_n 0, 1) := by decide +kernel
theorem dX8_feed_27 : decode cX8_feed 27 = .ok (.getfield 38, 3) := by decide +kernel
theorem dX8_feed_30 : decode cX8_feed 30 = .ok (.aload_n 0, 1) := by decide +kernel
theorem dX8_feed_31 : decode cX8_feed 31 = .ok (.dup, 1) := by decide +kernel
theorem dX8_feed_32 : decode cX8_feed 32 = .ok (.getfield 279, 3) := by decide +kernel
theorem dX8_feed_35 : decode cX8_feed 35 = .ok (.dup_x1, 1) := by decide +kernel
theorem dX8_feed_36 : decode cX8_feed 36 = .ok (.iconst 1, 1) := by decide +kernel
theorem dX8_feed_37 : decode cX8_feed 37 = .ok (.iadd, 1) := by decide +kernel
theorem dX8_feed_38 : decode cX8_feed 38 = .ok (.putfield 279, 3) := by decide +kernel
theorem dX8_feed_41 : decode cX8_feed 41 = .ok (.iload_n 1, 1) := by decide +kernel
theorem dX8_feed_42 : decode cX8_feed 42 = .ok (.iastore, 1) := by decide +kernel
theorem dX8_feed_43 : decode cX8_feed 43 = .ok (.aload_n 0, 1) := by decide +kernel
theorem dX8_feed_44 : decode cX8_feed 44 = .ok (.getfield 279, 3) := by decide +kernel
theorem dX8_feed_47 : decode cX8_feed 47 = .ok (.ireturn, 1) := by decide +kernel
theorem dX8_sees_0 : decode cX8_sees 0 = .ok (.aload_n 0, 1) := by decide +kernel
theorem dX8_sees_1 : decode cX8_sees 1 = .ok (.getfield 282, 3) := by decide +kernel
theorem dX8_sees_4 : decode cX8_sees 4 = .ok (.ifCond .ge 38, 3) := by decide +kernel
theorem dX8_sees_7 : decode cX8_sees 7 = .ok (.aload_n 0, 1) := by decide +kernel
theorem dX8_sees_8 : decode cX8_sees 8 = .ok (.getfield 285, 3) := by decide +kernel
theorem dX8_sees_11 : decode cX8_sees 11 = .ok (.aload_n 0, 1) := by decide +kernel
theorem dX8_sees_12 : decode cX8_sees 12 = .ok (.getfield 279, 3) := by decide +kernel
theorem dX8_sees_15 : decode cX8_sees 15 = .ok (.if_icmp .ge 27, 3) := by decide +kernel
theorem dX8_sees_18 : decode cX8_sees 18 = .ok (.aload_n 0, 1) := by decide +kernel
theorem dX8_sees_19 : decode cX8_sees 19 = .ok (.getfield 38, 3) := by decide +kernel
theorem dX8_sees_22 : decode cX8_sees 22 = .ok (.aload_n 0, 1) := by decide +kernel
theorem dX8_sees_23 : decode cX8_sees 23 = .ok (.getfield 285, 3) := by decide +kernel
theorem dX8_sees_26 : decode cX8_sees 26 = .ok (.iaload, 1) := by decide +kernel
theorem dX8_sees_27 : decode cX8_sees 27 = .ok (.i2l, 1) := by decide +kernel
theorem dX8_sees_28 : decode cX8_sees 28 = .ok (.iload_n 1, 1) := by decide +kernel
theorem dX8_sees_29 : decode cX8_sees 29 = .ok (.i2l, 1) := by decide +kernel
theorem dX8_sees_30 : decode cX8_sees 30 = .ok (.iload_n 2, 1) := by decide +kernel
theorem dX8_sees_31 : decode cX8_sees 31 = .ok (.i2l, 1) := by decide +kernel
theorem dX8_sees_32 : decode cX8_sees 32 = .ok (.invokestatic 85, 3) := by decide +kernel
theorem dX8_sees_35 : decode cX8_sees 35 = .ok (.ifCond .eq 7, 3) := by decide +kernel
theorem dX8_sees_38 : decode cX8_sees 38 = .ok (.iconst 1, 1) := by decide +kernel
theorem dX8_sees_39 : decode cX8_sees 39 = .ok (.goto 4, 3) := by decide +kernel
theorem dX8_sees_42 : decode cX8_sees 42 = .ok (.iconst 0, 1) := by decide +kernel
theorem dX8_sees_43 : decode cX8_sees 43 = .ok (.ireturn, 1) := by decide +kernel
theorem dX8_must_0 : decode cX8_must 0 = .ok (.aload_n 0, 1) := by decide +kernel
theorem dX8_must_1 : decode cX8_must 1 = .ok (.iload_n 1, 1) := by decide +kernel
theorem dX8_must_2 : decode cX8_must 2 = .ok (.iload_n 2, 1) := by decide +kernel
theorem dX8_must_3 : decode cX8_must 3 = .ok (.invokevirtual 288, 3) := by decide +kernel
theorem dX8_must_6 : decode cX8_must 6 = .ok (.ifCond .ne 27, 3) := by decide +kernel
theorem dX8_must_9 : decode cX8_must 9 = .ok (.aload_n 0, 1) := by decide +kernel
theorem dX8_must_10 : decode cX8_must 10 = .ok (.aload_n 0, 1) := by decide +kernel
theorem dX8_must_11 : decode cX8_must 11 = .ok (.getfield 282, 3) := by decide +kernel
theorem dX8_must_14 : decode cX8_must 14 = .ok (.ifCond .ge 10, 3) := by decide +kernel
theorem dX8_must_17 : decode cX8_must 17 = .ok (.aload_n 0, 1) := by decide +kernel
theorem dX8_must_18 : decode cX8_must 18 = .ok (.getfield 285, 3) := by decide +kernel
theorem dX8_must_21 : decode cX8_must 21 = .ok (.goto 7, 3) := by decide +kernel
theorem dX8_must_24 : decode cX8_must 24 = .ok (.aload_n 0, 1) := by decide +kernel
theorem dX8_must_25 : decode cX8_must 25 = .ok (.getfield 282, 3) := by decide +kernel
theorem dX8_must_28 : decode cX8_must 28 = .ok (.putfield 282, 3) := by decide +kernel
theorem dX8_must_31 : decode cX8_must 31 = .ok (.iload_n 1, 1) := by decide +kernel
theorem dX8_must_32 : decode cX8_must 32 = .ok (.ireturn, 1) := by decide +kernel
theorem dX8_must_33 : decode cX8_must 33 = .ok (.aload_n 0, 1) := by decide +kernel
theorem dX8_must_34 : decode cX8_must 34 = .ok (.getfield 38, 3) := by decide +kernel
theorem dX8_must_37 : decode cX8_must 37 = .ok (.aload_n 0, 1) := by decide +kernel
theorem dX8_must_38 : decode cX8_must 38 = .ok (.dup, 1) := by decide +kernel
theorem dX8_must_39 : decode cX8_must 39 = .ok (.getfield 285, 3) := by decide +kernel
theorem dX8_must_42 : decode cX8_must 42 = .ok (.dup_x1, 1) := by decide +kernel
theorem dX8_must_43 : decode cX8_must 43 = .ok (.iconst 1, 1) := by decide +kernel
theorem dX8_must_44 : decode cX8_must 44 = .ok (.iadd, 1) := by decide +kernel
theorem dX8_must_45 : decode cX8_must 45 = .ok (.putfield 285, 3) := by decide +kernel
theorem dX8_must_48 : decode cX8_must 48 = .ok (.iaload, 1) := by decide +kernel
theorem dX8_must_49 : decode cX8_must 49 = .ok (.ireturn, 1) := by decide +kernel
theorem dX8_number_0 : decode cX8_number 0 = .ok (.aload_n 0, 1) := by decide +kernel
theorem dX8_number_1 : decode cX8_number 1 = .ok (.bipush 32, 2) := by decide +kernel
theorem dX8_number_3 : decode cX8_number 3 = .ok (.bipush 32, 2) := by decide +kernel
theorem dX8_number_5 : decode cX8_number 5 = .ok (.invokevirtual 292, 3) := by decide +kernel
theorem dX8_number_8 : decode cX8_number 8 = .ok (.pop, 1) := by decide +kernel
theorem dX8_number_9 : decode cX8_number 9 = .ok (.aload_n 0, 1) := by decide +kernel
theorem dX8_number_10 : decode cX8_number 10 = .ok (.bipush 48, 2) := by decide +kernel
theorem dX8_number_12 : decode cX8_number 12 = .ok (.bipush 57, 2) := by decide +kernel
theorem dX8_number_14 : decode cX8_number 14 = .ok (.invokevirtual 292, 3) := by decide +kernel
theorem dX8_number_17 : decode cX8_number 17 = .ok (.bipush 48, 2) := by decide +kernel
theorem dX8_number_19 : decode cX8_number 19 = .ok (.isub, 1) := by decide +kernel
theorem dX8_number_20 : decode cX8_number 20 = .ok (.istore_n 1, 1) := by decide +kernel
theorem dX8_number_21 : decode cX8_number 21 = .ok (.iconst 0, 1) := by decide +kernel
theorem dX8_number_22 : decode cX8_number 22 = .ok (.istore_n 2, 1) := by decide +kernel
theorem dX8_number_23 : decode cX8_number 23 = .ok (.iload_n 2, 1) := by decide +kernel
theorem dX8_number_24 : decode cX8_number 24 = .ok (.bipush 8, 2) := by decide +kernel
theorem dX8_number_26 : decode cX8_number 26 = .ok (.if_icmp .ge 45, 3) := by decide +kernel
theorem dX8_number_29 : decode cX8_number 29 = .ok (.aload_n 0, 1) := by decide +kernel
theorem dX8_number_30 : decode cX8_number 30 = .ok (.bipush 48, 2) := by decide +kernel
theorem dX8_number_32 : decode cX8_number 32 = .ok (.bipush 57, 2) := by decide +kernel
theorem dX8_number_34 : decode cX8_number 34 = .ok (.invokevirtual 288, 3) := by decide +kernel
theorem dX8_number_37 : decode cX8_number 37 = .ok (.ifCond .eq 34, 3) := by decide +kernel
theorem dX8_number_40 : decode cX8_number 40 = .ok (.bipush 10, 2) := by decide +kernel
theorem dX8_number_42 : decode cX8_number 42 = .ok (.iload_n 1, 1) := by decide +kernel
theorem dX8_number_43 : decode cX8_number 43 = .ok (.imul, 1) := by decide +kernel
theorem dX8_number_44 : decode cX8_number 44 = .ok (.aload_n 0, 1) := by decide +kernel
theorem dX8_number_45 : decode cX8_number 45 = .ok (.getfield 38, 3) := by decide +kernel
theorem dX8_number_48 : decode cX8_number 48 = .ok (.aload_n 0, 1) := by decide +kernel
theorem dX8_number_49 : decode cX8_number 49 = .ok (.dup, 1) := by decide +kernel
theorem dX8_number_50 : decode cX8_number 50 = .ok (.getfield 285, 3) := by decide +kernel
theorem dX8_number_53 : decode cX8_number 53 = .ok (.dup_x1, 1) := by decide +kernel
theorem dX8_number_54 : decode cX8_number 54 = .ok (.iconst 1, 1) := by decide +kernel
theorem dX8_number_55 : decode cX8_number 55 = .ok (.iadd, 1) := by decide +kernel
theorem dX8_number_56 : decode cX8_number 56 = .ok (.putfield 285, 3) := by decide +kernel
theorem dX8_number_59 : decode cX8_number 59 = .ok (.iaload, 1) := by decide +kernel
theorem dX8_number_60 : decode cX8_number 60 = .ok (.iadd, 1) := by decide +kernel
theorem dX8_number_61 : decode cX8_number 61 = .ok (.bipush 48, 2) := by decide +kernel
theorem dX8_number_63 : decode cX8_number 63 = .ok (.isub, 1) := by decide +kernel
theorem dX8_number_64 : decode cX8_number 64 = .ok (.istore_n 1, 1) := by decide +kernel
theorem dX8_number_65 : decode cX8_number 65 = .ok (.iinc 2 1, 3) := by decide +kernel
theorem dX8_number_68 : decode cX8_number 68 = .ok (.goto (-45), 3) := by decide +kernel
theorem dX8_number_71 : decode cX8_number 71 = .ok (.iload_n 1, 1) := by decide +kernel
theorem dX8_number_72 : decode cX8_number 72 = .ok (.ireturn, 1) := by decide +kernel
theorem dX8_partsOf_0 : decode cX8_partsOf 0 = .ok (.iload_n 0, 1) := by decide +kernel
theorem dX8_partsOf_1 : decode cX8_partsOf 1 = .ok (.tableswitch 102 100 119 #[100, 102, 100, 100, 102, 102, 102, 102, 95, 102, 102, 102, 98, 102, 98, 102, 102, 102, 102, 100], 95) := by decide +kernel
theorem dX8_partsOf_96 : decode cX8_partsOf 96 = .ok (.bipush 6, 2) := by decide +kernel
theorem dX8_partsOf_98 : decode cX8_partsOf 98 = .ok (.ireturn, 1) := by decide +kernel
theorem dX8_partsOf_99 : decode cX8_partsOf 99 = .ok (.iconst 2, 1) := by decide +kernel
theorem dX8_partsOf_100 : decode cX8_partsOf 100 = .ok (.ireturn, 1) := by decide +kernel
theorem dX8_partsOf_101 : decode cX8_partsOf 101 = .ok (.iconst 1, 1) := by decide +kernel
theorem dX8_partsOf_102 : decode cX8_partsOf 102 = .ok (.ireturn, 1) := by decide +kernel
theorem dX8_partsOf_103 : decode cX8_partsOf 103 = .ok (.bipush (-2), 2) := by decide +kernel
theorem dX8_partsOf_105 : decode cX8_partsOf 105 = .ok (.ireturn, 1) := by decide +kernel
theorem dX8_line_0 : decode cX8_line 0 = .ok (.aload_n 0, 1) := by decide +kernel
theorem dX8_line_1 : decode cX8_line 1 = .ok (.getfield 282, 3) := by decide +kernel
theorem dX8_line_4 : decode cX8_line 4 = .ok (.ifCond .ge 26, 3) := by decide +kernel
theorem dX8_line_7 : decode cX8_line 7 = .ok (.aload_n 0, 1) := by decide +kernel
theorem dX8_line_8 : decode cX8_line 8 = .ok (.getfield 285, 3) := by decide +kernel
theorem dX8_line_11 : decode cX8_line 11 = .ok (.aload_n 0, 1) := by decide +kernel
theorem dX8_line_12 : decode cX8_line 12 = .ok (.getfield 279, 3) := by decide +kernel
theorem dX8_line_15 : decode cX8_line 15 = .ok (.if_icmp .ge 15, 3) := by decide +kernel
theorem dX8_line_18 : decode cX8_line 18 = .ok (.aload_n 0, 1) := by decide +kernel
theorem dX8_line_19 : decode cX8_line 19 = .ok (.getfield 38, 3) := by decide +kernel
theorem dX8_line_22 : decode cX8_line 22 = .ok (.aload_n 0, 1) := by decide +kernel
theorem dX8_line_23 : decode cX8_line 23 = .ok (.getfield 285, 3) := by decide +kernel
theorem dX8_line_26 : decode cX8_line 26 = .ok (.iaload, 1) := by decide +kernel
theorem dX8_line_27 : decode cX8_line 27 = .ok (.goto 4, 3) := by decide +kernel
theorem dX8_line_30 : decode cX8_line 30 = .ok (.iconst 0, 1) := by decide +kernel
theorem dX8_line_31 : decode cX8_line 31 = .ok (.istore_n 1, 1) := by decide +kernel
theorem dX8_line_32 : decode cX8_line 32 = .ok (.iload_n 1, 1) := by decide +kernel
theorem dX8_line_33 : decode cX8_line 33 = .ok (.invokestatic 295, 3) := by decide +kernel
theorem dX8_line_36 : decode cX8_line 36 = .ok (.istore_n 2, 1) := by decide +kernel
theorem dX8_line_37 : decode cX8_line 37 = .ok (.iload_n 2, 1) := by decide +kernel
theorem dX8_line_38 : decode cX8_line 38 = .ok (.ifCond .ge 27, 3) := by decide +kernel
theorem dX8_line_41 : decode cX8_line 41 = .ok (.aload_n 0, 1) := by decide +kernel
theorem dX8_line_42 : decode cX8_line 42 = .ok (.aload_n 0, 1) := by decide +kernel
theorem dX8_line_43 : decode cX8_line 43 = .ok (.getfield 282, 3) := by decide +kernel
theorem dX8_line_46 : decode cX8_line 46 = .ok (.ifCond .ge 10, 3) := by decide +kernel
theorem dX8_line_49 : decode cX8_line 49 = .ok (.aload_n 0, 1) := by decide +kernel
theorem dX8_line_50 : decode cX8_line 50 = .ok (.getfield 285, 3) := by decide +kernel
theorem dX8_line_53 : decode cX8_line 53 = .ok (.goto 7, 3) := by decide +kernel
theorem dX8_line_56 : decode cX8_line 56 = .ok (.aload_n 0, 1) := by decide +kernel
theorem dX8_line_57 : decode cX8_line 57 = .ok (.getfield 282, 3) := by decide +kernel
theorem dX8_line_60 : decode cX8_line 60 = .ok (.putfield 282, 3) := by decide +kernel
theorem dX8_line_63 : decode cX8_line 63 = .ok (.iconst 0, 1) := by decide +kernel
theorem dX8_line_64 : decode cX8_line 64 = .ok (.ireturn, 1) := by decide +kernel
theorem dX8_line_65 : decode cX8_line 65 = .ok (.aload_n 0, 1) := by decide +kernel
theorem dX8_line_66 : decode cX8_line 66 = .ok (.dup, 1) := by decide +kernel
theorem dX8_line_67 : decode cX8_line 67 = .ok (.getfield 285, 3) := by decide +kernel
theorem dX8_line_70 : decode cX8_line 70 = .ok (.iconst 1, 1) := by decide +kernel
theorem dX8_line_71 : decode cX8_line 71 = .ok (.iadd, 1) := by decide +kernel
theorem dX8_line_72 : decode cX8_line 72 = .ok (.putfield 285, 3) := by decide +kernel
theorem dX8_line_75 : decode cX8_line 75 = .ok (.iconst 0, 1) := by decide +kernel
theorem dX8_line_76 : decode cX8_line 76 = .ok (.istore_n 3, 1) := by decide +kernel
theorem dX8_line_77 : decode cX8_line 77 = .ok (.iload_n 3, 1) := by decide +kernel
theorem dX8_line_78 : decode cX8_line 78 = .ok (.iload_n 2, 1) := by decide +kernel
theorem dX8_line_79 : decode cX8_line 79 = .ok (.if_icmp .ge 19, 3) := by decide +kernel
theorem dX8_line_82 : decode cX8_line 82 = .ok (.aload_n 0, 1) := by decide +kernel
theorem dX8_line_83 : decode cX8_line 83 = .ok (.getfield 61, 3) := by decide +kernel
theorem dX8_line_86 : decode cX8_line 86 = .ok (.iload_n 3, 1) := by decide +kernel
theorem dX8_line_87 : decode cX8_line 87 = .ok (.aload_n 0, 1) := by decide +kernel
theorem dX8_line_88 : decode cX8_line 88 = .ok (.invokevirtual 298, 3) := by decide +kernel
theorem dX8_line_91 : decode cX8_line 91 = .ok (.iastore, 1) := by decide +kernel
theorem dX8_line_92 : decode cX8_line 92 = .ok (.iinc 3 1, 3) := by decide +kernel
theorem dX8_line_95 : decode cX8_line 95 = .ok (.goto (-18), 3) := by decide +kernel
theorem dX8_line_98 : decode cX8_line 98 = .ok (.iload_n 1, 1) := by decide +kernel
theorem dX8_line_99 : decode cX8_line 99 = .ok (.ireturn, 1) := by decide +kernel
theorem dX8_isForm_0 : decode cX8_isForm 0 = .ok (.aload_n 0, 1) := by decide +kernel
theorem dX8_isForm_1 : decode cX8_isForm 1 = .ok (.iconst 0, 1) := by decide +kernel
theorem dX8_isForm_2 : decode cX8_isForm 2 = .ok (.putfield 285, 3) := by decide +kernel
theorem dX8_isForm_5 : decode cX8_isForm 5 = .ok (.aload_n 0, 1) := by decide +kernel
theorem dX8_isForm_6 : decode cX8_isForm 6 = .ok (.iconst (-1), 1) := by decide +kernel
theorem dX8_isForm_7 : decode cX8_isForm 7 = .ok (.putfield 282, 3) := by decide +kernel
theorem dX8_isForm_10 : decode cX8_isForm 10 = .ok (.aload_n 0, 1) := by decide +kernel
theorem dX8_isForm_11 : decode cX8_isForm 11 = .ok (.invokevirtual 302, 3) := by decide +kernel
theorem dX8_isForm_14 : decode cX8_isForm 14 = .ok (.pop, 1) := by decide +kernel
theorem dX8_isForm_15 : decode cX8_isForm 15 = .ok (.aload_n 0, 1) := by decide +kernel
theorem dX8_isForm_16 : decode cX8_isForm 16 = .ok (.getfield 282, 3) := by decide +kernel
theorem dX8_isForm_19 : decode cX8_isForm 19 = .ok (.ifCond .ge 31, 3) := by decide +kernel
theorem dX8_isForm_22 : decode cX8_isForm 22 = .ok (.aload_n 0, 1) := by decide +kernel
theorem dX8_isForm_23 : decode cX8_isForm 23 = .ok (.getfield 285, 3) := by decide +kernel
theorem dX8_isForm_26 : decode cX8_isForm 26 = .ok (.aload_n 0, 1) := by decide +kernel
theorem dX8_isForm_27 : decode cX8_isForm 27 = .ok (.getfield 279, 3) := by decide +kernel
theorem dX8_isForm_30 : decode cX8_isForm 30 = .ok (.if_icmp .ge 20, 3) := by decide +kernel
theorem dX8_isForm_33 : decode cX8_isForm 33 = .ok (.aload_n 0, 1) := by decide +kernel
theorem dX8_isForm_34 : decode cX8_isForm 34 = .ok (.bipush 59, 2) := by decide +kernel
theorem dX8_isForm_36 : decode cX8_isForm 36 = .ok (.bipush 59, 2) := by decide +kernel
theorem dX8_isForm_38 : decode cX8_isForm 38 = .ok (.invokevirtual 292, 3) := by decide +kernel
theorem dX8_isForm_41 : decode cX8_isForm 41 = .ok (.pop, 1) := by decide +kernel
theorem dX8_isForm_42 : decode cX8_isForm 42 = .ok (.aload_n 0, 1) := by decide +kernel
theorem dX8_isForm_43 : decode cX8_isForm 43 = .ok (.invokevirtual 302, 3) := by decide +kernel
theorem dX8_isForm_46 : decode cX8_isForm 46 = .ok (.pop, 1) := by decide +kernel
theorem dX8_isForm_47 : decode cX8_isForm 47 = .ok (.goto (-32), 3) := by decide +kernel
theorem dX8_isForm_50 : decode cX8_isForm 50 = .ok (.aload_n 0, 1) := by decide +kernel
theorem dX8_isForm_51 : decode cX8_isForm 51 = .ok (.getfield 282, 3) := by decide +kernel
theorem dX8_isForm_54 : decode cX8_isForm 54 = .ok (.ifCond .ge 7, 3) := by decide +kernel
theorem dX8_isForm_57 : decode cX8_isForm 57 = .ok (.iconst 1, 1) := by decide +kernel
theorem dX8_isForm_58 : decode cX8_isForm 58 = .ok (.goto 4, 3) := by decide +kernel
theorem dX8_isForm_61 : decode cX8_isForm 61 = .ok (.iconst 0, 1) := by decide +kernel
theorem dX8_isForm_62 : decode cX8_isForm 62 = .ok (.ireturn, 1) := by decide +kernel
theorem dX8_does_0 : decode cX8_does 0 = .ok (.aload_n 0, 1) := by decide +kernel
theorem dX8_does_1 : decode cX8_does 1 = .ok (.getfield 61, 3) := by decide +kernel
theorem dX8_does_4 : decode cX8_does 4 = .ok (.iconst 0, 1) := by decide +kernel
theorem dX8_does_5 : decode cX8_does 5 = .ok (.iaload, 1) := by decide +kernel
theorem dX8_does_6 : decode cX8_does 6 = .ok (.istore_n 2, 1) := by decide +kernel
theorem dX8_does_7 : decode cX8_does 7 = .ok (.aload_n 0, 1) := by decide +kernel
theorem dX8_does_8 : decode cX8_does 8 = .ok (.getfield 61, 3) := by decide +kernel
theorem dX8_does_11 : decode cX8_does 11 = .ok (.iconst 1, 1) := by decide +kernel
theorem dX8_does_12 : decode cX8_does 12 = .ok (.iaload, 1) := by decide +kernel
theorem dX8_does_13 : decode cX8_does 13 = .ok (.istore_n 3, 1) := by decide +kernel
theorem dX8_does_14 : decode cX8_does 14 = .ok (.iload_n 1, 1) := by decide +kernel
theorem dX8_does_15 : decode cX8_does 15 = .ok (.tableswitch 238 100 119 #[217, 238, 238, 230, 238, 238, 238, 238, 93, 238, 238, 238, 202, 238, 210, 238, 238, 238, 238, 224], 93) := by decide +kernel
theorem dX8_does_108 : decode cX8_does 108 = .ok (.aload_n 0, 1) := by decide +kernel
theorem dX8_does_109 : decode cX8_does 109 = .ok (.getfield 61, 3) := by decide +kernel
theorem dX8_does_112 : decode cX8_does 112 = .ok (.iconst 3, 1) := by decide +kernel
theorem dX8_does_113 : decode cX8_does 113 = .ok (.iaload, 1) := by decide +kernel
theorem dX8_does_114 : decode cX8_does 114 = .ok (.i2l, 1) := by decide +kernel
theorem dX8_does_115 : decode cX8_does 115 = .ok (.lconst 0, 1) := by decide +kernel
theorem dX8_does_116 : decode cX8_does 116 = .ok (.ldc2_w 124, 3) := by decide +kernel
theorem dX8_does_119 : decode cX8_does 119 = .ok (.invokestatic 85, 3) := by decide +kernel
theorem dX8_does_122 : decode cX8_does 122 = .ok (.ifCond .eq 39, 3) := by decide +kernel
theorem dX8_does_125 : decode cX8_does 125 = .ok (.aload_n 0, 1) := by decide +kernel
theorem dX8_does_126 : decode cX8_does 126 = .ok (.getfield 61, 3) := by decide +kernel
theorem dX8_does_129 : decode cX8_does 129 = .ok (.iconst 4, 1) := by decide +kernel
theorem dX8_does_130 : decode cX8_does 130 = .ok (.iaload, 1) := by decide +kernel
theorem dX8_does_131 : decode cX8_does 131 = .ok (.i2l, 1) := by decide +kernel
theorem dX8_does_132 : decode cX8_does 132 = .ok (.lconst 1, 1) := by decide +kernel
theorem dX8_does_133 : decode cX8_does 133 = .ok (.ldc2_w 166, 3) := by decide +kernel
theorem dX8_does_136 : decode cX8_does 136 = .ok (.invokestatic 85, 3) := by decide +kernel
theorem dX8_does_139 : decode cX8_does 139 = .ok (.ifCond .eq 22, 3) := by decide +kernel
theorem dX8_does_142 : decode cX8_does 142 = .ok (.aload_n 0, 1) := by decide +kernel
theorem dX8_does_143 : decode cX8_does 143 = .ok (.getfield 61, 3) := by decide +kernel
theorem dX8_does_146 : decode cX8_does 146 = .ok (.iconst 5, 1) := by decide +kernel
theorem dX8_does_147 : decode cX8_does 147 = .ok (.iaload, 1) := by decide +kernel
theorem dX8_does_148 : decode cX8_does 148 = .ok (.i2l, 1) := by decide +kernel
theorem dX8_does_149 : decode cX8_does 149 = .ok (.lconst 0, 1) := by decide +kernel
theorem dX8_does_150 : decode cX8_does 150 = .ok (.lconst 1, 1) := by decide +kernel
theorem dX8_does_151 : decode cX8_does 151 = .ok (.invokestatic 85, 3) := by decide +kernel
theorem dX8_does_154 : decode cX8_does 154 = .ok (.ifCond .eq 7, 3) := by decide +kernel
theorem dX8_does_157 : decode cX8_does 157 = .ok (.iconst 1, 1) := by decide +kernel
theorem dX8_does_158 : decode cX8_does 158 = .ok (.goto 4, 3) := by decide +kernel
theorem dX8_does_161 : decode cX8_does 161 = .ok (.iconst 0, 1) := by decide +kernel
theorem dX8_does_162 : decode cX8_does 162 = .ok (.istore 4, 2) := by decide +kernel
theorem dX8_does_164 : decode cX8_does 164 = .ok (.iload 4, 2) := by decide +kernel
theorem dX8_does_166 : decode cX8_does 166 = .ok (.ifCond .eq 47, 3) := by decide +kernel
theorem dX8_does_169 : decode cX8_does 169 = .ok (.aload_n 0, 1) := by decide +kernel
theorem dX8_does_170 : decode cX8_does 170 = .ok (.iload_n 2, 1) := by decide +kernel
theorem dX8_does_171 : decode cX8_does 171 = .ok (.i2l, 1) := by decide +kernel
theorem dX8_does_172 : decode cX8_does 172 = .ok (.iload_n 3, 1) := by decide +kernel
theorem dX8_does_173 : decode cX8_does 173 = .ok (.aload_n 0, 1) := by decide +kernel
theorem dX8_does_174 : decode cX8_does 174 = .ok (.getfield 61, 3) := by decide +kernel
theorem dX8_does_177 : decode cX8_does 177 = .ok (.iconst 2, 1) := by decide +kernel
theorem dX8_does_178 : decode cX8_does 178 = .ok (.iaload, 1) := by decide +kernel
theorem dX8_does_179 : decode cX8_does 179 = .ok (.sipush 1000, 3) := by decide +kernel
theorem dX8_does_182 : decode cX8_does 182 = .ok (.aload_n 0, 1) := by decide +kernel
theorem dX8_does_183 : decode cX8_does 183 = .ok (.getfield 61, 3) := by decide +kernel
theorem dX8_does_186 : decode cX8_does 186 = .ok (.iconst 3, 1) := by decide +kernel
theorem dX8_does_187 : decode cX8_does 187 = .ok (.iaload, 1) := by decide +kernel
theorem dX8_does_188 : decode cX8_does 188 = .ok (.imul, 1) := by decide +kernel
theorem dX8_does_189 : decode cX8_does 189 = .ok (.bipush 100, 2) := by decide +kernel
theorem dX8_does_191 : decode cX8_does 191 = .ok (.aload_n 0, 1) := by decide +kernel
theorem dX8_does_192 : decode cX8_does 192 = .ok (.getfield 61, 3) := by decide +kernel
theorem dX8_does_195 : decode cX8_does 195 = .ok (.iconst 5, 1) := by decide +kernel
theorem dX8_does_196 : decode cX8_does 196 = .ok (.iaload, 1) := by decide +kernel
theorem dX8_does_197 : decode cX8_does 197 = .ok (.imul, 1) := by decide +kernel
theorem dX8_does_198 : decode cX8_does 198 = .ok (.iadd, 1) := by decide +kernel
theorem dX8_does_199 : decode cX8_does 199 = .ok (.aload_n 0, 1) := by decide +kernel
theorem dX8_does_200 : decode cX8_does 200 = .ok (.getfield 61, 3) := by decide +kernel
theorem dX8_does_203 : decode cX8_does 203 = .ok (.iconst 4, 1) := by decide +kernel
theorem dX8_does_204 : decode cX8_does 204 = .ok (.iaload, 1) := by decide +kernel
theorem dX8_does_205 : decode cX8_does 205 = .ok (.iadd, 1) := by decide +kernel
theorem dX8_does_206 : decode cX8_does 206 = .ok (.invokevirtual 305, 3) := by decide +kernel
theorem dX8_does_209 : decode cX8_does 209 = .ok (.i2l, 1) := by decide +kernel
theorem dX8_does_210 : decode cX8_does 210 = .ok (.goto 6, 3) := by decide +kernel
theorem dX8_does_213 : decode cX8_does 213 = .ok (.ldc2_w 134, 3) := by decide +kernel
theorem dX8_does_216 : decode cX8_does 216 = .ok (.lreturn, 1) := by decide +kernel
theorem dX8_does_217 : decode cX8_does 217 = .ok (.aload_n 0, 1) := by decide +kernel
theorem dX8_does_218 : decode cX8_does 218 = .ok (.iload_n 2, 1) := by decide +kernel
theorem dX8_does_219 : decode cX8_does 219 = .ok (.iload_n 3, 1) := by decide +kernel
theorem dX8_does_220 : decode cX8_does 220 = .ok (.i2l, 1) := by decide +kernel
theorem dX8_does_221 : decode cX8_does 221 = .ok (.invokevirtual 309, 3) := by decide +kernel
theorem dX8_does_224 : decode cX8_does 224 = .ok (.lreturn, 1) := by decide +kernel
theorem dX8_does_225 : decode cX8_does 225 = .ok (.aload_n 0, 1) := by decide +kernel
theorem dX8_does_226 : decode cX8_does 226 = .ok (.iload_n 2, 1) := by decide +kernel
theorem dX8_does_227 : decode cX8_does 227 = .ok (.iload_n 3, 1) := by decide +kernel
theorem dX8_does_228 : decode cX8_does 228 = .ok (.invokevirtual 313, 3) := by decide +kernel
theorem dX8_does_231 : decode cX8_does 231 = .ok (.lreturn, 1) := by decide +kernel
theorem dX8_does_232 : decode cX8_does 232 = .ok (.aload_n 0, 1) := by decide +kernel
theorem dX8_does_233 : decode cX8_does 233 = .ok (.iload_n 2, 1) := by decide +kernel
theorem dX8_does_234 : decode cX8_does 234 = .ok (.invokevirtual 316, 3) := by decide +kernel
theorem dX8_does_237 : decode cX8_does 237 = .ok (.i2l, 1) := by decide +kernel
theorem dX8_does_238 : decode cX8_does 238 = .ok (.lreturn, 1) := by decide +kernel
theorem dX8_does_239 : decode cX8_does 239 = .ok (.aload_n 0, 1) := by decide +kernel
theorem dX8_does_240 : decode cX8_does 240 = .ok (.iload_n 2, 1) := by decide +kernel
theorem dX8_does_241 : decode cX8_does 241 = .ok (.invokevirtual 319, 3) := by decide +kernel
theorem dX8_does_244 : decode cX8_does 244 = .ok (.lreturn, 1) := by decide +kernel
theorem dX8_does_245 : decode cX8_does 245 = .ok (.aload_n 0, 1) := by decide +kernel
theorem dX8_does_246 : decode cX8_does 246 = .ok (.iconst 0, 1) := by decide +kernel
theorem dX8_does_247 : decode cX8_does 247 = .ok (.iload_n 2, 1) := by decide +kernel
theorem dX8_does_248 : decode cX8_does 248 = .ok (.invokevirtual 322, 3) := by decide +kernel
theorem dX8_does_251 : decode cX8_does 251 = .ok (.i2l, 1) := by decide +kernel
theorem dX8_does_252 : decode cX8_does 252 = .ok (.lreturn, 1) := by decide +kernel
theorem dX8_does_253 : decode cX8_does 253 = .ok (.aload_n 0, 1) := by decide +kernel
theorem dX8_does_254 : decode cX8_does 254 = .ok (.iconst 1, 1) := by decide +kernel
theorem dX8_does_255 : decode cX8_does 255 = .ok (.iload_n 2, 1) := by decide +kernel
theorem dX8_does_256 : decode cX8_does 256 = .ok (.invokevirtual 322, 3) := by decide +kernel
theorem dX8_does_259 : decode cX8_does 259 = .ok (.i2l, 1) := by decide +kernel
theorem dX8_does_260 : decode cX8_does 260 = .ok (.lreturn, 1) := by decide +kernel
theorem dX8_script_0 : decode cX8_script 0 = .ok (.aload_n 0, 1) := by decide +kernel
theorem dX8_script_1 : decode cX8_script 1 = .ok (.invokevirtual 325, 3) := by decide +kernel
theorem dX8_script_4 : decode cX8_script 4 = .ok (.ifCond .ne 17, 3) := by decide +kernel
theorem dX8_script_7 : decode cX8_script 7 = .ok (.aload_n 0, 1) := by decide +kernel
theorem dX8_script_8 : decode cX8_script 8 = .ok (.iconst 0, 1) := by decide +kernel
theorem dX8_script_9 : decode cX8_script 9 = .ok (.putfield 279, 3) := by decide +kernel
theorem dX8_script_12 : decode cX8_script 12 = .ok (.sipush (-1000), 3) := by decide +kernel
theorem dX8_script_15 : decode cX8_script 15 = .ok (.aload_n 0, 1) := by decide +kernel
theorem dX8_script_16 : decode cX8_script 16 = .ok (.getfield 282, 3) := by decide +kernel
theorem dX8_script_19 : decode cX8_script 19 = .ok (.isub, 1) := by decide +kernel
theorem dX8_script_20 : decode cX8_script 20 = .ok (.ireturn, 1) := by decide +kernel
theorem dX8_script_21 : decode cX8_script 21 = .ok (.aload_n 0, 1) := by decide +kernel
theorem dX8_script_22 : decode cX8_script 22 = .ok (.getfield 9, 3) := by decide +kernel
theorem dX8_script_25 : decode cX8_script 25 = .ok (.aload_n 0, 1) := by decide +kernel
theorem dX8_script_26 : decode cX8_script 26 = .ok (.getfield 16, 3) := by decide +kernel
theorem dX8_script_29 : decode cX8_script 29 = .ok (.invokestatic 267, 3) := by decide +kernel
theorem dX8_script_32 : decode cX8_script 32 = .ok (.aload_n 0, 1) := by decide +kernel
theorem dX8_script_33 : decode cX8_script 33 = .ok (.iconst 0, 1) := by decide +kernel
theorem dX8_script_34 : decode cX8_script 34 = .ok (.putfield 285, 3) := by decide +kernel
theorem dX8_script_37 : decode cX8_script 37 = .ok (.iconst 0, 1) := by decide +kernel
theorem dX8_script_38 : decode cX8_script 38 = .ok (.istore_n 1, 1) := by decide +kernel
theorem dX8_script_39 : decode cX8_script 39 = .ok (.iconst 1, 1) := by decide +kernel
theorem dX8_script_40 : decode cX8_script 40 = .ok (.istore_n 2, 1) := by decide +kernel
theorem dX8_script_41 : decode cX8_script 41 = .ok (.iload_n 2, 1) := by decide +kernel
theorem dX8_script_42 : decode cX8_script 42 = .ok (.ifCond .eq 57, 3) := by decide +kernel
theorem dX8_script_45 : decode cX8_script 45 = .ok (.aload_n 0, 1) := by decide +kernel
theorem dX8_script_46 : decode cX8_script 46 = .ok (.getfield 285, 3) := by decide +kernel
theorem dX8_script_49 : decode cX8_script 49 = .ok (.aload_n 0, 1) := by decide +kernel
theorem dX8_script_50 : decode cX8_script 50 = .ok (.getfield 279, 3) := by decide +kernel
theorem dX8_script_53 : decode cX8_script 53 = .ok (.if_icmp .ge 46, 3) := by decide +kernel
theorem dX8_script_56 : decode cX8_script 56 = .ok (.aload_n 0, 1) := by decide +kernel
theorem dX8_script_57 : decode cX8_script 57 = .ok (.dup, 1) := by decide +kernel
theorem dX8_script_58 : decode cX8_script 58 = .ok (.getfield 285, 3) := by decide +kernel
theorem dX8_script_61 : decode cX8_script 61 = .ok (.iload_n 1, 1) := by decide +kernel
theorem dX8_script_62 : decode cX8_script 62 = .ok (.ifCond .le 7, 3) := by decide +kernel
theorem dX8_script_65 : decode cX8_script 65 = .ok (.iconst 1, 1) := by decide +kernel
theorem dX8_script_66 : decode cX8_script 66 = .ok (.goto 4, 3) := by decide +kernel
theorem dX8_script_69 : decode cX8_script 69 = .ok (.iconst 0, 1) := by decide +kernel
theorem dX8_script_70 : decode cX8_script 70 = .ok (.iadd, 1) := by decide +kernel
theorem dX8_script_71 : decode cX8_script 71 = .ok (.putfield 285, 3) := by decide +kernel
theorem dX8_script_74 : decode cX8_script 74 = .ok (.aload_n 0, 1) := by decide +kernel
theorem dX8_script_75 : decode cX8_script 75 = .ok (.aload_n 0, 1) := by decide +kernel
theorem dX8_script_76 : decode cX8_script 76 = .ok (.invokevirtual 302, 3) := by decide +kernel
theorem dX8_script_79 : decode cX8_script 79 = .ok (.invokevirtual 329, 3) := by decide +kernel
theorem dX8_script_82 : decode cX8_script 82 = .ok (.lconst 0, 1) := by decide +kernel
theorem dX8_script_83 : decode cX8_script 83 = .ok (.lcmp, 1) := by decide +kernel
theorem dX8_script_84 : decode cX8_script 84 = .ok (.ifCond .lt 7, 3) := by decide +kernel
theorem dX8_script_87 : decode cX8_script 87 = .ok (.iconst 1, 1) := by decide +kernel
theorem dX8_script_88 : decode cX8_script 88 = .ok (.goto 4, 3) := by decide +kernel
theorem dX8_script_91 : decode cX8_script 91 = .ok (.iconst 0, 1) := by decide +kernel
theorem dX8_script_92 : decode cX8_script 92 = .ok (.istore_n 2, 1) := by decide +kernel
theorem dX8_script_93 : decode cX8_script 93 = .ok (.iinc 1 1, 3) := by decide +kernel
theorem dX8_script_96 : decode cX8_script 96 = .ok (.goto (-55), 3) := by decide +kernel
theorem dX8_script_99 : decode cX8_script 99 = .ok (.aload_n 0, 1) := by decide +kernel
theorem dX8_script_100 : decode cX8_script 100 = .ok (.iconst 0, 1) := by decide +kernel
theorem dX8_script_101 : decode cX8_script 101 = .ok (.putfield 279, 3) := by decide +kernel
theorem dX8_script_104 : decode cX8_script 104 = .ok (.iload_n 2, 1) := by decide +kernel
theorem dX8_script_105 : decode cX8_script 105 = .ok (.ifCond .ne 22, 3) := by decide +kernel
theorem dX8_script_108 : decode cX8_script 108 = .ok (.aload_n 0, 1) := by decide +kernel
theorem dX8_script_109 : decode cX8_script 109 = .ok (.getfield 16, 3) := by decide +kernel
theorem dX8_script_112 : decode cX8_script 112 = .ok (.aload_n 0, 1) := by decide +kernel
theorem dX8_script_113 : decode cX8_script 113 = .ok (.getfield 9, 3) := by decide +kernel
theorem dX8_script_116 : decode cX8_script 116 = .ok (.invokestatic 267, 3) := by decide +kernel
theorem dX8_script_119 : decode cX8_script 119 = .ok (.sipush (-2000), 3) := by decide +kernel
theorem dX8_script_122 : decode cX8_script 122 = .ok (.iload_n 1, 1) := by decide +kernel
theorem dX8_script_123 : decode cX8_script 123 = .ok (.iconst 1, 1) := by decide +kernel
theorem dX8_script_124 : decode cX8_script 124 = .ok (.isub, 1) := by decide +kernel
theorem dX8_script_125 : decode cX8_script 125 = .ok (.isub, 1) := by decide +kernel
theorem dX8_script_126 : decode cX8_script 126 = .ok (.ireturn, 1) := by decide +kernel
theorem dX8_script_127 : decode cX8_script 127 = .ok (.iload_n 1, 1) := by decide +kernel
theorem dX8_script_128 : decode cX8_script 128 = .ok (.ireturn, 1) := by decide +kernel
theorem dX8_image_0 : decode cX8_image 0 = .ok (.aload_n 0, 1) := by decide +kernel
theorem dX8_image_1 : decode cX8_image 1 = .ok (.getfield 9, 3) := by decide +kernel
theorem dX8_image_4 : decode cX8_image 4 = .ok (.aload_n 0, 1) := by decide +kernel
theorem dX8_image_5 : decode cX8_image 5 = .ok (.getfield 19, 3) := by decide +kernel
theorem dX8_image_8 : decode cX8_image 8 = .ok (.invokestatic 267, 3) := by decide +kernel
theorem dX8_image_11 : decode cX8_image 11 = .ok (.aload_n 0, 1) := by decide +kernel
theorem dX8_image_12 : decode cX8_image 12 = .ok (.iconst 1, 1) := by decide +kernel
theorem dX8_image_13 : decode cX8_image 13 = .ok (.putfield 332, 3) := by decide +kernel
theorem dX8_image_16 : decode cX8_image 16 = .ok (.aload_n 0, 1) := by decide +kernel
theorem dX8_image_17 : decode cX8_image 17 = .ok (.getfield 9, 3) := by decide +kernel
theorem dX8_image_20 : decode cX8_image 20 = .ok (.sipush 2521, 3) := by decide +kernel
theorem dX8_image_23 : decode cX8_image 23 = .ok (.laload, 1) := by decide +kernel
theorem dX8_image_24 : decode cX8_image 24 = .ok (.l2i, 1) := by decide +kernel
theorem dX8_image_25 : decode cX8_image 25 = .ok (.ireturn, 1) := by decide +kernel
theorem dX8_back_0 : decode cX8_back 0 = .ok (.aload_n 0, 1) := by decide +kernel
theorem dX8_back_1 : decode cX8_back 1 = .ok (.getfield 332, 3) := by decide +kernel
theorem dX8_back_4 : decode cX8_back 4 = .ok (.ifCond .ne 6, 3) := by decide +kernel
theorem dX8_back_7 : decode cX8_back 7 = .ok (.bipush (-5), 2) := by decide +kernel
theorem dX8_back_9 : decode cX8_back 9 = .ok (.ireturn, 1) := by decide +kernel
theorem dX8_back_10 : decode cX8_back 10 = .ok (.aload_n 0, 1) := by decide +kernel
theorem dX8_back_11 : decode cX8_back 11 = .ok (.getfield 19, 3) := by decide +kernel
theorem dX8_back_14 : decode cX8_back 14 = .ok (.aload_n 0, 1) := by decide +kernel
theorem dX8_back_15 : decode cX8_back 15 = .ok (.getfield 9, 3) := by decide +kernel
theorem dX8_back_18 : decode cX8_back 18 = .ok (.invokestatic 267, 3) := by decide +kernel
theorem dX8_back_21 : decode cX8_back 21 = .ok (.iconst 0, 1) := by decide +kernel
theorem dX8_back_22 : decode cX8_back 22 = .ok (.istore_n 1, 1) := by decide +kernel
theorem dX8_back_23 : decode cX8_back 23 = .ok (.iload_n 1, 1) := by decide +kernel
theorem dX8_back_24 : decode cX8_back 24 = .ok (.bipush 6, 2) := by decide +kernel
theorem dX8_back_26 : decode cX8_back 26 = .ok (.if_icmp .ge 48, 3) := by decide +kernel
theorem dX8_back_29 : decode cX8_back 29 = .ok (.aload_n 0, 1) := by decide +kernel
theorem dX8_back_30 : decode cX8_back 30 = .ok (.getfield 41, 3) := by decide +kernel
theorem dX8_back_33 : decode cX8_back 33 = .ok (.iload_n 1, 1) := by decide +kernel
theorem dX8_back_34 : decode cX8_back 34 = .ok (.aload_n 0, 1) := by decide +kernel
theorem dX8_back_35 : decode cX8_back 35 = .ok (.getfield 41, 3) := by decide +kernel
theorem dX8_back_38 : decode cX8_back 38 = .ok (.iload_n 1, 1) := by decide +kernel
theorem dX8_back_39 : decode cX8_back 39 = .ok (.iaload, 1) := by decide +kernel
theorem dX8_back_40 : decode cX8_back 40 = .ok (.iconst 1, 1) := by decide +kernel
theorem dX8_back_41 : decode cX8_back 41 = .ok (.if_icmp .ne 20, 3) := by decide +kernel
theorem dX8_back_44 : decode cX8_back 44 = .ok (.aload_n 0, 1) := by decide +kernel
theorem dX8_back_45 : decode cX8_back 45 = .ok (.aload_n 0, 1) := by decide +kernel
theorem dX8_back_46 : decode cX8_back 46 = .ok (.getfield 44, 3) := by decide +kernel
theorem dX8_back_49 : decode cX8_back 49 = .ok (.iload_n 1, 1) := by decide +kernel
theorem dX8_back_50 : decode cX8_back 50 = .ok (.iaload, 1) := by decide +kernel
theorem dX8_back_51 : decode cX8_back 51 = .ok (.invokevirtual 197, 3) := by decide +kernel
theorem dX8_back_54 : decode cX8_back 54 = .ok (.ifCond .ne 7, 3) := by decide +kernel
theorem dX8_back_57 : decode cX8_back 57 = .ok (.iconst 0, 1) := by decide +kernel
theorem dX8_back_58 : decode cX8_back 58 = .ok (.goto 9, 3) := by decide +kernel
theorem dX8_back_61 : decode cX8_back 61 = .ok (.aload_n 0, 1) := by decide +kernel
theorem dX8_back_62 : decode cX8_back 62 = .ok (.getfield 41, 3) := by decide +kernel
theorem dX8_back_65 : decode cX8_back 65 = .ok (.iload_n 1, 1) := by decide +kernel
theorem dX8_back_66 : decode cX8_back 66 = .ok (.iaload, 1) := by decide +kernel
theorem dX8_back_67 : decode cX8_back 67 = .ok (.iastore, 1) := by decide +kernel
theorem dX8_back_68 : decode cX8_back 68 = .ok (.iinc 1 1, 3) := by decide +kernel
theorem dX8_back_71 : decode cX8_back 71 = .ok (.goto (-48), 3) := by decide +kernel
theorem dX8_back_74 : decode cX8_back 74 = .ok (.aload_n 0, 1) := by decide +kernel
theorem dX8_back_75 : decode cX8_back 75 = .ok (.getfield 9, 3) := by decide +kernel
theorem dX8_back_78 : decode cX8_back 78 = .ok (.sipush 2521, 3) := by decide +kernel
theorem dX8_back_81 : decode cX8_back 81 = .ok (.laload, 1) := by decide +kernel
theorem dX8_back_82 : decode cX8_back 82 = .ok (.l2i, 1) := by decide +kernel
theorem dX8_back_83 : decode cX8_back 83 = .ok (.ireturn, 1) := by decide +kernel
theorem dX8_hold_0 : decode cX8_hold 0 = .ok (.aload_n 0, 1) := by decide +kernel
theorem dX8_hold_1 : decode cX8_hold 1 = .ok (.iload_n 1, 1) := by decide +kernel
theorem dX8_hold_2 : decode cX8_hold 2 = .ok (.invokevirtual 274, 3) := by decide +kernel
theorem dX8_hold_5 : decode cX8_hold 5 = .ok (.ifCond .eq 16, 3) := by decide +kernel
theorem dX8_hold_8 : decode cX8_hold 8 = .ok (.aload_n 0, 1) := by decide +kernel
theorem dX8_hold_9 : decode cX8_hold 9 = .ok (.iload_n 2, 1) := by decide +kernel
theorem dX8_hold_10 : decode cX8_hold 10 = .ok (.invokevirtual 197, 3) := by decide +kernel
theorem dX8_hold_13 : decode cX8_hold 13 = .ok (.ifCond .eq 8, 3) := by decide +kernel
theorem dX8_hold_16 : decode cX8_hold 16 = .ok (.iload_n 3, 1) := by decide +kernel
theorem dX8_hold_17 : decode cX8_hold 17 = .ok (.iconst (-1), 1) := by decide +kernel
theorem dX8_hold_18 : decode cX8_hold 18 = .ok (.if_icmp .ge 5, 3) := by decide +kernel
theorem dX8_hold_21 : decode cX8_hold 21 = .ok (.iconst (-1), 1) := by decide +kernel
theorem dX8_hold_22 : decode cX8_hold 22 = .ok (.ireturn, 1) := by decide +kernel
theorem dX8_hold_23 : decode cX8_hold 23 = .ok (.iload_n 3, 1) := by decide +kernel
theorem dX8_hold_24 : decode cX8_hold 24 = .ok (.i2l, 1) := by decide +kernel
theorem dX8_hold_25 : decode cX8_hold 25 = .ok (.aload_n 0, 1) := by decide +kernel
theorem dX8_hold_26 : decode cX8_hold 26 = .ok (.iload_n 2, 1) := by decide +kernel
theorem dX8_hold_27 : decode cX8_hold 27 = .ok (.bipush 14, 2) := by decide +kernel
theorem dX8_hold_29 : decode cX8_hold 29 = .ok (.invokevirtual 136, 3) := by decide +kernel
theorem dX8_hold_32 : decode cX8_hold 32 = .ok (.lcmp, 1) := by decide +kernel
theorem dX8_hold_33 : decode cX8_hold 33 = .ok (.ifCond .lt 6, 3) := by decide +kernel
theorem dX8_hold_36 : decode cX8_hold 36 = .ok (.bipush (-2), 2) := by decide +kernel
theorem dX8_hold_38 : decode cX8_hold 38 = .ok (.ireturn, 1) := by decide +kernel
theorem dX8_hold_39 : decode cX8_hold 39 = .ok (.aload_n 0, 1) := by decide +kernel
theorem dX8_hold_40 : decode cX8_hold 40 = .ok (.getfield 41, 3) := by decide +kernel
theorem dX8_hold_43 : decode cX8_hold 43 = .ok (.iload_n 1, 1) := by decide +kernel
theorem dX8_hold_44 : decode cX8_hold 44 = .ok (.iload_n 3, 1) := by decide +kernel
theorem dX8_hold_45 : decode cX8_hold 45 = .ok (.ifCond .ge 7, 3) := by decide +kernel
theorem dX8_hold_48 : decode cX8_hold 48 = .ok (.iconst 1, 1) := by decide +kernel
theorem dX8_hold_49 : decode cX8_hold 49 = .ok (.goto 4, 3) := by decide +kernel
theorem dX8_hold_52 : decode cX8_hold 52 = .ok (.iconst 2, 1) := by decide +kernel
theorem dX8_hold_53 : decode cX8_hold 53 = .ok (.iastore, 1) := by decide +kernel
theorem dX8_hold_54 : decode cX8_hold 54 = .ok (.aload_n 0, 1) := by decide +kernel
theorem dX8_hold_55 : decode cX8_hold 55 = .ok (.getfield 44, 3) := by decide +kernel
theorem dX8_hold_58 : decode cX8_hold 58 = .ok (.iload_n 1, 1) := by decide +kernel
theorem dX8_hold_59 : decode cX8_hold 59 = .ok (.iload_n 2, 1) := by decide +kernel
theorem dX8_hold_60 : decode cX8_hold 60 = .ok (.iastore, 1) := by decide +kernel
theorem dX8_hold_61 : decode cX8_hold 61 = .ok (.iload_n 3, 1) := by decide +kernel
theorem dX8_hold_62 : decode cX8_hold 62 = .ok (.ifCond .lt 32, 3) := by decide +kernel
theorem dX8_hold_65 : decode cX8_hold 65 = .ok (.aload_n 0, 1) := by decide +kernel
theorem dX8_hold_66 : decode cX8_hold 66 = .ok (.getfield 47, 3) := by decide +kernel
theorem dX8_hold_69 : decode cX8_hold 69 = .ok (.iload_n 1, 1) := by decide +kernel
theorem dX8_hold_70 : decode cX8_hold 70 = .ok (.aload_n 0, 1) := by decide +kernel
theorem dX8_hold_71 : decode cX8_hold 71 = .ok (.iload_n 2, 1) := by decide +kernel
theorem dX8_hold_72 : decode cX8_hold 72 = .ok (.bipush 15, 2) := by decide +kernel
theorem dX8_hold_74 : decode cX8_hold 74 = .ok (.iconst 5, 1) := by decide +kernel
theorem dX8_hold_75 : decode cX8_hold 75 = .ok (.iload_n 3, 1) := by decide +kernel
theorem dX8_hold_76 : decode cX8_hold 76 = .ok (.imul, 1) := by decide +kernel
theorem dX8_hold_77 : decode cX8_hold 77 = .ok (.iadd, 1) := by decide +kernel
theorem dX8_hold_78 : decode cX8_hold 78 = .ok (.invokevirtual 136, 3) := by decide +kernel
theorem dX8_hold_81 : decode cX8_hold 81 = .ok (.lastore, 1) := by decide +kernel
theorem dX8_hold_82 : decode cX8_hold 82 = .ok (.aload_n 0, 1) := by decide +kernel
theorem dX8_hold_83 : decode cX8_hold 83 = .ok (.getfield 50, 3) := by decide +kernel
theorem dX8_hold_86 : decode cX8_hold 86 = .ok (.iload_n 1, 1) := by decide +kernel
theorem dX8_hold_87 : decode cX8_hold 87 = .ok (.aload_n 0, 1) := by decide +kernel
theorem dX8_hold_88 : decode cX8_hold 88 = .ok (.iload_n 2, 1) := by decide +kernel
theorem dX8_hold_89 : decode cX8_hold 89 = .ok (.iload_n 3, 1) := by decide +kernel
theorem dX8_hold_90 : decode cX8_hold 90 = .ok (.invokevirtual 191, 3) := by decide +kernel
theorem dX8_hold_93 : decode cX8_hold 93 = .ok (.lastore, 1) := by decide +kernel
theorem dX8_hold_94 : decode cX8_hold 94 = .ok (.iconst 1, 1) := by decide +kernel
theorem dX8_hold_95 : decode cX8_hold 95 = .ok (.ireturn, 1) := by decide +kernel
theorem dX8_row_0 : decode cX8_row 0 = .ok (.aload_n 0, 1) := by decide +kernel
theorem dX8_row_1 : decode cX8_row 1 = .ok (.iload_n 1, 1) := by decide +kernel
theorem dX8_row_2 : decode cX8_row 2 = .ok (.invokevirtual 274, 3) := by decide +kernel
theorem dX8_row_5 : decode cX8_row 5 = .ok (.ifCond .eq 9, 3) := by decide +kernel
theorem dX8_row_8 : decode cX8_row 8 = .ok (.iload_n 2, 1) := by decide +kernel
theorem dX8_row_9 : decode cX8_row 9 = .ok (.bipush 60, 2) := by decide +kernel
theorem dX8_row_11 : decode cX8_row 11 = .ok (.if_icmp .le 5, 3) := by decide +kernel
theorem dX8_row_14 : decode cX8_row 14 = .ok (.iconst (-1), 1) := by decide +kernel
theorem dX8_row_15 : decode cX8_row 15 = .ok (.ireturn, 1) := by decide +kernel
theorem dX8_row_16 : decode cX8_row 16 = .ok (.iload_n 2, 1) := by decide +kernel
theorem dX8_row_17 : decode cX8_row 17 = .ok (.iconst (-1), 1) := by decide +kernel
theorem dX8_row_18 : decode cX8_row 18 = .ok (.if_icmp .ge 6, 3) := by decide +kernel
theorem dX8_row_21 : decode cX8_row 21 = .ok (.bipush (-14), 2) := by decide +kernel
theorem dX8_row_23 : decode cX8_row 23 = .ok (.ireturn, 1) := by decide +kernel
theorem dX8_row_24 : decode cX8_row 24 = .ok (.aload_n 0, 1) := by decide +kernel
theorem dX8_row_25 : decode cX8_row 25 = .ok (.getfield 41, 3) := by decide +kernel
theorem dX8_row_28 : decode cX8_row 28 = .ok (.iload_n 1, 1) := by decide +kernel
theorem dX8_row_29 : decode cX8_row 29 = .ok (.iload_n 2, 1) := by decide +kernel
theorem dX8_row_30 : decode cX8_row 30 = .ok (.ifCond .ge 7, 3) := by decide +kernel
theorem dX8_row_33 : decode cX8_row 33 = .ok (.iconst 0, 1) := by decide +kernel
theorem dX8_row_34 : decode cX8_row 34 = .ok (.goto 4, 3) := by decide +kernel
theorem dX8_row_37 : decode cX8_row 37 = .ok (.iconst 3, 1) := by decide +kernel
theorem dX8_row_38 : decode cX8_row 38 = .ok (.iastore, 1) := by decide +kernel
theorem dX8_row_39 : decode cX8_row 39 = .ok (.aload_n 0, 1) := by decide +kernel
theorem dX8_row_40 : decode cX8_row 40 = .ok (.getfield 53, 3) := by decide +kernel
theorem dX8_row_43 : decode cX8_row 43 = .ok (.iload_n 1, 1) := by decide +kernel
theorem dX8_row_44 : decode cX8_row 44 = .ok (.iload_n 2, 1) := by decide +kernel
theorem dX8_row_45 : decode cX8_row 45 = .ok (.ifCond .ge 7, 3) := by decide +kernel
theorem dX8_row_48 : decode cX8_row 48 = .ok (.iconst 0, 1) := by decide +kernel
theorem dX8_row_49 : decode cX8_row 49 = .ok (.goto 4, 3) := by decide +kernel
theorem dX8_row_52 : decode cX8_row 52 = .ok (.iload_n 2, 1) := by decide +kernel
theorem dX8_row_53 : decode cX8_row 53 = .ok (.iastore, 1) := by decide +kernel
theorem dX8_row_54 : decode cX8_row 54 = .ok (.iconst 0, 1) := by decide +kernel
theorem dX8_row_55 : decode cX8_row 55 = .ok (.istore_n 3, 1) := by decide +kernel
theorem dX8_row_56 : decode cX8_row 56 = .ok (.iload_n 3, 1) := by decide +kernel
theorem dX8_row_57 : decode cX8_row 57 = .ok (.bipush 60, 2) := by decide +kernel
theorem dX8_row_59 : decode cX8_row 59 = .ok (.if_icmp .ge 18, 3) := by decide +kernel
theorem dX8_row_62 : decode cX8_row 62 = .ok (.aload_n 0, 1) := by decide +kernel
theorem dX8_row_63 : decode cX8_row 63 = .ok (.getfield 58, 3) := by decide +kernel
theorem dX8_row_66 : decode cX8_row 66 = .ok (.iload_n 1, 1) := by decide +kernel
theorem dX8_row_67 : decode cX8_row 67 = .ok (.aaload, 1) := by decide +kernel
theorem dX8_row_68 : decode cX8_row 68 = .ok (.iload_n 3, 1) := by decide +kernel
theorem dX8_row_69 : decode cX8_row 69 = .ok (.lconst 0, 1) := by decide +kernel
theorem dX8_row_70 : decode cX8_row 70 = .ok (.lastore, 1) := by decide +kernel
theorem dX8_row_71 : decode cX8_row 71 = .ok (.iinc 3 1, 3) := by decide +kernel
theorem dX8_row_74 : decode cX8_row 74 = .ok (.goto (-18), 3) := by decide +kernel
theorem dX8_row_77 : decode cX8_row 77 = .ok (.iconst 1, 1) := by decide +kernel
theorem dX8_row_78 : decode cX8_row 78 = .ok (.ireturn, 1) := by decide +kernel
theorem dX8_put_0 : decode cX8_put 0 = .ok (.aload_n 0, 1) := by decide +kernel
theorem dX8_put_1 : decode cX8_put 1 = .ok (.iload_n 1, 1) := by decide +kernel
theorem dX8_put_2 : decode cX8_put 2 = .ok (.invokevirtual 274, 3) := by decide +kernel
theorem dX8_put_5 : decode cX8_put 5 = .ok (.ifCond .ne 5, 3) := by decide +kernel
theorem dX8_put_8 : decode cX8_put 8 = .ok (.iconst (-1), 1) := by decide +kernel
theorem dX8_put_9 : decode cX8_put 9 = .ok (.ireturn, 1) := by decide +kernel
theorem dX8_put_10 : decode cX8_put 10 = .ok (.aload_n 0, 1) := by decide +kernel
theorem dX8_put_11 : decode cX8_put 11 = .ok (.getfield 41, 3) := by decide +kernel
theorem dX8_put_14 : decode cX8_put 14 = .ok (.iload_n 1, 1) := by decide +kernel
theorem dX8_put_15 : decode cX8_put 15 = .ok (.iaload, 1) := by decide +kernel
theorem dX8_put_16 : decode cX8_put 16 = .ok (.iconst 3, 1) := by decide +kernel
theorem dX8_put_17 : decode cX8_put 17 = .ok (.if_icmp .eq 20, 3) := by decide +kernel
theorem dX8_put_20 : decode cX8_put 20 = .ok (.aload_n 0, 1) := by decide +kernel
theorem dX8_put_21 : decode cX8_put 21 = .ok (.getfield 41, 3) := by decide +kernel
theorem dX8_put_24 : decode cX8_put 24 = .ok (.iload_n 1, 1) := by decide +kernel
theorem dX8_put_25 : decode cX8_put 25 = .ok (.iaload, 1) := by decide +kernel
theorem dX8_put_26 : decode cX8_put 26 = .ok (.ifCond .ne 8, 3) := by decide +kernel
theorem dX8_put_29 : decode cX8_put 29 = .ok (.bipush (-11), 2) := by decide +kernel
theorem dX8_put_31 : decode cX8_put 31 = .ok (.goto 5, 3) := by decide +kernel
theorem dX8_put_34 : decode cX8_put 34 = .ok (.bipush (-12), 2) := by decide +kernel
theorem dX8_put_36 : decode cX8_put 36 = .ok (.ireturn, 1) := by decide +kernel
theorem dX8_put_37 : decode cX8_put 37 = .ok (.iload_n 2, 1) := by decide +kernel
theorem dX8_put_38 : decode cX8_put 38 = .ok (.i2l, 1) := by decide +kernel
theorem dX8_put_39 : decode cX8_put 39 = .ok (.lconst 0, 1) := by decide +kernel
theorem dX8_put_40 : decode cX8_put 40 = .ok (.aload_n 0, 1) := by decide +kernel
theorem dX8_put_41 : decode cX8_put 41 = .ok (.getfield 53, 3) := by decide +kernel
theorem dX8_put_44 : decode cX8_put 44 = .ok (.iload_n 1, 1) := by decide +kernel
theorem dX8_put_45 : decode cX8_put 45 = .ok (.iaload, 1) := by decide +kernel
theorem dX8_put_46 : decode cX8_put 46 = .ok (.iconst 1, 1) := by decide +kernel
theorem dX8_put_47 : decode cX8_put 47 = .ok (.isub, 1) := by decide +kernel
theorem dX8_put_48 : decode cX8_put 48 = .ok (.i2l, 1) := by decide +kernel
theorem dX8_put_49 : decode cX8_put 49 = .ok (.invokestatic 85, 3) := by decide +kernel
theorem dX8_put_52 : decode cX8_put 52 = .ok (.ifCond .ne 6, 3) := by decide +kernel
theorem dX8_put_55 : decode cX8_put 55 = .ok (.bipush (-13), 2) := by decide +kernel
theorem dX8_put_57 : decode cX8_put 57 = .ok (.ireturn, 1) := by decide +kernel
theorem dX8_put_58 : decode cX8_put 58 = .ok (.aload_n 0, 1) := by decide +kernel
theorem dX8_put_59 : decode cX8_put 59 = .ok (.getfield 58, 3) := by decide +kernel
theorem dX8_put_62 : decode cX8_put 62 = .ok (.iload_n 1, 1) := by decide +kernel
theorem dX8_put_63 : decode cX8_put 63 = .ok (.aaload, 1) := by decide +kernel
theorem dX8_put_64 : decode cX8_put 64 = .ok (.iload_n 2, 1) := by decide +kernel
theorem dX8_put_65 : decode cX8_put 65 = .ok (.lload_n 3, 1) := by decide +kernel
theorem dX8_put_66 : decode cX8_put 66 = .ok (.lastore, 1) := by decide +kernel
theorem dX8_put_67 : decode cX8_put 67 = .ok (.iconst 1, 1) := by decide +kernel
theorem dX8_put_68 : decode cX8_put 68 = .ok (.ireturn, 1) := by decide +kernel
theorem dX8_tells_0 : decode cX8_tells 0 = .ok (.aload_n 0, 1) := by decide +kernel
theorem dX8_tells_1 : decode cX8_tells 1 = .ok (.iload_n 1, 1) := by decide +kernel
theorem dX8_tells_2 : decode cX8_tells 2 = .ok (.invokevirtual 274, 3) := by decide +kernel
theorem dX8_tells_5 : decode cX8_tells 5 = .ok (.ifCond .eq 15, 3) := by decide +kernel
theorem dX8_tells_8 : decode cX8_tells 8 = .ok (.iload_n 2, 1) := by decide +kernel
theorem dX8_tells_9 : decode cX8_tells 9 = .ok (.i2l, 1) := by decide +kernel
theorem dX8_tells_10 : decode cX8_tells 10 = .ok (.lconst 0, 1) := by decide +kernel
theorem dX8_tells_11 : decode cX8_tells 11 = .ok (.ldc2_w 92, 3) := by decide +kernel
theorem dX8_tells_14 : decode cX8_tells 14 = .ok (.invokestatic 85, 3) := by decide +kernel
theorem dX8_tells_17 : decode cX8_tells 17 = .ok (.ifCond .ne 7, 3) := by decide +kernel
theorem dX8_tells_20 : decode cX8_tells 20 = .ok (.ldc2_w 134, 3) := by decide +kernel
theorem dX8_tells_23 : decode cX8_tells 23 = .ok (.lreturn, 1) := by decide +kernel
theorem dX8_tells_24 : decode cX8_tells 24 = .ok (.aload_n 0, 1) := by decide +kernel
theorem dX8_tells_25 : decode cX8_tells 25 = .ok (.getfield 41, 3) := by decide +kernel
theorem dX8_tells_28 : decode cX8_tells 28 = .ok (.iload_n 1, 1) := by decide +kernel
theorem dX8_tells_29 : decode cX8_tells 29 = .ok (.iaload, 1) := by decide +kernel
theorem dX8_tells_30 : decode cX8_tells 30 = .ok (.ifCond .ne 7, 3) := by decide +kernel
theorem dX8_tells_33 : decode cX8_tells 33 = .ok (.ldc2_w 336, 3) := by decide +kernel
theorem dX8_tells_36 : decode cX8_tells 36 = .ok (.lreturn, 1) := by decide +kernel
theorem dX8_tells_37 : decode cX8_tells 37 = .ok (.aload_n 0, 1) := by decide +kernel
theorem dX8_tells_38 : decode cX8_tells 38 = .ok (.getfield 44, 3) := by decide +kernel
theorem dX8_tells_41 : decode cX8_tells 41 = .ok (.iload_n 1, 1) := by decide +kernel
theorem dX8_tells_42 : decode cX8_tells 42 = .ok (.iaload, 1) := by decide +kernel
theorem dX8_tells_43 : decode cX8_tells 43 = .ok (.istore_n 3, 1) := by decide +kernel
theorem dX8_tells_44 : decode cX8_tells 44 = .ok (.iload_n 2, 1) := by decide +kernel
theorem dX8_tells_45 : decode cX8_tells 45 = .ok (.tableswitch 112 0 2 #[27, 65, 89], 27) := by decide +kernel
theorem dX8_tells_72 : decode cX8_tells 72 = .ok (.aload_n 0, 1) := by decide +kernel
theorem dX8_tells_73 : decode cX8_tells 73 = .ok (.getfield 41, 3) := by decide +kernel
theorem dX8_tells_76 : decode cX8_tells 76 = .ok (.iload_n 1, 1) := by decide +kernel
theorem dX8_tells_77 : decode cX8_tells 77 = .ok (.iaload, 1) := by decide +kernel
theorem dX8_tells_78 : decode cX8_tells 78 = .ok (.iconst 3, 1) := by decide +kernel
theorem dX8_tells_79 : decode cX8_tells 79 = .ok (.if_icmp .ne 9, 3) := by decide +kernel
theorem dX8_tells_82 : decode cX8_tells 82 = .ok (.ldc2_w 338, 3) := by decide +kernel
theorem dX8_tells_85 : decode cX8_tells 85 = .ok (.goto 24, 3) := by decide +kernel
theorem dX8_tells_88 : decode cX8_tells 88 = .ok (.aload_n 0, 1) := by decide +kernel
theorem dX8_tells_89 : decode cX8_tells 89 = .ok (.getfield 41, 3) := by decide +kernel
theorem dX8_tells_92 : decode cX8_tells 92 = .ok (.iload_n 1, 1) := by decide +kernel
theorem dX8_tells_93 : decode cX8_tells 93 = .ok (.iaload, 1) := by decide +kernel
theorem dX8_tells_94 : decode cX8_tells 94 = .ok (.iconst 1, 1) := by decide +kernel
theorem dX8_tells_95 : decode cX8_tells 95 = .ok (.if_icmp .ne 8, 3) := by decide +kernel
theorem dX8_tells_98 : decode cX8_tells 98 = .ok (.iload_n 3, 1) := by decide +kernel
theorem dX8_tells_99 : decode cX8_tells 99 = .ok (.i2l, 1) := by decide +kernel
theorem dX8_tells_100 : decode cX8_tells 100 = .ok (.goto 9, 3) := by decide +kernel
theorem dX8_tells_103 : decode cX8_tells 103 = .ok (.aload_n 0, 1) := by decide +kernel
theorem dX8_tells_104 : decode cX8_tells 104 = .ok (.getfield 47, 3) := by decide +kernel
theorem dX8_tells_107 : decode cX8_tells 107 = .ok (.iload_n 1, 1) := by decide +kernel
theorem dX8_tells_108 : decode cX8_tells 108 = .ok (.laload, 1) := by decide +kernel
theorem dX8_tells_109 : decode cX8_tells 109 = .ok (.lreturn, 1) := by decide +kernel
theorem dX8_tells_110 : decode cX8_tells 110 = .ok (.aload_n 0, 1) := by decide +kernel
theorem dX8_tells_111 : decode cX8_tells 111 = .ok (.getfield 41, 3) := by decide +kernel
theorem dX8_tells_114 : decode cX8_tells 114 = .ok (.iload_n 1, 1) := by decide +kernel
theorem dX8_tells_115 : decode cX8_tells 115 = .ok (.iaload, 1) := by decide +kernel
theorem dX8_tells_116 : decode cX8_tells 116 = .ok (.iconst 1, 1) := by decide +kernel
theorem dX8_tells_117 : decode cX8_tells 117 = .ok (.if_icmp .ne 13, 3) := by decide +kernel
theorem dX8_tells_120 : decode cX8_tells 120 = .ok (.aload_n 0, 1) := by decide +kernel
theorem dX8_tells_121 : decode cX8_tells 121 = .ok (.iload_n 3, 1) := by decide +kernel
theorem dX8_tells_122 : decode cX8_tells 122 = .ok (.bipush 8, 2) := by decide +kernel
theorem dX8_tells_124 : decode cX8_tells 124 = .ok (.invokevirtual 136, 3) := by decide +kernel
theorem dX8_tells_127 : decode cX8_tells 127 = .ok (.goto 6, 3) := by decide +kernel
theorem dX8_tells_130 : decode cX8_tells 130 = .ok (.ldc2_w 338, 3) := by decide +kernel
theorem dX8_tells_133 : decode cX8_tells 133 = .ok (.lreturn, 1) := by decide +kernel
theorem dX8_tells_134 : decode cX8_tells 134 = .ok (.aload_n 0, 1) := by decide +kernel
theorem dX8_tells_135 : decode cX8_tells 135 = .ok (.getfield 41, 3) := by decide +kernel
theorem dX8_tells_138 : decode cX8_tells 138 = .ok (.iload_n 1, 1) := by decide +kernel
theorem dX8_tells_139 : decode cX8_tells 139 = .ok (.iaload, 1) := by decide +kernel
theorem dX8_tells_140 : decode cX8_tells 140 = .ok (.iconst 2, 1) := by decide +kernel
theorem dX8_tells_141 : decode cX8_tells 141 = .ok (.if_icmp .ne 12, 3) := by decide +kernel
theorem dX8_tells_144 : decode cX8_tells 144 = .ok (.aload_n 0, 1) := by decide +kernel
theorem dX8_tells_145 : decode cX8_tells 145 = .ok (.getfield 50, 3) := by decide +kernel
theorem dX8_tells_148 : decode cX8_tells 148 = .ok (.iload_n 1, 1) := by decide +kernel
theorem dX8_tells_149 : decode cX8_tells 149 = .ok (.laload, 1) := by decide +kernel
theorem dX8_tells_150 : decode cX8_tells 150 = .ok (.goto 6, 3) := by decide +kernel
theorem dX8_tells_153 : decode cX8_tells 153 = .ok (.ldc2_w 338, 3) := by decide +kernel
theorem dX8_tells_156 : decode cX8_tells 156 = .ok (.lreturn, 1) := by decide +kernel
theorem dX8_tells_157 : decode cX8_tells 157 = .ok (.aload_n 0, 1) := by decide +kernel
theorem dX8_tells_158 : decode cX8_tells 158 = .ok (.getfield 41, 3) := by decide +kernel
theorem dX8_tells_161 : decode cX8_tells 161 = .ok (.iload_n 1, 1) := by decide +kernel
theorem dX8_tells_162 : decode cX8_tells 162 = .ok (.iaload, 1) := by decide +kernel
theorem dX8_tells_163 : decode cX8_tells 163 = .ok (.iconst 1, 1) := by decide +kernel
theorem dX8_tells_164 : decode cX8_tells 164 = .ok (.if_icmp .ne 24, 3) := by decide +kernel
theorem dX8_tells_167 : decode cX8_tells 167 = .ok (.aload_n 0, 1) := by decide +kernel
theorem dX8_tells_168 : decode cX8_tells 168 = .ok (.iload_n 3, 1) := by decide +kernel
theorem dX8_tells_169 : decode cX8_tells 169 = .ok (.iconst 3, 1) := by decide +kernel
theorem dX8_tells_170 : decode cX8_tells 170 = .ok (.invokevirtual 136, 3) := by decide +kernel
theorem dX8_tells_173 : decode cX8_tells 173 = .ok (.lconst 0, 1) := by decide +kernel
theorem dX8_tells_174 : decode cX8_tells 174 = .ok (.lcmp, 1) := by decide +kernel
theorem dX8_tells_175 : decode cX8_tells 175 = .ok (.ifCond .ne 13, 3) := by decide +kernel
theorem dX8_tells_178 : decode cX8_tells 178 = .ok (.aload_n 0, 1) := by decide +kernel
theorem dX8_tells_179 : decode cX8_tells 179 = .ok (.iload_n 3, 1) := by decide +kernel
theorem dX8_tells_180 : decode cX8_tells 180 = .ok (.bipush 9, 2) := by decide +kernel
theorem dX8_tells_182 : decode cX8_tells 182 = .ok (.invokevirtual 136, 3) := by decide +kernel
theorem dX8_tells_185 : decode cX8_tells 185 = .ok (.goto 6, 3) := by decide +kernel
theorem dX8_tells_188 : decode cX8_tells 188 = .ok (.ldc2_w 338, 3) := by decide +kernel
theorem dX8_tells_191 : decode cX8_tells 191 = .ok (.lreturn, 1) := by decide +kernel
theorem dX8_bills_0 : decode cX8_bills 0 = .ok (.iconst 0, 1) := by decide +kernel
theorem dX8_bills_1 : decode cX8_bills 1 = .ok (.istore_n 1, 1) := by decide +kernel
theorem dX8_bills_2 : decode cX8_bills 2 = .ok (.iconst 0, 1) := by decide +kernel
theorem dX8_bills_3 : decode cX8_bills 3 = .ok (.istore_n 2, 1) := by decide +kernel
theorem dX8_bills_4 : decode cX8_bills 4 = .ok (.iload_n 2, 1) := by decide +kernel
theorem dX8_bills_5 : decode cX8_bills 5 = .ok (.i2l, 1) := by decide +kernel
theorem dX8_bills_6 : decode cX8_bills 6 = .ok (.aload_n 0, 1) := by decide +kernel
theorem dX8_bills_7 : decode cX8_bills 7 = .ok (.getfield 9, 3) := by decide +kernel
theorem dX8_bills_10 : decode cX8_bills 10 = .ok (.sipush 2520, 3) := by decide +kernel
theorem dX8_bills_13 : decode cX8_bills 13 = .ok (.laload, 1) := by decide +kernel
theorem dX8_bills_14 : decode cX8_bills 14 = .ok (.lcmp, 1) := by decide +kernel
theorem dX8_bills_15 : decode cX8_bills 15 = .ok (.ifCond .ge 21, 3) := by decide +kernel
theorem dX8_bills_18 : decode cX8_bills 18 = .ok (.iload_n 1, 1) := by decide +kernel
theorem dX8_bills_19 : decode cX8_bills 19 = .ok (.i2l, 1) := by decide +kernel
theorem dX8_bills_20 : decode cX8_bills 20 = .ok (.aload_n 0, 1) := by decide +kernel
theorem dX8_bills_21 : decode cX8_bills 21 = .ok (.iload_n 2, 1) := by decide +kernel
theorem dX8_bills_22 : decode cX8_bills 22 = .ok (.bipush 14, 2) := by decide +kernel
theorem dX8_bills_24 : decode cX8_bills 24 = .ok (.invokevirtual 136, 3) := by decide +kernel
theorem dX8_bills_27 : decode cX8_bills 27 = .ok (.ladd, 1) := by decide +kernel
theorem dX8_bills_28 : decode cX8_bills 28 = .ok (.l2i, 1) := by decide +kernel
theorem dX8_bills_29 : decode cX8_bills 29 = .ok (.istore_n 1, 1) := by decide +kernel
theorem dX8_bills_30 : decode cX8_bills 30 = .ok (.iinc 2 1, 3) := by decide +kernel
theorem dX8_bills_33 : decode cX8_bills 33 = .ok (.goto (-29), 3) := by decide +kernel
theorem dX8_bills_36 : decode cX8_bills 36 = .ok (.iload_n 1, 1) := by decide +kernel
theorem dX8_bills_37 : decode cX8_bills 37 = .ok (.ireturn, 1) := by decide +kernel
theorem dX8_count_0 : decode cX8_count 0 = .ok (.iconst 0, 1) := by decide +kernel
theorem dX8_count_1 : decode cX8_count 1 = .ok (.istore_n 2, 1) := by decide +kernel
theorem dX8_count_2 : decode cX8_count 2 = .ok (.iload_n 1, 1) := by decide +kernel
theorem dX8_count_3 : decode cX8_count 3 = .ok (.tableswitch 184 0 7 #[45, 55, 60, 70, 80, 90, 146, 151], 45) := by decide +kernel
theorem dX8_count_48 : decode cX8_count 48 = .ok (.aload_n 0, 1) := by decide +kernel
theorem dX8_count_49 : decode cX8_count 49 = .ok (.getfield 9, 3) := by decide +kernel
theorem dX8_count_52 : decode cX8_count 52 = .ok (.sipush 2520, 3) := by decide +kernel
theorem dX8_count_55 : decode cX8_count 55 = .ok (.laload, 1) := by decide +kernel
theorem dX8_count_56 : decode cX8_count 56 = .ok (.l2i, 1) := by decide +kernel
theorem dX8_count_57 : decode cX8_count 57 = .ok (.ireturn, 1) := by decide +kernel
theorem dX8_count_58 : decode cX8_count 58 = .ok (.aload_n 0, 1) := by decide +kernel
theorem dX8_count_59 : decode cX8_count 59 = .ok (.invokevirtual 340, 3) := by decide +kernel
theorem dX8_count_62 : decode cX8_count 62 = .ok (.ireturn, 1) := by decide +kernel
theorem dX8_count_63 : decode cX8_count 63 = .ok (.aload_n 0, 1) := by decide +kernel
theorem dX8_count_64 : decode cX8_count 64 = .ok (.getfield 9, 3) := by decide +kernel
theorem dX8_count_67 : decode cX8_count 67 = .ok (.sipush 2521, 3) := by decide +kernel
theorem dX8_count_70 : decode cX8_count 70 = .ok (.laload, 1) := by decide +kernel
theorem dX8_count_71 : decode cX8_count 71 = .ok (.l2i, 1) := by decide +kernel
theorem dX8_count_72 : decode cX8_count 72 = .ok (.ireturn, 1) := by decide +kernel
theorem dX8_count_73 : decode cX8_count 73 = .ok (.aload_n 0, 1) := by decide +kernel
theorem dX8_count_74 : decode cX8_count 74 = .ok (.getfield 9, 3) := by decide +kernel
theorem dX8_count_77 : decode cX8_count 77 = .ok (.sipush 2522, 3) := by decide +kernel
theorem dX8_count_80 : decode cX8_count 80 = .ok (.laload, 1) := by decide +kernel
theorem dX8_count_81 : decode cX8_count 81 = .ok (.l2i, 1) := by decide +kernel
theorem dX8_count_82 : decode cX8_count 82 = .ok (.ireturn, 1) := by decide +kernel
theorem dX8_count_83 : decode cX8_count 83 = .ok (.aload_n 0, 1) := by decide +kernel
theorem dX8_count_84 : decode cX8_count 84 = .ok (.getfield 9, 3) := by decide +kernel
theorem dX8_count_87 : decode cX8_count 87 = .ok (.sipush 2523, 3) := by decide +kernel
theorem dX8_count_90 : decode cX8_count 90 = .ok (.laload, 1) := by decide +kernel
theorem dX8_count_91 : decode cX8_count 91 = .ok (.l2i, 1) := by decide +kernel
theorem dX8_count_92 : decode cX8_count 92 = .ok (.ireturn, 1) := by decide +kernel
theorem dX8_count_93 : decode cX8_count 93 = .ok (.iconst 0, 1) := by decide +kernel
theorem dX8_count_94 : decode cX8_count 94 = .ok (.istore_n 3, 1) := by decide +kernel
theorem dX8_count_95 : decode cX8_count 95 = .ok (.iload_n 3, 1) := by decide +kernel
theorem dX8_count_96 : decode cX8_count 96 = .ok (.i2l, 1) := by decide +kernel
theorem dX8_count_97 : decode cX8_count 97 = .ok (.aload_n 0, 1) := by decide +kernel
theorem dX8_count_98 : decode cX8_count 98 = .ok (.getfield 9, 3) := by decide +kernel
theorem dX8_count_101 : decode cX8_count 101 = .ok (.sipush 2520, 3) := by decide +kernel
theorem dX8_count_104 : decode cX8_count 104 = .ok (.laload, 1) := by decide +kernel
theorem dX8_count_105 : decode cX8_count 105 = .ok (.lcmp, 1) := by decide +kernel
theorem dX8_count_106 : decode cX8_count 106 = .ok (.ifCond .ge 41, 3) := by decide +kernel
theorem dX8_count_109 : decode cX8_count 109 = .ok (.iload_n 2, 1) := by decide +kernel
theorem dX8_count_110 : decode cX8_count 110 = .ok (.aload_n 0, 1) := by decide +kernel
theorem dX8_count_111 : decode cX8_count 111 = .ok (.iload_n 3, 1) := by decide +kernel
theorem dX8_count_112 : decode cX8_count 112 = .ok (.bipush 8, 2) := by decide +kernel
theorem dX8_count_114 : decode cX8_count 114 = .ok (.invokevirtual 136, 3) := by decide +kernel
theorem dX8_count_117 : decode cX8_count 117 = .ok (.lconst 0, 1) := by decide +kernel
theorem dX8_count_118 : decode cX8_count 118 = .ok (.lcmp, 1) := by decide +kernel
theorem dX8_count_119 : decode cX8_count 119 = .ok (.ifCond .ne 19, 3) := by decide +kernel
theorem dX8_count_122 : decode cX8_count 122 = .ok (.aload_n 0, 1) := by decide +kernel
theorem dX8_count_123 : decode cX8_count 123 = .ok (.iload_n 3, 1) := by decide +kernel
theorem dX8_count_124 : decode cX8_count 124 = .ok (.bipush 14, 2) := by decide +kernel
theorem dX8_count_126 : decode cX8_count 126 = .ok (.invokevirtual 136, 3) := by decide +kernel
theorem dX8_count_129 : decode cX8_count 129 = .ok (.lconst 0, 1) := by decide +kernel
theorem dX8_count_130 : decode cX8_count 130 = .ok (.lcmp, 1) := by decide +kernel
theorem dX8_count_131 : decode cX8_count 131 = .ok (.ifCond .ne 7, 3) := by decide +kernel
theorem dX8_count_134 : decode cX8_count 134 = .ok (.iconst 1, 1) := by decide +kernel
theorem dX8_count_135 : decode cX8_count 135 = .ok (.goto 4, 3) := by decide +kernel
theorem dX8_count_138 : decode cX8_count 138 = .ok (.iconst 0, 1) := by decide +kernel
theorem dX8_count_139 : decode cX8_count 139 = .ok (.iadd, 1) := by decide +kernel
theorem dX8_count_140 : decode cX8_count 140 = .ok (.istore_n 2, 1) := by decide +kernel
theorem dX8_count_141 : decode cX8_count 141 = .ok (.iinc 3 1, 3) := by decide +kernel
theorem dX8_count_144 : decode cX8_count 144 = .ok (.goto (-49), 3) := by decide +kernel
theorem dX8_count_147 : decode cX8_count 147 = .ok (.iload_n 2, 1) := by decide +kernel
theorem dX8_count_148 : decode cX8_count 148 = .ok (.ireturn, 1) := by decide +kernel
theorem dX8_count_149 : decode cX8_count 149 = .ok (.aload_n 0, 1) := by decide +kernel
theorem dX8_count_150 : decode cX8_count 150 = .ok (.getfield 279, 3) := by decide +kernel
theorem dX8_count_153 : decode cX8_count 153 = .ok (.ireturn, 1) := by decide +kernel
theorem dX8_count_154 : decode cX8_count 154 = .ok (.iconst 0, 1) := by decide +kernel
theorem dX8_count_155 : decode cX8_count 155 = .ok (.istore_n 3, 1) := by decide +kernel
theorem dX8_count_156 : decode cX8_count 156 = .ok (.iload_n 3, 1) := by decide +kernel
theorem dX8_count_157 : decode cX8_count 157 = .ok (.bipush 6, 2) := by decide +kernel
theorem dX8_count_159 : decode cX8_count 159 = .ok (.if_icmp .ge 26, 3) := by decide +kernel
theorem dX8_count_162 : decode cX8_count 162 = .ok (.iload_n 2, 1) := by decide +kernel
theorem dX8_count_163 : decode cX8_count 163 = .ok (.aload_n 0, 1) := by decide +kernel
theorem dX8_count_164 : decode cX8_count 164 = .ok (.getfield 41, 3) := by decide +kernel
theorem dX8_count_167 : decode cX8_count 167 = .ok (.iload_n 3, 1) := by decide +kernel
theorem dX8_count_168 : decode cX8_count 168 = .ok (.iaload, 1) := by decide +kernel
theorem dX8_count_169 : decode cX8_count 169 = .ok (.ifCond .eq 7, 3) := by decide +kernel
theorem dX8_count_172 : decode cX8_count 172 = .ok (.iconst 1, 1) := by decide +kernel
theorem dX8_count_173 : decode cX8_count 173 = .ok (.goto 4, 3) := by decide +kernel
theorem dX8_count_176 : decode cX8_count 176 = .ok (.iconst 0, 1) := by decide +kernel
theorem dX8_count_177 : decode cX8_count 177 = .ok (.iadd, 1) := by decide +kernel
theorem dX8_count_178 : decode cX8_count 178 = .ok (.istore_n 2, 1) := by decide +kernel
theorem dX8_count_179 : decode cX8_count 179 = .ok (.iinc 3 1, 3) := by decide +kernel
theorem dX8_count_182 : decode cX8_count 182 = .ok (.goto (-26), 3) := by decide +kernel
theorem dX8_count_185 : decode cX8_count 185 = .ok (.iload_n 2, 1) := by decide +kernel
theorem dX8_count_186 : decode cX8_count 186 = .ok (.ireturn, 1) := by decide +kernel
theorem dX8_count_187 : decode cX8_count 187 = .ok (.iconst (-1), 1) := by decide +kernel
theorem dX8_count_188 : decode cX8_count 188 = .ok (.ireturn, 1) := by decide +kernel
