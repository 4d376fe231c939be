theorem dX7_put_1 : decode cX7_put 1 = .ok (.invokestatic 268, 3) := by decide +kernel
theorem dX7_put_4 : decode cX7_put 4 = .ok (.ifCond .ne 5, 3) := by decide +kernel
theorem dX7_put_7 : decode cX7_put 7 = .ok (.iconst (-1), 1) := by decide +kernel
theorem dX7_put_8 : decode cX7_put 8 = .ok (.ireturn, 1) := by decide +kernel
theorem dX7_put_9 : decode cX7_put 9 = .ok (.aload_n 0, 1) := by decide +kernel
theorem dX7_put_10 : decode cX7_put 10 = .ok (.getfield 49, 3) := by decide +kernel
theorem dX7_put_13 : decode cX7_put 13 = .ok (.iload_n 1, 1) := by decide +kernel
theorem dX7_put_14 : decode cX7_put 14 = .ok (.aaload, 1) := by decide +kernel
theorem dX7_put_15 : decode cX7_put 15 = .ok (.astore 5, 2) := by decide +kernel
theorem dX7_put_17 : decode cX7_put 17 = .ok (.aload 5, 2) := by decide +kernel
theorem dX7_put_19 : decode cX7_put 19 = .ok (.getfield 271, 3) := by decide +kernel
theorem dX7_put_22 : decode cX7_put 22 = .ok (.iconst 3, 1) := by decide +kernel
theorem dX7_put_23 : decode cX7_put 23 = .ok (.if_icmp .eq 19, 3) := by decide +kernel
theorem dX7_put_26 : decode cX7_put 26 = .ok (.aload 5, 2) := by decide +kernel
theorem dX7_put_28 : decode cX7_put 28 = .ok (.getfield 271, 3) := by decide +kernel
theorem dX7_put_31 : decode cX7_put 31 = .ok (.ifCond .ne 8, 3) := by decide +kernel
theorem dX7_put_34 : decode cX7_put 34 = .ok (.bipush (-11), 2) := by decide +kernel
theorem dX7_put_36 : decode cX7_put 36 = .ok (.goto 5, 3) := by decide +kernel
theorem dX7_put_39 : decode cX7_put 39 = .ok (.bipush (-12), 2) := by decide +kernel
theorem dX7_put_41 : decode cX7_put 41 = .ok (.ireturn, 1) := by decide +kernel
theorem dX7_put_42 : decode cX7_put 42 = .ok (.iload_n 2, 1) := by decide +kernel
theorem dX7_put_43 : decode cX7_put 43 = .ok (.ifCond .lt 12, 3) := by decide +kernel
theorem dX7_put_46 : decode cX7_put 46 = .ok (.iload_n 2, 1) := by decide +kernel
theorem dX7_put_47 : decode cX7_put 47 = .ok (.aload 5, 2) := by decide +kernel
theorem dX7_put_49 : decode cX7_put 49 = .ok (.getfield 274, 3) := by decide +kernel
theorem dX7_put_52 : decode cX7_put 52 = .ok (.if_icmp .lt 6, 3) := by decide +kernel
theorem dX7_put_55 : decode cX7_put 55 = .ok (.bipush (-13), 2) := by decide +kernel
theorem dX7_put_57 : decode cX7_put 57 = .ok (.ireturn, 1) := by decide +kernel
theorem dX7_put_58 : decode cX7_put 58 = .ok (.aload 5, 2) := by decide +kernel
theorem dX7_put_60 : decode cX7_put 60 = .ok (.getfield 275, 3) := by decide +kernel
theorem dX7_put_63 : decode cX7_put 63 = .ok (.iload_n 2, 1) := by decide +kernel
theorem dX7_put_64 : decode cX7_put 64 = .ok (.lload_n 3, 1) := by decide +kernel
theorem dX7_put_65 : decode cX7_put 65 = .ok (.lastore, 1) := by decide +kernel
theorem dX7_put_66 : decode cX7_put 66 = .ok (.iconst 1, 1) := by decide +kernel
theorem dX7_put_67 : decode cX7_put 67 = .ok (.ireturn, 1) := by decide +kernel
theorem dX7_tells_0 : decode cX7_tells 0 = .ok (.iload_n 1, 1) := by decide +kernel
theorem dX7_tells_1 : decode cX7_tells 1 = .ok (.invokestatic 268, 3) := by decide +kernel
theorem dX7_tells_4 : decode cX7_tells 4 = .ok (.ifCond .eq 12, 3) := by decide +kernel
theorem dX7_tells_7 : decode cX7_tells 7 = .ok (.iload_n 2, 1) := by decide +kernel
theorem dX7_tells_8 : decode cX7_tells 8 = .ok (.iconst 0, 1) := by decide +kernel
theorem dX7_tells_9 : decode cX7_tells 9 = .ok (.iconst 3, 1) := by decide +kernel
theorem dX7_tells_10 : decode cX7_tells 10 = .ok (.invokestatic 67, 3) := by decide +kernel
theorem dX7_tells_13 : decode cX7_tells 13 = .ok (.ifCond .ne 7, 3) := by decide +kernel
theorem dX7_tells_16 : decode cX7_tells 16 = .ok (.ldc2_w 79, 3) := by decide +kernel
theorem dX7_tells_19 : decode cX7_tells 19 = .ok (.lreturn, 1) := by decide +kernel
theorem dX7_tells_20 : decode cX7_tells 20 = .ok (.aload_n 0, 1) := by decide +kernel
theorem dX7_tells_21 : decode cX7_tells 21 = .ok (.getfield 49, 3) := by decide +kernel
theorem dX7_tells_24 : decode cX7_tells 24 = .ok (.iload_n 1, 1) := by decide +kernel
theorem dX7_tells_25 : decode cX7_tells 25 = .ok (.aaload, 1) := by decide +kernel
theorem dX7_tells_26 : decode cX7_tells 26 = .ok (.astore_n 3, 1) := by decide +kernel
theorem dX7_tells_27 : decode cX7_tells 27 = .ok (.aload_n 3, 1) := by decide +kernel
theorem dX7_tells_28 : decode cX7_tells 28 = .ok (.getfield 271, 3) := by decide +kernel
theorem dX7_tells_31 : decode cX7_tells 31 = .ok (.tableswitch 45 1 3 #[25, 35, 41], 25) := by decide +kernel
theorem dX7_tells_56 : decode cX7_tells 56 = .ok (.aload_n 0, 1) := by decide +kernel
theorem dX7_tells_57 : decode cX7_tells 57 = .ok (.aload_n 3, 1) := by decide +kernel
theorem dX7_tells_58 : decode cX7_tells 58 = .ok (.getfield 299, 3) := by decide +kernel
theorem dX7_tells_61 : decode cX7_tells 61 = .ok (.iload_n 2, 1) := by decide +kernel
theorem dX7_tells_62 : decode cX7_tells 62 = .ok (.invokevirtual 317, 3) := by decide +kernel
theorem dX7_tells_65 : decode cX7_tells 65 = .ok (.lreturn, 1) := by decide +kernel
theorem dX7_tells_66 : decode cX7_tells 66 = .ok (.aload_n 3, 1) := by decide +kernel
theorem dX7_tells_67 : decode cX7_tells 67 = .ok (.iload_n 2, 1) := by decide +kernel
theorem dX7_tells_68 : decode cX7_tells 68 = .ok (.invokestatic 321, 3) := by decide +kernel
theorem dX7_tells_71 : decode cX7_tells 71 = .ok (.lreturn, 1) := by decide +kernel
theorem dX7_tells_72 : decode cX7_tells 72 = .ok (.ldc2_w 325, 3) := by decide +kernel
theorem dX7_tells_75 : decode cX7_tells 75 = .ok (.lreturn, 1) := by decide +kernel
theorem dX7_tells_76 : decode cX7_tells 76 = .ok (.ldc2_w 327, 3) := by decide +kernel
theorem dX7_tells_79 : decode cX7_tells 79 = .ok (.lreturn, 1) := by decide +kernel
theorem dX7_count_0 : decode cX7_count 0 = .ok (.iload_n 1, 1) := by decide +kernel
theorem dX7_count_1 : decode cX7_count 1 = .ok (.tableswitch 108 0 7 #[47, 55, 63, 71, 79, 87, 95, 103], 47) := by decide +kernel
theorem dX7_count_48 : decode cX7_count 48 = .ok (.aload_n 0, 1) := by decide +kernel
theorem dX7_count_49 : decode cX7_count 49 = .ok (.getfield 10, 3) := by decide +kernel
theorem dX7_count_52 : decode cX7_count 52 = .ok (.getfield 253, 3) := by decide +kernel
theorem dX7_count_55 : decode cX7_count 55 = .ok (.ireturn, 1) := by decide +kernel
theorem dX7_count_56 : decode cX7_count 56 = .ok (.aload_n 0, 1) := by decide +kernel
theorem dX7_count_57 : decode cX7_count 57 = .ok (.getfield 10, 3) := by decide +kernel
theorem dX7_count_60 : decode cX7_count 60 = .ok (.invokevirtual 329, 3) := by decide +kernel
theorem dX7_count_63 : decode cX7_count 63 = .ok (.ireturn, 1) := by decide +kernel
theorem dX7_count_64 : decode cX7_count 64 = .ok (.aload_n 0, 1) := by decide +kernel
theorem dX7_count_65 : decode cX7_count 65 = .ok (.getfield 10, 3) := by decide +kernel
theorem dX7_count_68 : decode cX7_count 68 = .ok (.getfield 93, 3) := by decide +kernel
theorem dX7_count_71 : decode cX7_count 71 = .ok (.ireturn, 1) := by decide +kernel
theorem dX7_count_72 : decode cX7_count 72 = .ok (.aload_n 0, 1) := by decide +kernel
theorem dX7_count_73 : decode cX7_count 73 = .ok (.getfield 10, 3) := by decide +kernel
theorem dX7_count_76 : decode cX7_count 76 = .ok (.getfield 136, 3) := by decide +kernel
theorem dX7_count_79 : decode cX7_count 79 = .ok (.ireturn, 1) := by decide +kernel
theorem dX7_count_80 : decode cX7_count 80 = .ok (.aload_n 0, 1) := by decide +kernel
theorem dX7_count_81 : decode cX7_count 81 = .ok (.getfield 10, 3) := by decide +kernel
theorem dX7_count_84 : decode cX7_count 84 = .ok (.getfield 139, 3) := by decide +kernel
theorem dX7_count_87 : decode cX7_count 87 = .ok (.ireturn, 1) := by decide +kernel
theorem dX7_count_88 : decode cX7_count 88 = .ok (.aload_n 0, 1) := by decide +kernel
theorem dX7_count_89 : decode cX7_count 89 = .ok (.getfield 10, 3) := by decide +kernel
theorem dX7_count_92 : decode cX7_count 92 = .ok (.invokevirtual 330, 3) := by decide +kernel
theorem dX7_count_95 : decode cX7_count 95 = .ok (.ireturn, 1) := by decide +kernel
theorem dX7_count_96 : decode cX7_count 96 = .ok (.aload_n 0, 1) := by decide +kernel
theorem dX7_count_97 : decode cX7_count 97 = .ok (.getfield 43, 3) := by decide +kernel
theorem dX7_count_100 : decode cX7_count 100 = .ok (.getfield 278, 3) := by decide +kernel
theorem dX7_count_103 : decode cX7_count 103 = .ok (.ireturn, 1) := by decide +kernel
theorem dX7_count_104 : decode cX7_count 104 = .ok (.aload_n 0, 1) := by decide +kernel
theorem dX7_count_105 : decode cX7_count 105 = .ok (.invokevirtual 333, 3) := by decide +kernel
theorem dX7_count_108 : decode cX7_count 108 = .ok (.ireturn, 1) := by decide +kernel
theorem dX7_count_109 : decode cX7_count 109 = .ok (.iconst (-1), 1) := by decide +kernel
theorem dX7_count_110 : decode cX7_count 110 = .ok (.ireturn, 1) := by decide +kernel
theorem dX7_isWithin_0 : decode cX7_isWithin 0 = .ok (.iload_n 0, 1) := by decide +kernel
theorem dX7_isWithin_1 : decode cX7_isWithin 1 = .ok (.iload_n 1, 1) := by decide +kernel
theorem dX7_isWithin_2 : decode cX7_isWithin 2 = .ok (.if_icmp .lt 12, 3) := by decide +kernel
theorem dX7_isWithin_5 : decode cX7_isWithin 5 = .ok (.iload_n 0, 1) := by decide +kernel
theorem dX7_isWithin_6 : decode cX7_isWithin 6 = .ok (.iload_n 2, 1) := by decide +kernel
theorem dX7_isWithin_7 : decode cX7_isWithin 7 = .ok (.if_icmp .gt 7, 3) := by decide +kernel
theorem dX7_isWithin_10 : decode cX7_isWithin 10 = .ok (.iconst 1, 1) := by decide +kernel
theorem dX7_isWithin_11 : decode cX7_isWithin 11 = .ok (.goto 4, 3) := by decide +kernel
theorem dX7_isWithin_14 : decode cX7_isWithin 14 = .ok (.iconst 0, 1) := by decide +kernel
theorem dX7_isWithin_15 : decode cX7_isWithin 15 = .ok (.ireturn, 1) := by decide +kernel
theorem dX7_isDay_0 : decode cX7_isDay 0 = .ok (.iload_n 0, 1) := by decide +kernel
theorem dX7_isDay_1 : decode cX7_isDay 1 = .ok (.iconst 0, 1) := by decide +kernel
theorem dX7_isDay_2 : decode cX7_isDay 2 = .ok (.ldc 97, 2) := by decide +kernel
theorem dX7_isDay_4 : decode cX7_isDay 4 = .ok (.invokestatic 67, 3) := by decide +kernel
theorem dX7_isDay_7 : decode cX7_isDay 7 = .ok (.ireturn, 1) := by decide +kernel
theorem dX7_isRate_0 : decode cX7_isRate 0 = .ok (.iload_n 0, 1) := by decide +kernel
theorem dX7_isRate_1 : decode cX7_isRate 1 = .ok (.iconst 0, 1) := by decide +kernel
theorem dX7_isRate_2 : decode cX7_isRate 2 = .ok (.sipush 5000, 3) := by decide +kernel
theorem dX7_isRate_5 : decode cX7_isRate 5 = .ok (.invokestatic 67, 3) := by decide +kernel
theorem dX7_isRate_8 : decode cX7_isRate 8 = .ok (.ireturn, 1) := by decide +kernel
theorem dX7_isAmount_0 : decode cX7_isAmount 0 = .ok (.lload_n 0, 1) := by decide +kernel
theorem dX7_isAmount_1 : decode cX7_isAmount 1 = .ok (.lconst 1, 1) := by decide +kernel
theorem dX7_isAmount_2 : decode cX7_isAmount 2 = .ok (.lcmp, 1) := by decide +kernel
theorem dX7_isAmount_3 : decode cX7_isAmount 3 = .ok (.ifCond .lt 15, 3) := by decide +kernel
theorem dX7_isAmount_6 : decode cX7_isAmount 6 = .ok (.lload_n 0, 1) := by decide +kernel
theorem dX7_isAmount_7 : decode cX7_isAmount 7 = .ok (.ldc2_w 336, 3) := by decide +kernel
theorem dX7_isAmount_10 : decode cX7_isAmount 10 = .ok (.lcmp, 1) := by decide +kernel
theorem dX7_isAmount_11 : decode cX7_isAmount 11 = .ok (.ifCond .gt 7, 3) := by decide +kernel
theorem dX7_isAmount_14 : decode cX7_isAmount 14 = .ok (.iconst 1, 1) := by decide +kernel
theorem dX7_isAmount_15 : decode cX7_isAmount 15 = .ok (.goto 4, 3) := by decide +kernel
theorem dX7_isAmount_18 : decode cX7_isAmount 18 = .ok (.iconst 0, 1) := by decide +kernel
theorem dX7_isAmount_19 : decode cX7_isAmount 19 = .ok (.ireturn, 1) := by decide +kernel
theorem dX7_isHolder_0 : decode cX7_isHolder 0 = .ok (.iload_n 0, 1) := by decide +kernel
theorem dX7_isHolder_1 : decode cX7_isHolder 1 = .ok (.iconst 0, 1) := by decide +kernel
theorem dX7_isHolder_2 : decode cX7_isHolder 2 = .ok (.iconst 5, 1) := by decide +kernel
theorem dX7_isHolder_3 : decode cX7_isHolder 3 = .ok (.invokestatic 67, 3) := by decide +kernel
theorem dX7_isHolder_6 : decode cX7_isHolder 6 = .ok (.ireturn, 1) := by decide +kernel
theorem dX7_fullHolders_0 : decode cX7_fullHolders 0 = .ok (.iconst 0, 1) := by decide +kernel
theorem dX7_fullHolders_1 : decode cX7_fullHolders 1 = .ok (.istore_n 1, 1) := by decide +kernel
theorem dX7_fullHolders_2 : decode cX7_fullHolders 2 = .ok (.iconst 0, 1) := by decide +kernel
theorem dX7_fullHolders_3 : decode cX7_fullHolders 3 = .ok (.istore_n 2, 1) := by decide +kernel
theorem dX7_fullHolders_4 : decode cX7_fullHolders 4 = .ok (.iload_n 2, 1) := by decide +kernel
theorem dX7_fullHolders_5 : decode cX7_fullHolders 5 = .ok (.bipush 6, 2) := by decide +kernel
theorem dX7_fullHolders_7 : decode cX7_fullHolders 7 = .ok (.if_icmp .ge 24, 3) := by decide +kernel
theorem dX7_fullHolders_10 : decode cX7_fullHolders 10 = .ok (.aload_n 0, 1) := by decide +kernel
theorem dX7_fullHolders_11 : decode cX7_fullHolders 11 = .ok (.getfield 49, 3) := by decide +kernel
theorem dX7_fullHolders_14 : decode cX7_fullHolders 14 = .ok (.iload_n 2, 1) := by decide +kernel
theorem dX7_fullHolders_15 : decode cX7_fullHolders 15 = .ok (.aaload, 1) := by decide +kernel
theorem dX7_fullHolders_16 : decode cX7_fullHolders 16 = .ok (.getfield 271, 3) := by decide +kernel
theorem dX7_fullHolders_19 : decode cX7_fullHolders 19 = .ok (.ifCond .eq 6, 3) := by decide +kernel
theorem dX7_fullHolders_22 : decode cX7_fullHolders 22 = .ok (.iinc 1 1, 3) := by decide +kernel
theorem dX7_fullHolders_25 : decode cX7_fullHolders 25 = .ok (.iinc 2 1, 3) := by decide +kernel
theorem dX7_fullHolders_28 : decode cX7_fullHolders 28 = .ok (.goto (-24), 3) := by decide +kernel
theorem dX7_fullHolders_31 : decode cX7_fullHolders 31 = .ok (.iload_n 1, 1) := by decide +kernel
theorem dX7_fullHolders_32 : decode cX7_fullHolders 32 = .ok (.ireturn, 1) := by decide +kernel
theorem dX7_loanTells_0 : decode cX7_loanTells 0 = .ok (.aload_n 0, 1) := by decide +kernel
theorem dX7_loanTells_1 : decode cX7_loanTells 1 = .ok (.getfield 10, 3) := by decide +kernel
theorem dX7_loanTells_4 : decode cX7_loanTells 4 = .ok (.iload_n 1, 1) := by decide +kernel
theorem dX7_loanTells_5 : decode cX7_loanTells 5 = .ok (.invokevirtual 101, 3) := by decide +kernel
theorem dX7_loanTells_8 : decode cX7_loanTells 8 = .ok (.ifCond .ne 7, 3) := by decide +kernel
theorem dX7_loanTells_11 : decode cX7_loanTells 11 = .ok (.ldc2_w 327, 3) := by decide +kernel
theorem dX7_loanTells_14 : decode cX7_loanTells 14 = .ok (.lreturn, 1) := by decide +kernel
theorem dX7_loanTells_15 : decode cX7_loanTells 15 = .ok (.aload_n 0, 1) := by decide +kernel
theorem dX7_loanTells_16 : decode cX7_loanTells 16 = .ok (.getfield 10, 3) := by decide +kernel
theorem dX7_loanTells_19 : decode cX7_loanTells 19 = .ok (.getfield 108, 3) := by decide +kernel
theorem dX7_loanTells_22 : decode cX7_loanTells 22 = .ok (.iload_n 1, 1) := by decide +kernel
theorem dX7_loanTells_23 : decode cX7_loanTells 23 = .ok (.aaload, 1) := by decide +kernel
theorem dX7_loanTells_24 : decode cX7_loanTells 24 = .ok (.astore_n 3, 1) := by decide +kernel
theorem dX7_loanTells_25 : decode cX7_loanTells 25 = .ok (.iload_n 2, 1) := by decide +kernel
theorem dX7_loanTells_26 : decode cX7_loanTells 26 = .ok (.tableswitch 56 0 3 #[30, 33, 56, 38], 30) := by decide +kernel
theorem dX7_loanTells_56 : decode cX7_loanTells 56 = .ok (.iload_n 1, 1) := by decide +kernel
theorem dX7_loanTells_57 : decode cX7_loanTells 57 = .ok (.i2l, 1) := by decide +kernel
theorem dX7_loanTells_58 : decode cX7_loanTells 58 = .ok (.lreturn, 1) := by decide +kernel
theorem dX7_loanTells_59 : decode cX7_loanTells 59 = .ok (.aload_n 3, 1) := by decide +kernel
theorem dX7_loanTells_60 : decode cX7_loanTells 60 = .ok (.getfield 171, 3) := by decide +kernel
theorem dX7_loanTells_63 : decode cX7_loanTells 63 = .ok (.lreturn, 1) := by decide +kernel
theorem dX7_loanTells_64 : decode cX7_loanTells 64 = .ok (.aload_n 3, 1) := by decide +kernel
theorem dX7_loanTells_65 : decode cX7_loanTells 65 = .ok (.getfield 145, 3) := by decide +kernel
theorem dX7_loanTells_68 : decode cX7_loanTells 68 = .ok (.ifCond .ne 10, 3) := by decide +kernel
theorem dX7_loanTells_71 : decode cX7_loanTells 71 = .ok (.aload_n 3, 1) := by decide +kernel
theorem dX7_loanTells_72 : decode cX7_loanTells 72 = .ok (.getfield 122, 3) := by decide +kernel
theorem dX7_loanTells_75 : decode cX7_loanTells 75 = .ok (.goto 6, 3) := by decide +kernel
theorem dX7_loanTells_78 : decode cX7_loanTells 78 = .ok (.ldc2_w 325, 3) := by decide +kernel
theorem dX7_loanTells_81 : decode cX7_loanTells 81 = .ok (.lreturn, 1) := by decide +kernel
theorem dX7_loanTells_82 : decode cX7_loanTells 82 = .ok (.ldc2_w 325, 3) := by decide +kernel
theorem dX7_loanTells_85 : decode cX7_loanTells 85 = .ok (.lreturn, 1) := by decide +kernel
theorem dX7_billTells_0 : decode cX7_billTells 0 = .ok (.iload_n 1, 1) := by decide +kernel
theorem dX7_billTells_1 : decode cX7_billTells 1 = .ok (.lookupswitch 38 #[(0, 27), (2, 33)], 27) := by decide +kernel
theorem dX7_billTells_28 : decode cX7_billTells 28 = .ok (.aload_n 0, 1) := by decide +kernel
theorem dX7_billTells_29 : decode cX7_billTells 29 = .ok (.getfield 299, 3) := by decide +kernel
theorem dX7_billTells_32 : decode cX7_billTells 32 = .ok (.i2l, 1) := by decide +kernel
theorem dX7_billTells_33 : decode cX7_billTells 33 = .ok (.lreturn, 1) := by decide +kernel
theorem dX7_billTells_34 : decode cX7_billTells 34 = .ok (.aload_n 0, 1) := by decide +kernel
theorem dX7_billTells_35 : decode cX7_billTells 35 = .ok (.getfield 338, 3) := by decide +kernel
theorem dX7_billTells_38 : decode cX7_billTells 38 = .ok (.lreturn, 1) := by decide +kernel
theorem dX7_billTells_39 : decode cX7_billTells 39 = .ok (.ldc2_w 325, 3) := by decide +kernel
theorem dX7_billTells_42 : decode cX7_billTells 42 = .ok (.lreturn, 1) := by decide +kernel
theorem dX7_doLine_0 : decode cX7_doLine 0 = .ok (.aload_n 0, 1) := by decide +kernel
theorem dX7_doLine_1 : decode cX7_doLine 1 = .ok (.getfield 43, 3) := by decide +kernel
theorem dX7_doLine_4 : decode cX7_doLine 4 = .ok (.getfield 340, 3) := by decide +kernel
theorem dX7_doLine_7 : decode cX7_doLine 7 = .ok (.astore_n 1, 1) := by decide +kernel
theorem dX7_doLine_8 : decode cX7_doLine 8 = .ok (.aload_n 0, 1) := by decide +kernel
theorem dX7_doLine_9 : decode cX7_doLine 9 = .ok (.getfield 43, 3) := by decide +kernel
theorem dX7_doLine_12 : decode cX7_doLine 12 = .ok (.getfield 343, 3) := by decide +kernel
theorem dX7_doLine_15 : decode cX7_doLine 15 = .ok (.tableswitch 181 100 119 #[144, 181, 171, 161, 181, 181, 181, 181, 93, 181, 181, 181, 121, 181, 133, 181, 181, 181, 181, 153], 93) := by decide +kernel
theorem dX7_doLine_108 : decode cX7_doLine 108 = .ok (.aload_n 0, 1) := by decide +kernel
theorem dX7_doLine_109 : decode cX7_doLine 109 = .ok (.getfield 10, 3) := by decide +kernel
theorem dX7_doLine_112 : decode cX7_doLine 112 = .ok (.aload_n 1, 1) := by decide +kernel
theorem dX7_doLine_113 : decode cX7_doLine 113 = .ok (.iconst 0, 1) := by decide +kernel
theorem dX7_doLine_114 : decode cX7_doLine 114 = .ok (.iaload, 1) := by decide +kernel
theorem dX7_doLine_115 : decode cX7_doLine 115 = .ok (.i2l, 1) := by decide +kernel
theorem dX7_doLine_116 : decode cX7_doLine 116 = .ok (.aload_n 1, 1) := by decide +kernel
theorem dX7_doLine_117 : decode cX7_doLine 117 = .ok (.iconst 1, 1) := by decide +kernel
theorem dX7_doLine_118 : decode cX7_doLine 118 = .ok (.iaload, 1) := by decide +kernel
theorem dX7_doLine_119 : decode cX7_doLine 119 = .ok (.aload_n 1, 1) := by decide +kernel
theorem dX7_doLine_120 : decode cX7_doLine 120 = .ok (.iconst 2, 1) := by decide +kernel
theorem dX7_doLine_121 : decode cX7_doLine 121 = .ok (.iaload, 1) := by decide +kernel
theorem dX7_doLine_122 : decode cX7_doLine 122 = .ok (.aload_n 1, 1) := by decide +kernel
theorem dX7_doLine_123 : decode cX7_doLine 123 = .ok (.iconst 3, 1) := by decide +kernel
theorem dX7_doLine_124 : decode cX7_doLine 124 = .ok (.iaload, 1) := by decide +kernel
theorem dX7_doLine_125 : decode cX7_doLine 125 = .ok (.aload_n 1, 1) := by decide +kernel
theorem dX7_doLine_126 : decode cX7_doLine 126 = .ok (.iconst 5, 1) := by decide +kernel
theorem dX7_doLine_127 : decode cX7_doLine 127 = .ok (.iaload, 1) := by decide +kernel
theorem dX7_doLine_128 : decode cX7_doLine 128 = .ok (.aload_n 1, 1) := by decide +kernel
theorem dX7_doLine_129 : decode cX7_doLine 129 = .ok (.iconst 4, 1) := by decide +kernel
theorem dX7_doLine_130 : decode cX7_doLine 130 = .ok (.iaload, 1) := by decide +kernel
theorem dX7_doLine_131 : decode cX7_doLine 131 = .ok (.invokevirtual 89, 3) := by decide +kernel
theorem dX7_doLine_134 : decode cX7_doLine 134 = .ok (.i2l, 1) := by decide +kernel
theorem dX7_doLine_135 : decode cX7_doLine 135 = .ok (.lreturn, 1) := by decide +kernel
theorem dX7_doLine_136 : decode cX7_doLine 136 = .ok (.aload_n 0, 1) := by decide +kernel
theorem dX7_doLine_137 : decode cX7_doLine 137 = .ok (.aload_n 1, 1) := by decide +kernel
theorem dX7_doLine_138 : decode cX7_doLine 138 = .ok (.iconst 0, 1) := by decide +kernel
theorem dX7_doLine_139 : decode cX7_doLine 139 = .ok (.iaload, 1) := by decide +kernel
theorem dX7_doLine_140 : decode cX7_doLine 140 = .ok (.aload_n 1, 1) := by decide +kernel
theorem dX7_doLine_141 : decode cX7_doLine 141 = .ok (.iconst 1, 1) := by decide +kernel
theorem dX7_doLine_142 : decode cX7_doLine 142 = .ok (.iaload, 1) := by decide +kernel
theorem dX7_doLine_143 : decode cX7_doLine 143 = .ok (.i2l, 1) := by decide +kernel
theorem dX7_doLine_144 : decode cX7_doLine 144 = .ok (.invokevirtual 346, 3) := by decide +kernel
theorem dX7_doLine_147 : decode cX7_doLine 147 = .ok (.lreturn, 1) := by decide +kernel
theorem dX7_doLine_148 : decode cX7_doLine 148 = .ok (.aload_n 0, 1) := by decide +kernel
theorem dX7_doLine_149 : decode cX7_doLine 149 = .ok (.aload_n 1, 1) := by decide +kernel
theorem dX7_doLine_150 : decode cX7_doLine 150 = .ok (.iconst 0, 1) := by decide +kernel
theorem dX7_doLine_151 : decode cX7_doLine 151 = .ok (.iaload, 1) := by decide +kernel
theorem dX7_doLine_152 : decode cX7_doLine 152 = .ok (.aload_n 1, 1) := by decide +kernel
theorem dX7_doLine_153 : decode cX7_doLine 153 = .ok (.iconst 1, 1) := by decide +kernel
theorem dX7_doLine_154 : decode cX7_doLine 154 = .ok (.iaload, 1) := by decide +kernel
theorem dX7_doLine_155 : decode cX7_doLine 155 = .ok (.invokevirtual 350, 3) := by decide +kernel
theorem dX7_doLine_158 : decode cX7_doLine 158 = .ok (.lreturn, 1) := by decide +kernel
theorem dX7_doLine_159 : decode cX7_doLine 159 = .ok (.aload_n 0, 1) := by decide +kernel
theorem dX7_doLine_160 : decode cX7_doLine 160 = .ok (.aload_n 1, 1) := by decide +kernel
theorem dX7_doLine_161 : decode cX7_doLine 161 = .ok (.iconst 0, 1) := by decide +kernel
theorem dX7_doLine_162 : decode cX7_doLine 162 = .ok (.iaload, 1) := by decide +kernel
theorem dX7_doLine_163 : decode cX7_doLine 163 = .ok (.invokevirtual 353, 3) := by decide +kernel
theorem dX7_doLine_166 : decode cX7_doLine 166 = .ok (.i2l, 1) := by decide +kernel
theorem dX7_doLine_167 : decode cX7_doLine 167 = .ok (.lreturn, 1) := by decide +kernel
theorem dX7_doLine_168 : decode cX7_doLine 168 = .ok (.aload_n 0, 1) := by decide +kernel
theorem dX7_doLine_169 : decode cX7_doLine 169 = .ok (.aload_n 1, 1) := by decide +kernel
theorem dX7_doLine_170 : decode cX7_doLine 170 = .ok (.iconst 0, 1) := by decide +kernel
theorem dX7_doLine_171 : decode cX7_doLine 171 = .ok (.iaload, 1) := by decide +kernel
theorem dX7_doLine_172 : decode cX7_doLine 172 = .ok (.invokevirtual 356, 3) := by decide +kernel
theorem dX7_doLine_175 : decode cX7_doLine 175 = .ok (.lreturn, 1) := by decide +kernel
theorem dX7_doLine_176 : decode cX7_doLine 176 = .ok (.aload_n 0, 1) := by decide +kernel
theorem dX7_doLine_177 : decode cX7_doLine 177 = .ok (.iconst 0, 1) := by decide +kernel
theorem dX7_doLine_178 : decode cX7_doLine 178 = .ok (.aload_n 1, 1) := by decide +kernel
theorem dX7_doLine_179 : decode cX7_doLine 179 = .ok (.iconst 0, 1) := by decide +kernel
theorem dX7_doLine_180 : decode cX7_doLine 180 = .ok (.iaload, 1) := by decide +kernel
theorem dX7_doLine_181 : decode cX7_doLine 181 = .ok (.invokevirtual 359, 3) := by decide +kernel
theorem dX7_doLine_184 : decode cX7_doLine 184 = .ok (.i2l, 1) := by decide +kernel
theorem dX7_doLine_185 : decode cX7_doLine 185 = .ok (.lreturn, 1) := by decide +kernel
theorem dX7_doLine_186 : decode cX7_doLine 186 = .ok (.aload_n 0, 1) := by decide +kernel
theorem dX7_doLine_187 : decode cX7_doLine 187 = .ok (.iconst 1, 1) := by decide +kernel
theorem dX7_doLine_188 : decode cX7_doLine 188 = .ok (.aload_n 1, 1) := by decide +kernel
theorem dX7_doLine_189 : decode cX7_doLine 189 = .ok (.iconst 0, 1) := by decide +kernel
theorem dX7_doLine_190 : decode cX7_doLine 190 = .ok (.iaload, 1) := by decide +kernel
theorem dX7_doLine_191 : decode cX7_doLine 191 = .ok (.invokevirtual 359, 3) := by decide +kernel
theorem dX7_doLine_194 : decode cX7_doLine 194 = .ok (.i2l, 1) := by decide +kernel
theorem dX7_doLine_195 : decode cX7_doLine 195 = .ok (.lreturn, 1) := by decide +kernel
theorem dX7_doLine_196 : decode cX7_doLine 196 = .ok (.ldc2_w 79, 3) := by decide +kernel
theorem dX7_doLine_199 : decode cX7_doLine 199 = .ok (.lreturn, 1) := by decide +kernel
