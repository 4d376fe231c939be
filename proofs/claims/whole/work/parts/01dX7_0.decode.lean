theorem dX7_init_0 : decode cX7_init 0 = .ok (.aload_n 0, 1) := by decide +kernel
theorem dX7_init_1 : decode cX7_init 1 = .ok (.invokespecial 1, 3) := by decide +kernel
theorem dX7_init_4 : decode cX7_init 4 = .ok (.aload_n 0, 1) := by decide +kernel
theorem dX7_init_5 : decode cX7_init 5 = .ok (.new 7, 3) := by decide +kernel
theorem dX7_init_8 : decode cX7_init 8 = .ok (.dup, 1) := by decide +kernel
theorem dX7_init_9 : decode cX7_init 9 = .ok (.invokespecial 9, 3) := by decide +kernel
theorem dX7_init_12 : decode cX7_init 12 = .ok (.putfield 10, 3) := by decide +kernel
theorem dX7_init_15 : decode cX7_init 15 = .ok (.aload_n 0, 1) := by decide +kernel
theorem dX7_init_16 : decode cX7_init 16 = .ok (.new 7, 3) := by decide +kernel
theorem dX7_init_19 : decode cX7_init 19 = .ok (.dup, 1) := by decide +kernel
theorem dX7_init_20 : decode cX7_init 20 = .ok (.invokespecial 9, 3) := by decide +kernel
theorem dX7_init_23 : decode cX7_init 23 = .ok (.putfield 16, 3) := by decide +kernel
theorem dX7_init_26 : decode cX7_init 26 = .ok (.aload_n 0, 1) := by decide +kernel
theorem dX7_init_27 : decode cX7_init 27 = .ok (.new 7, 3) := by decide +kernel
theorem dX7_init_30 : decode cX7_init 30 = .ok (.dup, 1) := by decide +kernel
theorem dX7_init_31 : decode cX7_init 31 = .ok (.invokespecial 9, 3) := by decide +kernel
theorem dX7_init_34 : decode cX7_init 34 = .ok (.putfield 19, 3) := by decide +kernel
theorem dX7_init_37 : decode cX7_init 37 = .ok (.aload_n 0, 1) := by decide +kernel
theorem dX7_init_38 : decode cX7_init 38 = .ok (.iconst 0, 1) := by decide +kernel
theorem dX7_init_39 : decode cX7_init 39 = .ok (.putfield 22, 3) := by decide +kernel
theorem dX7_init_42 : decode cX7_init 42 = .ok (.aload_n 0, 1) := by decide +kernel
theorem dX7_init_43 : decode cX7_init 43 = .ok (.new 26, 3) := by decide +kernel
theorem dX7_init_46 : decode cX7_init 46 = .ok (.dup, 1) := by decide +kernel
theorem dX7_init_47 : decode cX7_init 47 = .ok (.invokespecial 28, 3) := by decide +kernel
theorem dX7_init_50 : decode cX7_init 50 = .ok (.putfield 29, 3) := by decide +kernel
theorem dX7_init_53 : decode cX7_init 53 = .ok (.aload_n 0, 1) := by decide +kernel
theorem dX7_init_54 : decode cX7_init 54 = .ok (.new 33, 3) := by decide +kernel
theorem dX7_init_57 : decode cX7_init 57 = .ok (.dup, 1) := by decide +kernel
theorem dX7_init_58 : decode cX7_init 58 = .ok (.invokespecial 35, 3) := by decide +kernel
theorem dX7_init_61 : decode cX7_init 61 = .ok (.putfield 36, 3) := by decide +kernel
theorem dX7_init_64 : decode cX7_init 64 = .ok (.aload_n 0, 1) := by decide +kernel
theorem dX7_init_65 : decode cX7_init 65 = .ok (.new 40, 3) := by decide +kernel
theorem dX7_init_68 : decode cX7_init 68 = .ok (.dup, 1) := by decide +kernel
theorem dX7_init_69 : decode cX7_init 69 = .ok (.invokespecial 42, 3) := by decide +kernel
theorem dX7_init_72 : decode cX7_init 72 = .ok (.putfield 43, 3) := by decide +kernel
theorem dX7_init_75 : decode cX7_init 75 = .ok (.aload_n 0, 1) := by decide +kernel
theorem dX7_init_76 : decode cX7_init 76 = .ok (.bipush 6, 2) := by decide +kernel
theorem dX7_init_78 : decode cX7_init 78 = .ok (.anewarray 47, 3) := by decide +kernel
theorem dX7_init_81 : decode cX7_init 81 = .ok (.putfield 49, 3) := by decide +kernel
theorem dX7_init_84 : decode cX7_init 84 = .ok (.iconst 0, 1) := by decide +kernel
theorem dX7_init_85 : decode cX7_init 85 = .ok (.istore_n 1, 1) := by decide +kernel
theorem dX7_init_86 : decode cX7_init 86 = .ok (.iload_n 1, 1) := by decide +kernel
theorem dX7_init_87 : decode cX7_init 87 = .ok (.bipush 6, 2) := by decide +kernel
theorem dX7_init_89 : decode cX7_init 89 = .ok (.if_icmp .ge 22, 3) := by decide +kernel
theorem dX7_init_92 : decode cX7_init 92 = .ok (.aload_n 0, 1) := by decide +kernel
theorem dX7_init_93 : decode cX7_init 93 = .ok (.getfield 49, 3) := by decide +kernel
theorem dX7_init_96 : decode cX7_init 96 = .ok (.iload_n 1, 1) := by decide +kernel
theorem dX7_init_97 : decode cX7_init 97 = .ok (.new 47, 3) := by decide +kernel
theorem dX7_init_100 : decode cX7_init 100 = .ok (.dup, 1) := by decide +kernel
theorem dX7_init_101 : decode cX7_init 101 = .ok (.invokespecial 53, 3) := by decide +kernel
theorem dX7_init_104 : decode cX7_init 104 = .ok (.aastore, 1) := by decide +kernel
theorem dX7_init_105 : decode cX7_init 105 = .ok (.iinc 1 1, 3) := by decide +kernel
theorem dX7_init_108 : decode cX7_init 108 = .ok (.goto (-22), 3) := by decide +kernel
theorem dX7_init_111 : decode cX7_init 111 = .ok (.return_, 1) := by decide +kernel
theorem dX7_date_0 : decode cX7_date 0 = .ok (.iload_n 1, 1) := by decide +kernel
theorem dX7_date_1 : decode cX7_date 1 = .ok (.invokestatic 54, 3) := by decide +kernel
theorem dX7_date_4 : decode cX7_date 4 = .ok (.ifCond .ne 5, 3) := by decide +kernel
theorem dX7_date_7 : decode cX7_date 7 = .ok (.iconst (-1), 1) := by decide +kernel
theorem dX7_date_8 : decode cX7_date 8 = .ok (.ireturn, 1) := by decide +kernel
theorem dX7_date_9 : decode cX7_date 9 = .ok (.iload_n 1, 1) := by decide +kernel
theorem dX7_date_10 : decode cX7_date 10 = .ok (.invokestatic 58, 3) := by decide +kernel
theorem dX7_date_13 : decode cX7_date 13 = .ok (.istore_n 3, 1) := by decide +kernel
theorem dX7_date_14 : decode cX7_date 14 = .ok (.iload_n 2, 1) := by decide +kernel
theorem dX7_date_15 : decode cX7_date 15 = .ok (.tableswitch 69 0 3 #[29, 38, 45, 54], 29) := by decide +kernel
theorem dX7_date_44 : decode cX7_date 44 = .ok (.sipush 2000, 3) := by decide +kernel
theorem dX7_date_47 : decode cX7_date 47 = .ok (.iload_n 3, 1) := by decide +kernel
theorem dX7_date_48 : decode cX7_date 48 = .ok (.bipush 12, 2) := by decide +kernel
theorem dX7_date_50 : decode cX7_date 50 = .ok (.idiv, 1) := by decide +kernel
theorem dX7_date_51 : decode cX7_date 51 = .ok (.iadd, 1) := by decide +kernel
theorem dX7_date_52 : decode cX7_date 52 = .ok (.ireturn, 1) := by decide +kernel
theorem dX7_date_53 : decode cX7_date 53 = .ok (.iconst 1, 1) := by decide +kernel
theorem dX7_date_54 : decode cX7_date 54 = .ok (.iload_n 3, 1) := by decide +kernel
theorem dX7_date_55 : decode cX7_date 55 = .ok (.bipush 12, 2) := by decide +kernel
theorem dX7_date_57 : decode cX7_date 57 = .ok (.irem, 1) := by decide +kernel
theorem dX7_date_58 : decode cX7_date 58 = .ok (.iadd, 1) := by decide +kernel
theorem dX7_date_59 : decode cX7_date 59 = .ok (.ireturn, 1) := by decide +kernel
theorem dX7_date_60 : decode cX7_date 60 = .ok (.iconst 1, 1) := by decide +kernel
theorem dX7_date_61 : decode cX7_date 61 = .ok (.iload_n 1, 1) := by decide +kernel
theorem dX7_date_62 : decode cX7_date 62 = .ok (.iadd, 1) := by decide +kernel
theorem dX7_date_63 : decode cX7_date 63 = .ok (.iload_n 3, 1) := by decide +kernel
theorem dX7_date_64 : decode cX7_date 64 = .ok (.invokestatic 64, 3) := by decide +kernel
theorem dX7_date_67 : decode cX7_date 67 = .ok (.isub, 1) := by decide +kernel
theorem dX7_date_68 : decode cX7_date 68 = .ok (.ireturn, 1) := by decide +kernel
theorem dX7_date_69 : decode cX7_date 69 = .ok (.iload_n 3, 1) := by decide +kernel
theorem dX7_date_70 : decode cX7_date 70 = .ok (.bipush 12, 2) := by decide +kernel
theorem dX7_date_72 : decode cX7_date 72 = .ok (.idiv, 1) := by decide +kernel
theorem dX7_date_73 : decode cX7_date 73 = .ok (.iconst 4, 1) := by decide +kernel
theorem dX7_date_74 : decode cX7_date 74 = .ok (.irem, 1) := by decide +kernel
theorem dX7_date_75 : decode cX7_date 75 = .ok (.ifCond .ne 7, 3) := by decide +kernel
theorem dX7_date_78 : decode cX7_date 78 = .ok (.iconst 1, 1) := by decide +kernel
theorem dX7_date_79 : decode cX7_date 79 = .ok (.goto 4, 3) := by decide +kernel
theorem dX7_date_82 : decode cX7_date 82 = .ok (.iconst 0, 1) := by decide +kernel
theorem dX7_date_83 : decode cX7_date 83 = .ok (.ireturn, 1) := by decide +kernel
theorem dX7_date_84 : decode cX7_date 84 = .ok (.iconst (-1), 1) := by decide +kernel
theorem dX7_date_85 : decode cX7_date 85 = .ok (.ireturn, 1) := by decide +kernel
theorem dX7_dayOf_0 : decode cX7_dayOf 0 = .ok (.iload_n 1, 1) := by decide +kernel
theorem dX7_dayOf_1 : decode cX7_dayOf 1 = .ok (.sipush 2000, 3) := by decide +kernel
theorem dX7_dayOf_4 : decode cX7_dayOf 4 = .ok (.sipush 2099, 3) := by decide +kernel
theorem dX7_dayOf_7 : decode cX7_dayOf 7 = .ok (.invokestatic 67, 3) := by decide +kernel
theorem dX7_dayOf_10 : decode cX7_dayOf 10 = .ok (.ifCond .eq 13, 3) := by decide +kernel
theorem dX7_dayOf_13 : decode cX7_dayOf 13 = .ok (.iload_n 2, 1) := by decide +kernel
theorem dX7_dayOf_14 : decode cX7_dayOf 14 = .ok (.iconst 1, 1) := by decide +kernel
theorem dX7_dayOf_15 : decode cX7_dayOf 15 = .ok (.bipush 12, 2) := by decide +kernel
theorem dX7_dayOf_17 : decode cX7_dayOf 17 = .ok (.invokestatic 67, 3) := by decide +kernel
theorem dX7_dayOf_20 : decode cX7_dayOf 20 = .ok (.ifCond .ne 5, 3) := by decide +kernel
theorem dX7_dayOf_23 : decode cX7_dayOf 23 = .ok (.iconst (-1), 1) := by decide +kernel
theorem dX7_dayOf_24 : decode cX7_dayOf 24 = .ok (.ireturn, 1) := by decide +kernel
theorem dX7_dayOf_25 : decode cX7_dayOf 25 = .ok (.iload_n 1, 1) := by decide +kernel
theorem dX7_dayOf_26 : decode cX7_dayOf 26 = .ok (.sipush 2000, 3) := by decide +kernel
theorem dX7_dayOf_29 : decode cX7_dayOf 29 = .ok (.isub, 1) := by decide +kernel
theorem dX7_dayOf_30 : decode cX7_dayOf 30 = .ok (.bipush 12, 2) := by decide +kernel
theorem dX7_dayOf_32 : decode cX7_dayOf 32 = .ok (.imul, 1) := by decide +kernel
theorem dX7_dayOf_33 : decode cX7_dayOf 33 = .ok (.iload_n 2, 1) := by decide +kernel
theorem dX7_dayOf_34 : decode cX7_dayOf 34 = .ok (.iadd, 1) := by decide +kernel
theorem dX7_dayOf_35 : decode cX7_dayOf 35 = .ok (.iconst 1, 1) := by decide +kernel
theorem dX7_dayOf_36 : decode cX7_dayOf 36 = .ok (.isub, 1) := by decide +kernel
theorem dX7_dayOf_37 : decode cX7_dayOf 37 = .ok (.istore 4, 2) := by decide +kernel
theorem dX7_dayOf_39 : decode cX7_dayOf 39 = .ok (.iload_n 3, 1) := by decide +kernel
theorem dX7_dayOf_40 : decode cX7_dayOf 40 = .ok (.iconst 1, 1) := by decide +kernel
theorem dX7_dayOf_41 : decode cX7_dayOf 41 = .ok (.iload 4, 2) := by decide +kernel
theorem dX7_dayOf_43 : decode cX7_dayOf 43 = .ok (.invokestatic 71, 3) := by decide +kernel
theorem dX7_dayOf_46 : decode cX7_dayOf 46 = .ok (.invokestatic 67, 3) := by decide +kernel
theorem dX7_dayOf_49 : decode cX7_dayOf 49 = .ok (.ifCond .eq 15, 3) := by decide +kernel
theorem dX7_dayOf_52 : decode cX7_dayOf 52 = .ok (.iload 4, 2) := by decide +kernel
theorem dX7_dayOf_54 : decode cX7_dayOf 54 = .ok (.invokestatic 64, 3) := by decide +kernel
theorem dX7_dayOf_57 : decode cX7_dayOf 57 = .ok (.iload_n 3, 1) := by decide +kernel
theorem dX7_dayOf_58 : decode cX7_dayOf 58 = .ok (.iadd, 1) := by decide +kernel
theorem dX7_dayOf_59 : decode cX7_dayOf 59 = .ok (.iconst 1, 1) := by decide +kernel
theorem dX7_dayOf_60 : decode cX7_dayOf 60 = .ok (.isub, 1) := by decide +kernel
theorem dX7_dayOf_61 : decode cX7_dayOf 61 = .ok (.goto 4, 3) := by decide +kernel
theorem dX7_dayOf_64 : decode cX7_dayOf 64 = .ok (.iconst (-1), 1) := by decide +kernel
theorem dX7_dayOf_65 : decode cX7_dayOf 65 = .ok (.ireturn, 1) := by decide +kernel
theorem dX7_interest_0 : decode cX7_interest 0 = .ok (.lload_n 1, 1) := by decide +kernel
theorem dX7_interest_1 : decode cX7_interest 1 = .ok (.lconst 0, 1) := by decide +kernel
theorem dX7_interest_2 : decode cX7_interest 2 = .ok (.lcmp, 1) := by decide +kernel
theorem dX7_interest_3 : decode cX7_interest 3 = .ok (.ifCond .lt 28, 3) := by decide +kernel
theorem dX7_interest_6 : decode cX7_interest 6 = .ok (.lload_n 1, 1) := by decide +kernel
theorem dX7_interest_7 : decode cX7_interest 7 = .ok (.ldc2_w 74, 3) := by decide +kernel
theorem dX7_interest_10 : decode cX7_interest 10 = .ok (.lcmp, 1) := by decide +kernel
theorem dX7_interest_11 : decode cX7_interest 11 = .ok (.ifCond .gt 20, 3) := by decide +kernel
theorem dX7_interest_14 : decode cX7_interest 14 = .ok (.iload_n 3, 1) := by decide +kernel
theorem dX7_interest_15 : decode cX7_interest 15 = .ok (.invokestatic 76, 3) := by decide +kernel
theorem dX7_interest_18 : decode cX7_interest 18 = .ok (.ifCond .eq 13, 3) := by decide +kernel
theorem dX7_interest_21 : decode cX7_interest 21 = .ok (.iload 4, 2) := by decide +kernel
theorem dX7_interest_23 : decode cX7_interest 23 = .ok (.iconst 0, 1) := by decide +kernel
theorem dX7_interest_24 : decode cX7_interest 24 = .ok (.iconst 3, 1) := by decide +kernel
theorem dX7_interest_25 : decode cX7_interest 25 = .ok (.invokestatic 67, 3) := by decide +kernel
theorem dX7_interest_28 : decode cX7_interest 28 = .ok (.ifCond .ne 7, 3) := by decide +kernel
theorem dX7_interest_31 : decode cX7_interest 31 = .ok (.ldc2_w 79, 3) := by decide +kernel
theorem dX7_interest_34 : decode cX7_interest 34 = .ok (.lreturn, 1) := by decide +kernel
theorem dX7_interest_35 : decode cX7_interest 35 = .ok (.iload 5, 2) := by decide +kernel
theorem dX7_interest_37 : decode cX7_interest 37 = .ok (.invokestatic 54, 3) := by decide +kernel
theorem dX7_interest_40 : decode cX7_interest 40 = .ok (.ifCond .eq 18, 3) := by decide +kernel
theorem dX7_interest_43 : decode cX7_interest 43 = .ok (.iload 6, 2) := by decide +kernel
theorem dX7_interest_45 : decode cX7_interest 45 = .ok (.invokestatic 54, 3) := by decide +kernel
theorem dX7_interest_48 : decode cX7_interest 48 = .ok (.ifCond .eq 10, 3) := by decide +kernel
theorem dX7_interest_51 : decode cX7_interest 51 = .ok (.iload 6, 2) := by decide +kernel
theorem dX7_interest_53 : decode cX7_interest 53 = .ok (.iload 5, 2) := by decide +kernel
theorem dX7_interest_55 : decode cX7_interest 55 = .ok (.if_icmp .ge 7, 3) := by decide +kernel
theorem dX7_interest_58 : decode cX7_interest 58 = .ok (.ldc2_w 79, 3) := by decide +kernel
theorem dX7_interest_61 : decode cX7_interest 61 = .ok (.lreturn, 1) := by decide +kernel
theorem dX7_interest_62 : decode cX7_interest 62 = .ok (.lload_n 1, 1) := by decide +kernel
theorem dX7_interest_63 : decode cX7_interest 63 = .ok (.iload_n 3, 1) := by decide +kernel
theorem dX7_interest_64 : decode cX7_interest 64 = .ok (.i2l, 1) := by decide +kernel
theorem dX7_interest_65 : decode cX7_interest 65 = .ok (.lmul, 1) := by decide +kernel
theorem dX7_interest_66 : decode cX7_interest 66 = .ok (.iload 4, 2) := by decide +kernel
theorem dX7_interest_68 : decode cX7_interest 68 = .ok (.iload 4, 2) := by decide +kernel
theorem dX7_interest_70 : decode cX7_interest 70 = .ok (.iload 5, 2) := by decide +kernel
theorem dX7_interest_72 : decode cX7_interest 72 = .ok (.iload 6, 2) := by decide +kernel
theorem dX7_interest_74 : decode cX7_interest 74 = .ok (.invokestatic 81, 3) := by decide +kernel
theorem dX7_interest_77 : decode cX7_interest 77 = .ok (.invokestatic 85, 3) := by decide +kernel
theorem dX7_interest_80 : decode cX7_interest 80 = .ok (.lreturn, 1) := by decide +kernel
theorem dX7_loan_0 : decode cX7_loan 0 = .ok (.aload_n 0, 1) := by decide +kernel
theorem dX7_loan_1 : decode cX7_loan 1 = .ok (.getfield 10, 3) := by decide +kernel
theorem dX7_loan_4 : decode cX7_loan 4 = .ok (.lload_n 1, 1) := by decide +kernel
theorem dX7_loan_5 : decode cX7_loan 5 = .ok (.iload_n 3, 1) := by decide +kernel
theorem dX7_loan_6 : decode cX7_loan 6 = .ok (.iload 4, 2) := by decide +kernel
theorem dX7_loan_8 : decode cX7_loan 8 = .ok (.iload 5, 2) := by decide +kernel
theorem dX7_loan_10 : decode cX7_loan 10 = .ok (.sipush 1000, 3) := by decide +kernel
theorem dX7_loan_13 : decode cX7_loan 13 = .ok (.idiv, 1) := by decide +kernel
theorem dX7_loan_14 : decode cX7_loan 14 = .ok (.iload 5, 2) := by decide +kernel
theorem dX7_loan_16 : decode cX7_loan 16 = .ok (.bipush 100, 2) := by decide +kernel
theorem dX7_loan_18 : decode cX7_loan 18 = .ok (.idiv, 1) := by decide +kernel
theorem dX7_loan_19 : decode cX7_loan 19 = .ok (.bipush 10, 2) := by decide +kernel
theorem dX7_loan_21 : decode cX7_loan 21 = .ok (.irem, 1) := by decide +kernel
theorem dX7_loan_22 : decode cX7_loan 22 = .ok (.iload 5, 2) := by decide +kernel
theorem dX7_loan_24 : decode cX7_loan 24 = .ok (.bipush 100, 2) := by decide +kernel
theorem dX7_loan_26 : decode cX7_loan 26 = .ok (.irem, 1) := by decide +kernel
theorem dX7_loan_27 : decode cX7_loan 27 = .ok (.invokevirtual 89, 3) := by decide +kernel
theorem dX7_loan_30 : decode cX7_loan 30 = .ok (.ireturn, 1) := by decide +kernel
theorem dX7_days_0 : decode cX7_days 0 = .ok (.iload_n 1, 1) := by decide +kernel
theorem dX7_days_1 : decode cX7_days 1 = .ok (.iconst 1, 1) := by decide +kernel
theorem dX7_days_2 : decode cX7_days 2 = .ok (.sipush 4000, 3) := by decide +kernel
theorem dX7_days_5 : decode cX7_days 5 = .ok (.invokestatic 67, 3) := by decide +kernel
theorem dX7_days_8 : decode cX7_days 8 = .ok (.ifCond .ne 5, 3) := by decide +kernel
theorem dX7_days_11 : decode cX7_days 11 = .ok (.iconst (-1), 1) := by decide +kernel
theorem dX7_days_12 : decode cX7_days 12 = .ok (.ireturn, 1) := by decide +kernel
theorem dX7_days_13 : decode cX7_days 13 = .ok (.aload_n 0, 1) := by decide +kernel
theorem dX7_days_14 : decode cX7_days 14 = .ok (.getfield 10, 3) := by decide +kernel
theorem dX7_days_17 : decode cX7_days 17 = .ok (.getfield 93, 3) := by decide +kernel
theorem dX7_days_20 : decode cX7_days 20 = .ok (.iload_n 1, 1) := by decide +kernel
theorem dX7_days_21 : decode cX7_days 21 = .ok (.iadd, 1) := by decide +kernel
theorem dX7_days_22 : decode cX7_days 22 = .ok (.ldc 97, 2) := by decide +kernel
theorem dX7_days_24 : decode cX7_days 24 = .ok (.if_icmp .le 8, 3) := by decide +kernel
theorem dX7_days_27 : decode cX7_days 27 = .ok (.bipush (-5), 2) := by decide +kernel
theorem dX7_days_29 : decode cX7_days 29 = .ok (.goto 11, 3) := by decide +kernel
theorem dX7_days_32 : decode cX7_days 32 = .ok (.aload_n 0, 1) := by decide +kernel
theorem dX7_days_33 : decode cX7_days 33 = .ok (.getfield 10, 3) := by decide +kernel
theorem dX7_days_36 : decode cX7_days 36 = .ok (.iload_n 1, 1) := by decide +kernel
theorem dX7_days_37 : decode cX7_days 37 = .ok (.invokevirtual 98, 3) := by decide +kernel
theorem dX7_days_40 : decode cX7_days 40 = .ok (.ireturn, 1) := by decide +kernel
theorem dX7_pay_0 : decode cX7_pay 0 = .ok (.aload_n 0, 1) := by decide +kernel
theorem dX7_pay_1 : decode cX7_pay 1 = .ok (.getfield 10, 3) := by decide +kernel
theorem dX7_pay_4 : decode cX7_pay 4 = .ok (.iload_n 1, 1) := by decide +kernel
theorem dX7_pay_5 : decode cX7_pay 5 = .ok (.invokevirtual 101, 3) := by decide +kernel
theorem dX7_pay_8 : decode cX7_pay 8 = .ok (.ifCond .eq 10, 3) := by decide +kernel
theorem dX7_pay_11 : decode cX7_pay 11 = .ok (.lload_n 2, 1) := by decide +kernel
theorem dX7_pay_12 : decode cX7_pay 12 = .ok (.invokestatic 104, 3) := by decide +kernel
theorem dX7_pay_15 : decode cX7_pay 15 = .ok (.ifCond .ne 7, 3) := by decide +kernel
theorem dX7_pay_18 : decode cX7_pay 18 = .ok (.ldc2_w 79, 3) := by decide +kernel
theorem dX7_pay_21 : decode cX7_pay 21 = .ok (.lreturn, 1) := by decide +kernel
theorem dX7_pay_22 : decode cX7_pay 22 = .ok (.aload_n 0, 1) := by decide +kernel
theorem dX7_pay_23 : decode cX7_pay 23 = .ok (.getfield 10, 3) := by decide +kernel
theorem dX7_pay_26 : decode cX7_pay 26 = .ok (.getfield 108, 3) := by decide +kernel
theorem dX7_pay_29 : decode cX7_pay 29 = .ok (.iload_n 1, 1) := by decide +kernel
theorem dX7_pay_30 : decode cX7_pay 30 = .ok (.aaload, 1) := by decide +kernel
theorem dX7_pay_31 : decode cX7_pay 31 = .ok (.lload_n 2, 1) := by decide +kernel
theorem dX7_pay_32 : decode cX7_pay 32 = .ok (.invokevirtual 112, 3) := by decide +kernel
theorem dX7_pay_35 : decode cX7_pay 35 = .ok (.lreturn, 1) := by decide +kernel
theorem dX7_reset_0 : decode cX7_reset 0 = .ok (.aload_n 0, 1) := by decide +kernel
theorem dX7_reset_1 : decode cX7_reset 1 = .ok (.getfield 10, 3) := by decide +kernel
theorem dX7_reset_4 : decode cX7_reset 4 = .ok (.iload_n 1, 1) := by decide +kernel
theorem dX7_reset_5 : decode cX7_reset 5 = .ok (.invokevirtual 101, 3) := by decide +kernel
theorem dX7_reset_8 : decode cX7_reset 8 = .ok (.ifCond .eq 10, 3) := by decide +kernel
theorem dX7_reset_11 : decode cX7_reset 11 = .ok (.iload_n 2, 1) := by decide +kernel
theorem dX7_reset_12 : decode cX7_reset 12 = .ok (.invokestatic 76, 3) := by decide +kernel
theorem dX7_reset_15 : decode cX7_reset 15 = .ok (.ifCond .ne 7, 3) := by decide +kernel
theorem dX7_reset_18 : decode cX7_reset 18 = .ok (.ldc2_w 79, 3) := by decide +kernel
theorem dX7_reset_21 : decode cX7_reset 21 = .ok (.lreturn, 1) := by decide +kernel
theorem dX7_reset_22 : decode cX7_reset 22 = .ok (.aload_n 0, 1) := by decide +kernel
theorem dX7_reset_23 : decode cX7_reset 23 = .ok (.getfield 10, 3) := by decide +kernel
theorem dX7_reset_26 : decode cX7_reset 26 = .ok (.getfield 108, 3) := by decide +kernel
theorem dX7_reset_29 : decode cX7_reset 29 = .ok (.iload_n 1, 1) := by decide +kernel
theorem dX7_reset_30 : decode cX7_reset 30 = .ok (.aaload, 1) := by decide +kernel
theorem dX7_reset_31 : decode cX7_reset 31 = .ok (.astore_n 3, 1) := by decide +kernel
theorem dX7_reset_32 : decode cX7_reset 32 = .ok (.aload_n 3, 1) := by decide +kernel
theorem dX7_reset_33 : decode cX7_reset 33 = .ok (.iload_n 2, 1) := by decide +kernel
theorem dX7_reset_34 : decode cX7_reset 34 = .ok (.putfield 116, 3) := by decide +kernel
theorem dX7_reset_37 : decode cX7_reset 37 = .ok (.aload_n 3, 1) := by decide +kernel
theorem dX7_reset_38 : decode cX7_reset 38 = .ok (.invokevirtual 119, 3) := by decide +kernel
theorem dX7_reset_41 : decode cX7_reset 41 = .ok (.aload_n 3, 1) := by decide +kernel
theorem dX7_reset_42 : decode cX7_reset 42 = .ok (.getfield 122, 3) := by decide +kernel
theorem dX7_reset_45 : decode cX7_reset 45 = .ok (.lreturn, 1) := by decide +kernel
theorem dX7_writeOff_0 : decode cX7_writeOff 0 = .ok (.aload_n 0, 1) := by decide +kernel
theorem dX7_writeOff_1 : decode cX7_writeOff 1 = .ok (.getfield 10, 3) := by decide +kernel
theorem dX7_writeOff_4 : decode cX7_writeOff 4 = .ok (.iload_n 1, 1) := by decide +kernel
theorem dX7_writeOff_5 : decode cX7_writeOff 5 = .ok (.invokevirtual 101, 3) := by decide +kernel
theorem dX7_writeOff_8 : decode cX7_writeOff 8 = .ok (.ifCond .ne 7, 3) := by decide +kernel
theorem dX7_writeOff_11 : decode cX7_writeOff 11 = .ok (.ldc2_w 79, 3) := by decide +kernel
theorem dX7_writeOff_14 : decode cX7_writeOff 14 = .ok (.lreturn, 1) := by decide +kernel
theorem dX7_writeOff_15 : decode cX7_writeOff 15 = .ok (.aload_n 0, 1) := by decide +kernel
theorem dX7_writeOff_16 : decode cX7_writeOff 16 = .ok (.getfield 10, 3) := by decide +kernel
theorem dX7_writeOff_19 : decode cX7_writeOff 19 = .ok (.getfield 108, 3) := by decide +kernel
theorem dX7_writeOff_22 : decode cX7_writeOff 22 = .ok (.iload_n 1, 1) := by decide +kernel
theorem dX7_writeOff_23 : decode cX7_writeOff 23 = .ok (.aaload, 1) := by decide +kernel
theorem dX7_writeOff_24 : decode cX7_writeOff 24 = .ok (.astore_n 2, 1) := by decide +kernel
theorem dX7_writeOff_25 : decode cX7_writeOff 25 = .ok (.aload_n 2, 1) := by decide +kernel
theorem dX7_writeOff_26 : decode cX7_writeOff 26 = .ok (.invokevirtual 126, 3) := by decide +kernel
theorem dX7_writeOff_29 : decode cX7_writeOff 29 = .ok (.ifCond .eq 9, 3) := by decide +kernel
theorem dX7_writeOff_32 : decode cX7_writeOff 32 = .ok (.ldc2_w 130, 3) := by decide +kernel
theorem dX7_writeOff_35 : decode cX7_writeOff 35 = .ok (.goto 7, 3) := by decide +kernel
theorem dX7_writeOff_38 : decode cX7_writeOff 38 = .ok (.aload_n 2, 1) := by decide +kernel
theorem dX7_writeOff_39 : decode cX7_writeOff 39 = .ok (.invokevirtual 132, 3) := by decide +kernel
theorem dX7_writeOff_42 : decode cX7_writeOff 42 = .ok (.lreturn, 1) := by decide +kernel
theorem dX7_rule_0 : decode cX7_rule 0 = .ok (.iload_n 1, 1) := by decide +kernel
theorem dX7_rule_1 : decode cX7_rule 1 = .ok (.ifCond .ne 32, 3) := by decide +kernel
theorem dX7_rule_4 : decode cX7_rule 4 = .ok (.iload_n 2, 1) := by decide +kernel
theorem dX7_rule_5 : decode cX7_rule 5 = .ok (.iconst 0, 1) := by decide +kernel
theorem dX7_rule_6 : decode cX7_rule 6 = .ok (.bipush 90, 2) := by decide +kernel
theorem dX7_rule_8 : decode cX7_rule 8 = .ok (.invokestatic 67, 3) := by decide +kernel
theorem dX7_rule_11 : decode cX7_rule 11 = .ok (.ifCond .eq 22, 3) := by decide +kernel
theorem dX7_rule_14 : decode cX7_rule 14 = .ok (.aload_n 0, 1) := by decide +kernel
theorem dX7_rule_15 : decode cX7_rule 15 = .ok (.getfield 10, 3) := by decide +kernel
theorem dX7_rule_18 : decode cX7_rule 18 = .ok (.getfield 136, 3) := by decide +kernel
theorem dX7_rule_21 : decode cX7_rule 21 = .ok (.istore_n 3, 1) := by decide +kernel
theorem dX7_rule_22 : decode cX7_rule 22 = .ok (.aload_n 0, 1) := by decide +kernel
theorem dX7_rule_23 : decode cX7_rule 23 = .ok (.getfield 10, 3) := by decide +kernel
theorem dX7_rule_26 : decode cX7_rule 26 = .ok (.iload_n 2, 1) := by decide +kernel
theorem dX7_rule_27 : decode cX7_rule 27 = .ok (.putfield 136, 3) := by decide +kernel
theorem dX7_rule_30 : decode cX7_rule 30 = .ok (.goto 40, 3) := by decide +kernel
theorem dX7_rule_33 : decode cX7_rule 33 = .ok (.iload_n 1, 1) := by decide +kernel
theorem dX7_rule_34 : decode cX7_rule 34 = .ok (.iconst 1, 1) := by decide +kernel
theorem dX7_rule_35 : decode cX7_rule 35 = .ok (.if_icmp .ne 33, 3) := by decide +kernel
theorem dX7_rule_38 : decode cX7_rule 38 = .ok (.iload_n 2, 1) := by decide +kernel
theorem dX7_rule_39 : decode cX7_rule 39 = .ok (.iconst 0, 1) := by decide +kernel
theorem dX7_rule_40 : decode cX7_rule 40 = .ok (.sipush 10000, 3) := by decide +kernel
theorem dX7_rule_43 : decode cX7_rule 43 = .ok (.invokestatic 67, 3) := by decide +kernel
theorem dX7_rule_46 : decode cX7_rule 46 = .ok (.ifCond .eq 22, 3) := by decide +kernel
theorem dX7_rule_49 : decode cX7_rule 49 = .ok (.aload_n 0, 1) := by decide +kernel
theorem dX7_rule_50 : decode cX7_rule 50 = .ok (.getfield 10, 3) := by decide +kernel
theorem dX7_rule_53 : decode cX7_rule 53 = .ok (.getfield 139, 3) := by decide +kernel
theorem dX7_rule_56 : decode cX7_rule 56 = .ok (.istore_n 3, 1) := by decide +kernel
theorem dX7_rule_57 : decode cX7_rule 57 = .ok (.aload_n 0, 1) := by decide +kernel
theorem dX7_rule_58 : decode cX7_rule 58 = .ok (.getfield 10, 3) := by decide +kernel
theorem dX7_rule_61 : decode cX7_rule 61 = .ok (.iload_n 2, 1) := by decide +kernel
theorem dX7_rule_62 : decode cX7_rule 62 = .ok (.putfield 139, 3) := by decide +kernel
theorem dX7_rule_65 : decode cX7_rule 65 = .ok (.goto 5, 3) := by decide +kernel
theorem dX7_rule_68 : decode cX7_rule 68 = .ok (.iconst (-1), 1) := by decide +kernel
theorem dX7_rule_69 : decode cX7_rule 69 = .ok (.istore_n 3, 1) := by decide +kernel
theorem dX7_rule_70 : decode cX7_rule 70 = .ok (.iload_n 3, 1) := by decide +kernel
theorem dX7_rule_71 : decode cX7_rule 71 = .ok (.ireturn, 1) := by decide +kernel
theorem dX7_of_0 : decode cX7_of 0 = .ok (.aload_n 0, 1) := by decide +kernel
theorem dX7_of_1 : decode cX7_of 1 = .ok (.getfield 10, 3) := by decide +kernel
theorem dX7_of_4 : decode cX7_of 4 = .ok (.iload_n 1, 1) := by decide +kernel
theorem dX7_of_5 : decode cX7_of 5 = .ok (.invokevirtual 101, 3) := by decide +kernel
theorem dX7_of_8 : decode cX7_of 8 = .ok (.ifCond .ne 5, 3) := by decide +kernel
theorem dX7_of_11 : decode cX7_of 11 = .ok (.iconst (-1), 1) := by decide +kernel
theorem dX7_of_12 : decode cX7_of 12 = .ok (.ireturn, 1) := by decide +kernel
theorem dX7_of_13 : decode cX7_of 13 = .ok (.aload_n 0, 1) := by decide +kernel
theorem dX7_of_14 : decode cX7_of 14 = .ok (.getfield 10, 3) := by decide +kernel
theorem dX7_of_17 : decode cX7_of 17 = .ok (.getfield 108, 3) := by decide +kernel
theorem dX7_of_20 : decode cX7_of 20 = .ok (.iload_n 1, 1) := by decide +kernel
theorem dX7_of_21 : decode cX7_of 21 = .ok (.aaload, 1) := by decide +kernel
theorem dX7_of_22 : decode cX7_of 22 = .ok (.astore_n 3, 1) := by decide +kernel
theorem dX7_of_23 : decode cX7_of 23 = .ok (.iload_n 2, 1) := by decide +kernel
theorem dX7_of_24 : decode cX7_of 24 = .ok (.tableswitch 138 0 9 #[56, 61, 66, 71, 76, 81, 88, 93, 98, 110], 56) := by decide +kernel
theorem dX7_of_80 : decode cX7_of 80 = .ok (.aload_n 3, 1) := by decide +kernel
theorem dX7_of_81 : decode cX7_of 81 = .ok (.getfield 116, 3) := by decide +kernel
theorem dX7_of_84 : decode cX7_of 84 = .ok (.ireturn, 1) := by decide +kernel
theorem dX7_of_85 : decode cX7_of 85 = .ok (.aload_n 3, 1) := by decide +kernel
theorem dX7_of_86 : decode cX7_of 86 = .ok (.getfield 142, 3) := by decide +kernel
theorem dX7_of_89 : decode cX7_of 89 = .ok (.ireturn, 1) := by decide +kernel
theorem dX7_of_90 : decode cX7_of 90 = .ok (.aload_n 3, 1) := by decide +kernel
theorem dX7_of_91 : decode cX7_of 91 = .ok (.getfield 145, 3) := by decide +kernel
theorem dX7_of_94 : decode cX7_of 94 = .ok (.ireturn, 1) := by decide +kernel
theorem dX7_of_95 : decode cX7_of 95 = .ok (.aload_n 3, 1) := by decide +kernel
theorem dX7_of_96 : decode cX7_of 96 = .ok (.getfield 148, 3) := by decide +kernel
theorem dX7_of_99 : decode cX7_of 99 = .ok (.ireturn, 1) := by decide +kernel
theorem dX7_of_100 : decode cX7_of 100 = .ok (.aload_n 3, 1) := by decide +kernel
theorem dX7_of_101 : decode cX7_of 101 = .ok (.getfield 151, 3) := by decide +kernel
theorem dX7_of_104 : decode cX7_of 104 = .ok (.ireturn, 1) := by decide +kernel
theorem dX7_of_105 : decode cX7_of 105 = .ok (.aload_n 3, 1) := by decide +kernel
theorem dX7_of_106 : decode cX7_of 106 = .ok (.getfield 154, 3) := by decide +kernel
theorem dX7_of_109 : decode cX7_of 109 = .ok (.iconst 0, 1) := by decide +kernel
theorem dX7_of_110 : decode cX7_of 110 = .ok (.iaload, 1) := by decide +kernel
theorem dX7_of_111 : decode cX7_of 111 = .ok (.ireturn, 1) := by decide +kernel
theorem dX7_of_112 : decode cX7_of 112 = .ok (.aload_n 3, 1) := by decide +kernel
theorem dX7_of_113 : decode cX7_of 113 = .ok (.getfield 158, 3) := by decide +kernel
theorem dX7_of_116 : decode cX7_of 116 = .ok (.ireturn, 1) := by decide +kernel
theorem dX7_of_117 : decode cX7_of 117 = .ok (.aload_n 3, 1) := by decide +kernel
theorem dX7_of_118 : decode cX7_of 118 = .ok (.invokevirtual 161, 3) := by decide +kernel
theorem dX7_of_121 : decode cX7_of 121 = .ok (.ireturn, 1) := by decide +kernel
theorem dX7_of_122 : decode cX7_of 122 = .ok (.aload_n 3, 1) := by decide +kernel
theorem dX7_of_123 : decode cX7_of 123 = .ok (.aload_n 0, 1) := by decide +kernel
theorem dX7_of_124 : decode cX7_of 124 = .ok (.getfield 10, 3) := by decide +kernel
theorem dX7_of_127 : decode cX7_of 127 = .ok (.getfield 93, 3) := by decide +kernel
theorem dX7_of_130 : decode cX7_of 130 = .ok (.invokevirtual 165, 3) := by decide +kernel
theorem dX7_of_133 : decode cX7_of 133 = .ok (.ireturn, 1) := by decide +kernel
theorem dX7_of_134 : decode cX7_of 134 = .ok (.aload_n 3, 1) := by decide +kernel
theorem dX7_of_135 : decode cX7_of 135 = .ok (.getfield 158, 3) := by decide +kernel
theorem dX7_of_138 : decode cX7_of 138 = .ok (.aload_n 3, 1) := by decide +kernel
theorem dX7_of_139 : decode cX7_of 139 = .ok (.getfield 148, 3) := by decide +kernel
theorem dX7_of_142 : decode cX7_of 142 = .ok (.if_icmp .ge 17, 3) := by decide +kernel
theorem dX7_of_145 : decode cX7_of 145 = .ok (.aload_n 3, 1) := by decide +kernel
theorem dX7_of_146 : decode cX7_of 146 = .ok (.getfield 154, 3) := by decide +kernel
theorem dX7_of_149 : decode cX7_of 149 = .ok (.aload_n 3, 1) := by decide +kernel
theorem dX7_of_150 : decode cX7_of 150 = .ok (.getfield 158, 3) := by decide +kernel
theorem dX7_of_153 : decode cX7_of 153 = .ok (.iconst 1, 1) := by decide +kernel
theorem dX7_of_154 : decode cX7_of 154 = .ok (.iadd, 1) := by decide +kernel
theorem dX7_of_155 : decode cX7_of 155 = .ok (.iaload, 1) := by decide +kernel
theorem dX7_of_156 : decode cX7_of 156 = .ok (.goto 5, 3) := by decide +kernel
theorem dX7_of_159 : decode cX7_of 159 = .ok (.bipush (-2), 2) := by decide +kernel
theorem dX7_of_161 : decode cX7_of 161 = .ok (.ireturn, 1) := by decide +kernel
theorem dX7_of_162 : decode cX7_of 162 = .ok (.iconst (-1), 1) := by decide +kernel
theorem dX7_of_163 : decode cX7_of 163 = .ok (.ireturn, 1) := by decide +kernel
theorem dX7_sum_0 : decode cX7_sum 0 = .ok (.aload_n 0, 1) := by decide +kernel
theorem dX7_sum_1 : decode cX7_sum 1 = .ok (.getfield 10, 3) := by decide +kernel
theorem dX7_sum_4 : decode cX7_sum 4 = .ok (.iload_n 1, 1) := by decide +kernel
theorem dX7_sum_5 : decode cX7_sum 5 = .ok (.invokevirtual 101, 3) := by decide +kernel
theorem dX7_sum_8 : decode cX7_sum 8 = .ok (.ifCond .ne 7, 3) := by decide +kernel
theorem dX7_sum_11 : decode cX7_sum 11 = .ok (.ldc2_w 79, 3) := by decide +kernel
theorem dX7_sum_14 : decode cX7_sum 14 = .ok (.lreturn, 1) := by decide +kernel
theorem dX7_sum_15 : decode cX7_sum 15 = .ok (.aload_n 0, 1) := by decide +kernel
theorem dX7_sum_16 : decode cX7_sum 16 = .ok (.getfield 10, 3) := by decide +kernel
theorem dX7_sum_19 : decode cX7_sum 19 = .ok (.getfield 108, 3) := by decide +kernel
theorem dX7_sum_22 : decode cX7_sum 22 = .ok (.iload_n 1, 1) := by decide +kernel
theorem dX7_sum_23 : decode cX7_sum 23 = .ok (.aaload, 1) := by decide +kernel
theorem dX7_sum_24 : decode cX7_sum 24 = .ok (.astore_n 3, 1) := by decide +kernel
theorem dX7_sum_25 : decode cX7_sum 25 = .ok (.iload_n 2, 1) := by decide +kernel
theorem dX7_sum_26 : decode cX7_sum 26 = .ok (.tableswitch 106 0 8 #[50, 55, 60, 65, 70, 75, 80, 85, 90], 50) := by decide +kernel
theorem dX7_sum_76 : decode cX7_sum 76 = .ok (.aload_n 3, 1) := by decide +kernel
theorem dX7_sum_77 : decode cX7_sum 77 = .ok (.getfield 168, 3) := by decide +kernel
theorem dX7_sum_80 : decode cX7_sum 80 = .ok (.lreturn, 1) := by decide +kernel
theorem dX7_sum_81 : decode cX7_sum 81 = .ok (.aload_n 3, 1) := by decide +kernel
theorem dX7_sum_82 : decode cX7_sum 82 = .ok (.getfield 171, 3) := by decide +kernel
theorem dX7_sum_85 : decode cX7_sum 85 = .ok (.lreturn, 1) := by decide +kernel
theorem dX7_sum_86 : decode cX7_sum 86 = .ok (.aload_n 3, 1) := by decide +kernel
theorem dX7_sum_87 : decode cX7_sum 87 = .ok (.getfield 122, 3) := by decide +kernel
theorem dX7_sum_90 : decode cX7_sum 90 = .ok (.lreturn, 1) := by decide +kernel
theorem dX7_sum_91 : decode cX7_sum 91 = .ok (.aload_n 3, 1) := by decide +kernel
theorem dX7_sum_92 : decode cX7_sum 92 = .ok (.invokevirtual 174, 3) := by decide +kernel
theorem dX7_sum_95 : decode cX7_sum 95 = .ok (.lreturn, 1) := by decide +kernel
theorem dX7_sum_96 : decode cX7_sum 96 = .ok (.aload_n 3, 1) := by decide +kernel
theorem dX7_sum_97 : decode cX7_sum 97 = .ok (.getfield 177, 3) := by decide +kernel
theorem dX7_sum_100 : decode cX7_sum 100 = .ok (.lreturn, 1) := by decide +kernel
theorem dX7_sum_101 : decode cX7_sum 101 = .ok (.aload_n 3, 1) := by decide +kernel
theorem dX7_sum_102 : decode cX7_sum 102 = .ok (.getfield 180, 3) := by decide +kernel
theorem dX7_sum_105 : decode cX7_sum 105 = .ok (.lreturn, 1) := by decide +kernel
theorem dX7_sum_106 : decode cX7_sum 106 = .ok (.aload_n 3, 1) := by decide +kernel
theorem dX7_sum_107 : decode cX7_sum 107 = .ok (.getfield 183, 3) := by decide +kernel
theorem dX7_sum_110 : decode cX7_sum 110 = .ok (.lreturn, 1) := by decide +kernel
theorem dX7_sum_111 : decode cX7_sum 111 = .ok (.aload_n 3, 1) := by decide +kernel
theorem dX7_sum_112 : decode cX7_sum 112 = .ok (.getfield 186, 3) := by decide +kernel
theorem dX7_sum_115 : decode cX7_sum 115 = .ok (.lreturn, 1) := by decide +kernel
theorem dX7_sum_116 : decode cX7_sum 116 = .ok (.aload_n 0, 1) := by decide +kernel
theorem dX7_sum_117 : decode cX7_sum 117 = .ok (.getfield 36, 3) := by decide +kernel
theorem dX7_sum_120 : decode cX7_sum 120 = .ok (.aload_n 3, 1) := by decide +kernel
theorem dX7_sum_121 : decode cX7_sum 121 = .ok (.invokevirtual 189, 3) := by decide +kernel
theorem dX7_sum_124 : decode cX7_sum 124 = .ok (.aload_n 0, 1) := by decide +kernel
theorem dX7_sum_125 : decode cX7_sum 125 = .ok (.getfield 36, 3) := by decide +kernel
theorem dX7_sum_128 : decode cX7_sum 128 = .ok (.invokevirtual 193, 3) := by decide +kernel
theorem dX7_sum_131 : decode cX7_sum 131 = .ok (.lreturn, 1) := by decide +kernel
theorem dX7_sum_132 : decode cX7_sum 132 = .ok (.ldc2_w 79, 3) := by decide +kernel
theorem dX7_sum_135 : decode cX7_sum 135 = .ok (.lreturn, 1) := by decide +kernel
theorem dX7_bill_0 : decode cX7_bill 0 = .ok (.aload_n 0, 1) := by decide +kernel
theorem dX7_bill_1 : decode cX7_bill 1 = .ok (.getfield 10, 3) := by decide +kernel
theorem dX7_bill_4 : decode cX7_bill 4 = .ok (.iload_n 1, 1) := by decide +kernel
theorem dX7_bill_5 : decode cX7_bill 5 = .ok (.invokevirtual 101, 3) := by decide +kernel
theorem dX7_bill_8 : decode cX7_bill 8 = .ok (.ifCond .eq 16, 3) := by decide +kernel
theorem dX7_bill_11 : decode cX7_bill 11 = .ok (.iload_n 2, 1) := by decide +kernel
theorem dX7_bill_12 : decode cX7_bill 12 = .ok (.ifCond .lt 12, 3) := by decide +kernel
theorem dX7_bill_15 : decode cX7_bill 15 = .ok (.iload_n 3, 1) := by decide +kernel
theorem dX7_bill_16 : decode cX7_bill 16 = .ok (.iconst 0, 1) := by decide +kernel
theorem dX7_bill_17 : decode cX7_bill 17 = .ok (.iconst 3, 1) := by decide +kernel
theorem dX7_bill_18 : decode cX7_bill 18 = .ok (.invokestatic 67, 3) := by decide +kernel
theorem dX7_bill_21 : decode cX7_bill 21 = .ok (.ifCond .ne 7, 3) := by decide +kernel
theorem dX7_bill_24 : decode cX7_bill 24 = .ok (.ldc2_w 79, 3) := by decide +kernel
theorem dX7_bill_27 : decode cX7_bill 27 = .ok (.lreturn, 1) := by decide +kernel
theorem dX7_bill_28 : decode cX7_bill 28 = .ok (.aload_n 0, 1) := by decide +kernel
theorem dX7_bill_29 : decode cX7_bill 29 = .ok (.getfield 10, 3) := by decide +kernel
theorem dX7_bill_32 : decode cX7_bill 32 = .ok (.getfield 108, 3) := by decide +kernel
theorem dX7_bill_35 : decode cX7_bill 35 = .ok (.iload_n 1, 1) := by decide +kernel
theorem dX7_bill_36 : decode cX7_bill 36 = .ok (.aaload, 1) := by decide +kernel
theorem dX7_bill_37 : decode cX7_bill 37 = .ok (.astore 4, 2) := by decide +kernel
theorem dX7_bill_39 : decode cX7_bill 39 = .ok (.aload 4, 2) := by decide +kernel
theorem dX7_bill_41 : decode cX7_bill 41 = .ok (.iload_n 2, 1) := by decide +kernel
theorem dX7_bill_42 : decode cX7_bill 42 = .ok (.invokevirtual 196, 3) := by decide +kernel
theorem dX7_bill_45 : decode cX7_bill 45 = .ok (.istore 5, 2) := by decide +kernel
theorem dX7_bill_47 : decode cX7_bill 47 = .ok (.iload 5, 2) := by decide +kernel
theorem dX7_bill_49 : decode cX7_bill 49 = .ok (.ifCond .ne 7, 3) := by decide +kernel
theorem dX7_bill_52 : decode cX7_bill 52 = .ok (.ldc2_w 199, 3) := by decide +kernel
theorem dX7_bill_55 : decode cX7_bill 55 = .ok (.lreturn, 1) := by decide +kernel
theorem dX7_bill_56 : decode cX7_bill 56 = .ok (.iload_n 3, 1) := by decide +kernel
theorem dX7_bill_57 : decode cX7_bill 57 = .ok (.tableswitch 55 0 2 #[27, 37, 46], 27) := by decide +kernel
theorem dX7_bill_84 : decode cX7_bill 84 = .ok (.aload 4, 2) := by decide +kernel
theorem dX7_bill_86 : decode cX7_bill 86 = .ok (.getfield 154, 3) := by decide +kernel
theorem dX7_bill_89 : decode cX7_bill 89 = .ok (.iload 5, 2) := by decide +kernel
theorem dX7_bill_91 : decode cX7_bill 91 = .ok (.iaload, 1) := by decide +kernel
theorem dX7_bill_92 : decode cX7_bill 92 = .ok (.i2l, 1) := by decide +kernel
theorem dX7_bill_93 : decode cX7_bill 93 = .ok (.lreturn, 1) := by decide +kernel
theorem dX7_bill_94 : decode cX7_bill 94 = .ok (.aload 4, 2) := by decide +kernel
theorem dX7_bill_96 : decode cX7_bill 96 = .ok (.getfield 201, 3) := by decide +kernel
theorem dX7_bill_99 : decode cX7_bill 99 = .ok (.iload 5, 2) := by decide +kernel
theorem dX7_bill_101 : decode cX7_bill 101 = .ok (.laload, 1) := by decide +kernel
theorem dX7_bill_102 : decode cX7_bill 102 = .ok (.lreturn, 1) := by decide +kernel
theorem dX7_bill_103 : decode cX7_bill 103 = .ok (.aload 4, 2) := by decide +kernel
theorem dX7_bill_105 : decode cX7_bill 105 = .ok (.getfield 205, 3) := by decide +kernel
theorem dX7_bill_108 : decode cX7_bill 108 = .ok (.iload 5, 2) := by decide +kernel
theorem dX7_bill_110 : decode cX7_bill 110 = .ok (.laload, 1) := by decide +kernel
theorem dX7_bill_111 : decode cX7_bill 111 = .ok (.lreturn, 1) := by decide +kernel
theorem dX7_bill_112 : decode cX7_bill 112 = .ok (.aload 4, 2) := by decide +kernel
theorem dX7_bill_114 : decode cX7_bill 114 = .ok (.getfield 208, 3) := by decide +kernel
theorem dX7_bill_117 : decode cX7_bill 117 = .ok (.iload 5, 2) := by decide +kernel
theorem dX7_bill_119 : decode cX7_bill 119 = .ok (.laload, 1) := by decide +kernel
theorem dX7_bill_120 : decode cX7_bill 120 = .ok (.lreturn, 1) := by decide +kernel
theorem dX7_toCome_0 : decode cX7_toCome 0 = .ok (.aload_n 0, 1) := by decide +kernel
theorem dX7_toCome_1 : decode cX7_toCome 1 = .ok (.getfield 10, 3) := by decide +kernel
theorem dX7_toCome_4 : decode cX7_toCome 4 = .ok (.iload_n 1, 1) := by decide +kernel
theorem dX7_toCome_5 : decode cX7_toCome 5 = .ok (.invokevirtual 101, 3) := by decide +kernel
theorem dX7_toCome_8 : decode cX7_toCome 8 = .ok (.ifCond .eq 16, 3) := by decide +kernel
theorem dX7_toCome_11 : decode cX7_toCome 11 = .ok (.iload_n 2, 1) := by decide +kernel
theorem dX7_toCome_12 : decode cX7_toCome 12 = .ok (.ifCond .lt 12, 3) := by decide +kernel
theorem dX7_toCome_15 : decode cX7_toCome 15 = .ok (.iload_n 3, 1) := by decide +kernel
theorem dX7_toCome_16 : decode cX7_toCome 16 = .ok (.iconst 0, 1) := by decide +kernel
theorem dX7_toCome_17 : decode cX7_toCome 17 = .ok (.iconst 3, 1) := by decide +kernel
theorem dX7_toCome_18 : decode cX7_toCome 18 = .ok (.invokestatic 67, 3) := by decide +kernel
theorem dX7_toCome_21 : decode cX7_toCome 21 = .ok (.ifCond .ne 7, 3) := by decide +kernel
theorem dX7_toCome_24 : decode cX7_toCome 24 = .ok (.ldc2_w 79, 3) := by decide +kernel
theorem dX7_toCome_27 : decode cX7_toCome 27 = .ok (.lreturn, 1) := by decide +kernel
theorem dX7_toCome_28 : decode cX7_toCome 28 = .ok (.aload_n 0, 1) := by decide +kernel
theorem dX7_toCome_29 : decode cX7_toCome 29 = .ok (.getfield 36, 3) := by decide +kernel
theorem dX7_toCome_32 : decode cX7_toCome 32 = .ok (.aload_n 0, 1) := by decide +kernel
theorem dX7_toCome_33 : decode cX7_toCome 33 = .ok (.getfield 10, 3) := by decide +kernel
theorem dX7_toCome_36 : decode cX7_toCome 36 = .ok (.getfield 108, 3) := by decide +kernel
theorem dX7_toCome_39 : decode cX7_toCome 39 = .ok (.iload_n 1, 1) := by decide +kernel
theorem dX7_toCome_40 : decode cX7_toCome 40 = .ok (.aaload, 1) := by decide +kernel
theorem dX7_toCome_41 : decode cX7_toCome 41 = .ok (.invokevirtual 189, 3) := by decide +kernel
theorem dX7_toCome_44 : decode cX7_toCome 44 = .ok (.aload_n 0, 1) := by decide +kernel
theorem dX7_toCome_45 : decode cX7_toCome 45 = .ok (.getfield 36, 3) := by decide +kernel
theorem dX7_toCome_48 : decode cX7_toCome 48 = .ok (.iload_n 2, 1) := by decide +kernel
theorem dX7_toCome_49 : decode cX7_toCome 49 = .ok (.invokevirtual 211, 3) := by decide +kernel
theorem dX7_toCome_52 : decode cX7_toCome 52 = .ok (.istore 4, 2) := by decide +kernel
theorem dX7_toCome_54 : decode cX7_toCome 54 = .ok (.iload 4, 2) := by decide +kernel
theorem dX7_toCome_56 : decode cX7_toCome 56 = .ok (.ifCond .ne 7, 3) := by decide +kernel
theorem dX7_toCome_59 : decode cX7_toCome 59 = .ok (.ldc2_w 199, 3) := by decide +kernel
theorem dX7_toCome_62 : decode cX7_toCome 62 = .ok (.lreturn, 1) := by decide +kernel
theorem dX7_toCome_63 : decode cX7_toCome 63 = .ok (.iload_n 3, 1) := by decide +kernel
theorem dX7_toCome_64 : decode cX7_toCome 64 = .ok (.tableswitch 67 0 2 #[28, 45, 56], 28) := by decide +kernel
theorem dX7_toCome_92 : decode cX7_toCome 92 = .ok (.aload_n 0, 1) := by decide +kernel
theorem dX7_toCome_93 : decode cX7_toCome 93 = .ok (.getfield 10, 3) := by decide +kernel
theorem dX7_toCome_96 : decode cX7_toCome 96 = .ok (.getfield 108, 3) := by decide +kernel
theorem dX7_toCome_99 : decode cX7_toCome 99 = .ok (.iload_n 1, 1) := by decide +kernel
theorem dX7_toCome_100 : decode cX7_toCome 100 = .ok (.aaload, 1) := by decide +kernel
theorem dX7_toCome_101 : decode cX7_toCome 101 = .ok (.getfield 154, 3) := by decide +kernel
theorem dX7_toCome_104 : decode cX7_toCome 104 = .ok (.iload 4, 2) := by decide +kernel
theorem dX7_toCome_106 : decode cX7_toCome 106 = .ok (.iaload, 1) := by decide +kernel
theorem dX7_toCome_107 : decode cX7_toCome 107 = .ok (.i2l, 1) := by decide +kernel
theorem dX7_toCome_108 : decode cX7_toCome 108 = .ok (.lreturn, 1) := by decide +kernel
theorem dX7_toCome_109 : decode cX7_toCome 109 = .ok (.aload_n 0, 1) := by decide +kernel
theorem dX7_toCome_110 : decode cX7_toCome 110 = .ok (.getfield 36, 3) := by decide +kernel
theorem dX7_toCome_113 : decode cX7_toCome 113 = .ok (.getfield 212, 3) := by decide +kernel
theorem dX7_toCome_116 : decode cX7_toCome 116 = .ok (.iload 4, 2) := by decide +kernel
theorem dX7_toCome_118 : decode cX7_toCome 118 = .ok (.laload, 1) := by decide +kernel
theorem dX7_toCome_119 : decode cX7_toCome 119 = .ok (.lreturn, 1) := by decide +kernel
theorem dX7_toCome_120 : decode cX7_toCome 120 = .ok (.aload_n 0, 1) := by decide +kernel
theorem dX7_toCome_121 : decode cX7_toCome 121 = .ok (.getfield 36, 3) := by decide +kernel
theorem dX7_toCome_124 : decode cX7_toCome 124 = .ok (.getfield 215, 3) := by decide +kernel
theorem dX7_toCome_127 : decode cX7_toCome 127 = .ok (.iload 4, 2) := by decide +kernel
theorem dX7_toCome_129 : decode cX7_toCome 129 = .ok (.laload, 1) := by decide +kernel
theorem dX7_toCome_130 : decode cX7_toCome 130 = .ok (.lreturn, 1) := by decide +kernel
theorem dX7_toCome_131 : decode cX7_toCome 131 = .ok (.aload_n 0, 1) := by decide +kernel
theorem dX7_toCome_132 : decode cX7_toCome 132 = .ok (.getfield 36, 3) := by decide +kernel
theorem dX7_toCome_135 : decode cX7_toCome 135 = .ok (.getfield 218, 3) := by decide +kernel
theorem dX7_toCome_138 : decode cX7_toCome 138 = .ok (.iload 4, 2) := by decide +kernel
theorem dX7_toCome_140 : decode cX7_toCome 140 = .ok (.laload, 1) := by decide +kernel
theorem dX7_toCome_141 : decode cX7_toCome 141 = .ok (.lreturn, 1) := by decide +kernel
theorem dX7_coming_0 : decode cX7_coming 0 = .ok (.aload_n 0, 1) := by decide +kernel
theorem dX7_coming_1 : decode cX7_coming 1 = .ok (.getfield 10, 3) := by decide +kernel
theorem dX7_coming_4 : decode cX7_coming 4 = .ok (.iload_n 1, 1) := by decide +kernel
theorem dX7_coming_5 : decode cX7_coming 5 = .ok (.invokevirtual 101, 3) := by decide +kernel
theorem dX7_coming_8 : decode cX7_coming 8 = .ok (.ifCond .ne 7, 3) := by decide +kernel
theorem dX7_coming_11 : decode cX7_coming 11 = .ok (.ldc2_w 79, 3) := by decide +kernel
theorem dX7_coming_14 : decode cX7_coming 14 = .ok (.lreturn, 1) := by decide +kernel
theorem dX7_coming_15 : decode cX7_coming 15 = .ok (.aload_n 0, 1) := by decide +kernel
theorem dX7_coming_16 : decode cX7_coming 16 = .ok (.getfield 10, 3) := by decide +kernel
theorem dX7_coming_19 : decode cX7_coming 19 = .ok (.getfield 108, 3) := by decide +kernel
theorem dX7_coming_22 : decode cX7_coming 22 = .ok (.iload_n 1, 1) := by decide +kernel
theorem dX7_coming_23 : decode cX7_coming 23 = .ok (.aaload, 1) := by decide +kernel
theorem dX7_coming_24 : decode cX7_coming 24 = .ok (.astore_n 3, 1) := by decide +kernel
theorem dX7_coming_25 : decode cX7_coming 25 = .ok (.aload_n 0, 1) := by decide +kernel
theorem dX7_coming_26 : decode cX7_coming 26 = .ok (.getfield 36, 3) := by decide +kernel
theorem dX7_coming_29 : decode cX7_coming 29 = .ok (.aload_n 3, 1) := by decide +kernel
theorem dX7_coming_30 : decode cX7_coming 30 = .ok (.invokevirtual 189, 3) := by decide +kernel
theorem dX7_coming_33 : decode cX7_coming 33 = .ok (.aload_n 0, 1) := by decide +kernel
theorem dX7_coming_34 : decode cX7_coming 34 = .ok (.getfield 36, 3) := by decide +kernel
theorem dX7_coming_37 : decode cX7_coming 37 = .ok (.invokevirtual 220, 3) := by decide +kernel
theorem dX7_coming_40 : decode cX7_coming 40 = .ok (.istore 4, 2) := by decide +kernel
theorem dX7_coming_42 : decode cX7_coming 42 = .ok (.iload_n 2, 1) := by decide +kernel
theorem dX7_coming_43 : decode cX7_coming 43 = .ok (.tableswitch 66 0 2 #[25, 29, 58], 25) := by decide +kernel
theorem dX7_coming_68 : decode cX7_coming 68 = .ok (.iload 4, 2) := by decide +kernel
theorem dX7_coming_70 : decode cX7_coming 70 = .ok (.i2l, 1) := by decide +kernel
theorem dX7_coming_71 : decode cX7_coming 71 = .ok (.lreturn, 1) := by decide +kernel
theorem dX7_coming_72 : decode cX7_coming 72 = .ok (.iload 4, 2) := by decide +kernel
theorem dX7_coming_74 : decode cX7_coming 74 = .ok (.ifCond .ne 9, 3) := by decide +kernel
theorem dX7_coming_77 : decode cX7_coming 77 = .ok (.ldc2_w 199, 3) := by decide +kernel
theorem dX7_coming_80 : decode cX7_coming 80 = .ok (.goto 20, 3) := by decide +kernel
theorem dX7_coming_83 : decode cX7_coming 83 = .ok (.aload_n 3, 1) := by decide +kernel
theorem dX7_coming_84 : decode cX7_coming 84 = .ok (.getfield 154, 3) := by decide +kernel
theorem dX7_coming_87 : decode cX7_coming 87 = .ok (.aload_n 0, 1) := by decide +kernel
theorem dX7_coming_88 : decode cX7_coming 88 = .ok (.getfield 36, 3) := by decide +kernel
theorem dX7_coming_91 : decode cX7_coming 91 = .ok (.iload 4, 2) := by decide +kernel
theorem dX7_coming_93 : decode cX7_coming 93 = .ok (.iconst 1, 1) := by decide +kernel
theorem dX7_coming_94 : decode cX7_coming 94 = .ok (.isub, 1) := by decide +kernel
theorem dX7_coming_95 : decode cX7_coming 95 = .ok (.invokevirtual 211, 3) := by decide +kernel
theorem dX7_coming_98 : decode cX7_coming 98 = .ok (.iaload, 1) := by decide +kernel
theorem dX7_coming_99 : decode cX7_coming 99 = .ok (.i2l, 1) := by decide +kernel
theorem dX7_coming_100 : decode cX7_coming 100 = .ok (.lreturn, 1) := by decide +kernel
theorem dX7_coming_101 : decode cX7_coming 101 = .ok (.aload_n 0, 1) := by decide +kernel
theorem dX7_coming_102 : decode cX7_coming 102 = .ok (.getfield 36, 3) := by decide +kernel
theorem dX7_coming_105 : decode cX7_coming 105 = .ok (.invokevirtual 223, 3) := by decide +kernel
theorem dX7_coming_108 : decode cX7_coming 108 = .ok (.lreturn, 1) := by decide +kernel
theorem dX7_coming_109 : decode cX7_coming 109 = .ok (.ldc2_w 79, 3) := by decide +kernel
theorem dX7_coming_112 : decode cX7_coming 112 = .ok (.lreturn, 1) := by decide +kernel
theorem dX7_value_0 : decode cX7_value 0 = .ok (.aload_n 0, 1) := by decide +kernel
theorem dX7_value_1 : decode cX7_value 1 = .ok (.getfield 10, 3) := by decide +kernel
theorem dX7_value_4 : decode cX7_value 4 = .ok (.iload_n 1, 1) := by decide +kernel
theorem dX7_value_5 : decode cX7_value 5 = .ok (.invokevirtual 101, 3) := by decide +kernel
theorem dX7_value_8 : decode cX7_value 8 = .ok (.ifCond .eq 10, 3) := by decide +kernel
theorem dX7_value_11 : decode cX7_value 11 = .ok (.lload_n 2, 1) := by decide +kernel
theorem dX7_value_12 : decode cX7_value 12 = .ok (.invokestatic 226, 3) := by decide +kernel
theorem dX7_value_15 : decode cX7_value 15 = .ok (.ifCond .ne 5, 3) := by decide +kernel
theorem dX7_value_18 : decode cX7_value 18 = .ok (.lconst 0, 1) := by decide +kernel
theorem dX7_value_19 : decode cX7_value 19 = .ok (.lreturn, 1) := by decide +kernel
theorem dX7_value_20 : decode cX7_value 20 = .ok (.aload_n 0, 1) := by decide +kernel
theorem dX7_value_21 : decode cX7_value 21 = .ok (.getfield 36, 3) := by decide +kernel
theorem dX7_value_24 : decode cX7_value 24 = .ok (.aload_n 0, 1) := by decide +kernel
theorem dX7_value_25 : decode cX7_value 25 = .ok (.getfield 10, 3) := by decide +kernel
theorem dX7_value_28 : decode cX7_value 28 = .ok (.getfield 108, 3) := by decide +kernel
theorem dX7_value_31 : decode cX7_value 31 = .ok (.iload_n 1, 1) := by decide +kernel
theorem dX7_value_32 : decode cX7_value 32 = .ok (.aaload, 1) := by decide +kernel
theorem dX7_value_33 : decode cX7_value 33 = .ok (.invokevirtual 189, 3) := by decide +kernel
theorem dX7_value_36 : decode cX7_value 36 = .ok (.aload_n 0, 1) := by decide +kernel
theorem dX7_value_37 : decode cX7_value 37 = .ok (.getfield 36, 3) := by decide +kernel
theorem dX7_value_40 : decode cX7_value 40 = .ok (.lload_n 2, 1) := by decide +kernel
theorem dX7_value_41 : decode cX7_value 41 = .ok (.invokestatic 231, 3) := by decide +kernel
theorem dX7_value_44 : decode cX7_value 44 = .ok (.invokevirtual 235, 3) := by decide +kernel
theorem dX7_value_47 : decode cX7_value 47 = .ok (.invokestatic 239, 3) := by decide +kernel
theorem dX7_value_50 : decode cX7_value 50 = .ok (.lreturn, 1) := by decide +kernel
theorem dX7_yieldOf_0 : decode cX7_yieldOf 0 = .ok (.aload_n 0, 1) := by decide +kernel
theorem dX7_yieldOf_1 : decode cX7_yieldOf 1 = .ok (.getfield 10, 3) := by decide +kernel
theorem dX7_yieldOf_4 : decode cX7_yieldOf 4 = .ok (.iload_n 1, 1) := by decide +kernel
theorem dX7_yieldOf_5 : decode cX7_yieldOf 5 = .ok (.invokevirtual 101, 3) := by decide +kernel
theorem dX7_yieldOf_8 : decode cX7_yieldOf 8 = .ok (.ifCond .eq 9, 3) := by decide +kernel
theorem dX7_yieldOf_11 : decode cX7_yieldOf 11 = .ok (.lload_n 2, 1) := by decide +kernel
theorem dX7_yieldOf_12 : decode cX7_yieldOf 12 = .ok (.lconst 1, 1) := by decide +kernel
theorem dX7_yieldOf_13 : decode cX7_yieldOf 13 = .ok (.lcmp, 1) := by decide +kernel
theorem dX7_yieldOf_14 : decode cX7_yieldOf 14 = .ok (.ifCond .ge 7, 3) := by decide +kernel
theorem dX7_yieldOf_17 : decode cX7_yieldOf 17 = .ok (.ldc2_w 79, 3) := by decide +kernel
theorem dX7_yieldOf_20 : decode cX7_yieldOf 20 = .ok (.lreturn, 1) := by decide +kernel
theorem dX7_yieldOf_21 : decode cX7_yieldOf 21 = .ok (.aload_n 0, 1) := by decide +kernel
theorem dX7_yieldOf_22 : decode cX7_yieldOf 22 = .ok (.getfield 36, 3) := by decide +kernel
theorem dX7_yieldOf_25 : decode cX7_yieldOf 25 = .ok (.aload_n 0, 1) := by decide +kernel
theorem dX7_yieldOf_26 : decode cX7_yieldOf 26 = .ok (.getfield 10, 3) := by decide +kernel
theorem dX7_yieldOf_29 : decode cX7_yieldOf 29 = .ok (.getfield 108, 3) := by decide +kernel
theorem dX7_yieldOf_32 : decode cX7_yieldOf 32 = .ok (.iload_n 1, 1) := by decide +kernel
theorem dX7_yieldOf_33 : decode cX7_yieldOf 33 = .ok (.aaload, 1) := by decide +kernel
theorem dX7_yieldOf_34 : decode cX7_yieldOf 34 = .ok (.invokevirtual 189, 3) := by decide +kernel
theorem dX7_yieldOf_37 : decode cX7_yieldOf 37 = .ok (.aload_n 0, 1) := by decide +kernel
theorem dX7_yieldOf_38 : decode cX7_yieldOf 38 = .ok (.getfield 36, 3) := by decide +kernel
theorem dX7_yieldOf_41 : decode cX7_yieldOf 41 = .ok (.lload_n 2, 1) := by decide +kernel
theorem dX7_yieldOf_42 : decode cX7_yieldOf 42 = .ok (.l2d, 1) := by decide +kernel
theorem dX7_yieldOf_43 : decode cX7_yieldOf 43 = .ok (.invokevirtual 243, 3) := by decide +kernel
theorem dX7_yieldOf_46 : decode cX7_yieldOf 46 = .ok (.invokestatic 239, 3) := by decide +kernel
theorem dX7_yieldOf_49 : decode cX7_yieldOf 49 = .ok (.lreturn, 1) := by decide +kernel
theorem dX7_near_0 : decode cX7_near 0 = .ok (.aload_n 0, 1) := by decide +kernel
theorem dX7_near_1 : decode cX7_near 1 = .ok (.getfield 10, 3) := by decide +kernel
theorem dX7_near_4 : decode cX7_near 4 = .ok (.iload_n 1, 1) := by decide +kernel
theorem dX7_near_5 : decode cX7_near 5 = .ok (.invokevirtual 101, 3) := by decide +kernel
theorem dX7_near_8 : decode cX7_near 8 = .ok (.ifCond .eq 9, 3) := by decide +kernel
theorem dX7_near_11 : decode cX7_near 11 = .ok (.lload_n 2, 1) := by decide +kernel
theorem dX7_near_12 : decode cX7_near 12 = .ok (.lconst 1, 1) := by decide +kernel
theorem dX7_near_13 : decode cX7_near 13 = .ok (.lcmp, 1) := by decide +kernel
theorem dX7_near_14 : decode cX7_near 14 = .ok (.ifCond .ge 5, 3) := by decide +kernel
theorem dX7_near_17 : decode cX7_near 17 = .ok (.iconst (-1), 1) := by decide +kernel
theorem dX7_near_18 : decode cX7_near 18 = .ok (.ireturn, 1) := by decide +kernel
theorem dX7_near_19 : decode cX7_near 19 = .ok (.aload_n 0, 1) := by decide +kernel
theorem dX7_near_20 : decode cX7_near 20 = .ok (.getfield 36, 3) := by decide +kernel
theorem dX7_near_23 : decode cX7_near 23 = .ok (.aload_n 0, 1) := by decide +kernel
theorem dX7_near_24 : decode cX7_near 24 = .ok (.getfield 10, 3) := by decide +kernel
theorem dX7_near_27 : decode cX7_near 27 = .ok (.getfield 108, 3) := by decide +kernel
theorem dX7_near_30 : decode cX7_near 30 = .ok (.iload_n 1, 1) := by decide +kernel
theorem dX7_near_31 : decode cX7_near 31 = .ok (.aaload, 1) := by decide +kernel
theorem dX7_near_32 : decode cX7_near 32 = .ok (.invokevirtual 189, 3) := by decide +kernel
theorem dX7_near_35 : decode cX7_near 35 = .ok (.aload_n 0, 1) := by decide +kernel
theorem dX7_near_36 : decode cX7_near 36 = .ok (.getfield 36, 3) := by decide +kernel
theorem dX7_near_39 : decode cX7_near 39 = .ok (.lload_n 2, 1) := by decide +kernel
theorem dX7_near_40 : decode cX7_near 40 = .ok (.l2d, 1) := by decide +kernel
theorem dX7_near_41 : decode cX7_near 41 = .ok (.invokevirtual 243, 3) := by decide +kernel
theorem dX7_near_44 : decode cX7_near 44 = .ok (.d2f, 1) := by decide +kernel
theorem dX7_near_45 : decode cX7_near 45 = .ok (.invokestatic 246, 3) := by decide +kernel
theorem dX7_near_48 : decode cX7_near 48 = .ok (.ireturn, 1) := by decide +kernel
theorem dX7_duration_0 : decode cX7_duration 0 = .ok (.aload_n 0, 1) := by decide +kernel
theorem dX7_duration_1 : decode cX7_duration 1 = .ok (.getfield 10, 3) := by decide +kernel
theorem dX7_duration_4 : decode cX7_duration 4 = .ok (.iload_n 1, 1) := by decide +kernel
theorem dX7_duration_5 : decode cX7_duration 5 = .ok (.invokevirtual 101, 3) := by decide +kernel
theorem dX7_duration_8 : decode cX7_duration 8 = .ok (.ifCond .eq 10, 3) := by decide +kernel
theorem dX7_duration_11 : decode cX7_duration 11 = .ok (.lload_n 2, 1) := by decide +kernel
theorem dX7_duration_12 : decode cX7_duration 12 = .ok (.invokestatic 226, 3) := by decide +kernel
theorem dX7_duration_15 : decode cX7_duration 15 = .ok (.ifCond .ne 5, 3) := by decide +kernel
theorem dX7_duration_18 : decode cX7_duration 18 = .ok (.lconst 0, 1) := by decide +kernel
theorem dX7_duration_19 : decode cX7_duration 19 = .ok (.lreturn, 1) := by decide +kernel
theorem dX7_duration_20 : decode cX7_duration 20 = .ok (.aload_n 0, 1) := by decide +kernel
theorem dX7_duration_21 : decode cX7_duration 21 = .ok (.getfield 36, 3) := by decide +kernel
theorem dX7_duration_24 : decode cX7_duration 24 = .ok (.aload_n 0, 1) := by decide +kernel
theorem dX7_duration_25 : decode cX7_duration 25 = .ok (.getfield 10, 3) := by decide +kernel
theorem dX7_duration_28 : decode cX7_duration 28 = .ok (.getfield 108, 3) := by decide +kernel
theorem dX7_duration_31 : decode cX7_duration 31 = .ok (.iload_n 1, 1) := by decide +kernel
theorem dX7_duration_32 : decode cX7_duration 32 = .ok (.aaload, 1) := by decide +kernel
theorem dX7_duration_33 : decode cX7_duration 33 = .ok (.invokevirtual 189, 3) := by decide +kernel
theorem dX7_duration_36 : decode cX7_duration 36 = .ok (.lload_n 2, 1) := by decide +kernel
theorem dX7_duration_37 : decode cX7_duration 37 = .ok (.invokestatic 231, 3) := by decide +kernel
theorem dX7_duration_40 : decode cX7_duration 40 = .ok (.dstore 4, 2) := by decide +kernel
theorem dX7_duration_42 : decode cX7_duration 42 = .ok (.aload_n 0, 1) := by decide +kernel
theorem dX7_duration_43 : decode cX7_duration 43 = .ok (.getfield 36, 3) := by decide +kernel
theorem dX7_duration_46 : decode cX7_duration 46 = .ok (.dload 4, 2) := by decide +kernel
theorem dX7_duration_48 : decode cX7_duration 48 = .ok (.invokevirtual 235, 3) := by decide +kernel
theorem dX7_duration_51 : decode cX7_duration 51 = .ok (.dstore 6, 2) := by decide +kernel
theorem dX7_duration_53 : decode cX7_duration 53 = .ok (.dload 6, 2) := by decide +kernel
theorem dX7_duration_55 : decode cX7_duration 55 = .ok (.dconst 0, 1) := by decide +kernel
theorem dX7_duration_56 : decode cX7_duration 56 = .ok (.dcmp .l, 1) := by decide +kernel
theorem dX7_duration_57 : decode cX7_duration 57 = .ok (.ifCond .le 21, 3) := by decide +kernel
theorem dX7_duration_60 : decode cX7_duration 60 = .ok (.aload_n 0, 1) := by decide +kernel
theorem dX7_duration_61 : decode cX7_duration 61 = .ok (.getfield 36, 3) := by decide +kernel
theorem dX7_duration_64 : decode cX7_duration 64 = .ok (.dload 4, 2) := by decide +kernel
theorem dX7_duration_66 : decode cX7_duration 66 = .ok (.invokevirtual 250, 3) := by decide +kernel
theorem dX7_duration_69 : decode cX7_duration 69 = .ok (.dload 6, 2) := by decide +kernel
theorem dX7_duration_71 : decode cX7_duration 71 = .ok (.ddiv, 1) := by decide +kernel
theorem dX7_duration_72 : decode cX7_duration 72 = .ok (.invokestatic 239, 3) := by decide +kernel
theorem dX7_duration_75 : decode cX7_duration 75 = .ok (.goto 4, 3) := by decide +kernel
theorem dX7_duration_78 : decode cX7_duration 78 = .ok (.lconst 0, 1) := by decide +kernel
theorem dX7_duration_79 : decode cX7_duration 79 = .ok (.lreturn, 1) := by decide +kernel
theorem dX7_behind_0 : decode cX7_behind 0 = .ok (.iload_n 1, 1) := by decide +kernel
theorem dX7_behind_1 : decode cX7_behind 1 = .ok (.ifCond .ge 5, 3) := by decide +kernel
theorem dX7_behind_4 : decode cX7_behind 4 = .ok (.iconst (-1), 1) := by decide +kernel
theorem dX7_behind_5 : decode cX7_behind 5 = .ok (.ireturn, 1) := by decide +kernel
theorem dX7_behind_6 : decode cX7_behind 6 = .ok (.iconst 0, 1) := by decide +kernel
theorem dX7_behind_7 : decode cX7_behind 7 = .ok (.istore_n 2, 1) := by decide +kernel
theorem dX7_behind_8 : decode cX7_behind 8 = .ok (.iconst 0, 1) := by decide +kernel
theorem dX7_behind_9 : decode cX7_behind 9 = .ok (.istore_n 3, 1) := by decide +kernel
theorem dX7_behind_10 : decode cX7_behind 10 = .ok (.iload_n 3, 1) := by decide +kernel
theorem dX7_behind_11 : decode cX7_behind 11 = .ok (.aload_n 0, 1) := by decide +kernel
theorem dX7_behind_12 : decode cX7_behind 12 = .ok (.getfield 10, 3) := by decide +kernel
theorem dX7_behind_15 : decode cX7_behind 15 = .ok (.getfield 253, 3) := by decide +kernel
theorem dX7_behind_18 : decode cX7_behind 18 = .ok (.if_icmp .ge 38, 3) := by decide +kernel
theorem dX7_behind_21 : decode cX7_behind 21 = .ok (.aload_n 0, 1) := by decide +kernel
theorem dX7_behind_22 : decode cX7_behind 22 = .ok (.getfield 10, 3) := by decide +kernel
theorem dX7_behind_25 : decode cX7_behind 25 = .ok (.getfield 108, 3) := by decide +kernel
theorem dX7_behind_28 : decode cX7_behind 28 = .ok (.iload_n 3, 1) := by decide +kernel
theorem dX7_behind_29 : decode cX7_behind 29 = .ok (.aaload, 1) := by decide +kernel
theorem dX7_behind_30 : decode cX7_behind 30 = .ok (.aload_n 0, 1) := by decide +kernel
theorem dX7_behind_31 : decode cX7_behind 31 = .ok (.getfield 10, 3) := by decide +kernel
theorem dX7_behind_34 : decode cX7_behind 34 = .ok (.getfield 93, 3) := by decide +kernel
theorem dX7_behind_37 : decode cX7_behind 37 = .ok (.invokevirtual 165, 3) := by decide +kernel
theorem dX7_behind_40 : decode cX7_behind 40 = .ok (.iload_n 1, 1) := by decide +kernel
theorem dX7_behind_41 : decode cX7_behind 41 = .ok (.if_icmp .le 9, 3) := by decide +kernel
theorem dX7_behind_44 : decode cX7_behind 44 = .ok (.iload_n 2, 1) := by decide +kernel
theorem dX7_behind_45 : decode cX7_behind 45 = .ok (.iconst 1, 1) := by decide +kernel
theorem dX7_behind_46 : decode cX7_behind 46 = .ok (.iload_n 3, 1) := by decide +kernel
theorem dX7_behind_47 : decode cX7_behind 47 = .ok (.ishl, 1) := by decide +kernel
theorem dX7_behind_48 : decode cX7_behind 48 = .ok (.ior, 1) := by decide +kernel
theorem dX7_behind_49 : decode cX7_behind 49 = .ok (.istore_n 2, 1) := by decide +kernel
theorem dX7_behind_50 : decode cX7_behind 50 = .ok (.iinc 3 1, 3) := by decide +kernel
theorem dX7_behind_53 : decode cX7_behind 53 = .ok (.goto (-43), 3) := by decide +kernel
theorem dX7_behind_56 : decode cX7_behind 56 = .ok (.iload_n 2, 1) := by decide +kernel
theorem dX7_behind_57 : decode cX7_behind 57 = .ok (.ireturn, 1) := by decide +kernel
theorem dX7_settles_0 : decode cX7_settles 0 = .ok (.aload_n 0, 1) := by decide +kernel
theorem dX7_settles_1 : decode cX7_settles 1 = .ok (.getfield 10, 3) := by decide +kernel
theorem dX7_settles_4 : decode cX7_settles 4 = .ok (.iload_n 1, 1) := by decide +kernel
theorem dX7_settles_5 : decode cX7_settles 5 = .ok (.invokevirtual 101, 3) := by decide +kernel
theorem dX7_settles_8 : decode cX7_settles 8 = .ok (.ifCond .ne 5, 3) := by decide +kernel
theorem dX7_settles_11 : decode cX7_settles 11 = .ok (.iconst (-1), 1) := by decide +kernel
theorem dX7_settles_12 : decode cX7_settles 12 = .ok (.ireturn, 1) := by decide +kernel
theorem dX7_settles_13 : decode cX7_settles 13 = .ok (.aload_n 0, 1) := by decide +kernel
theorem dX7_settles_14 : decode cX7_settles 14 = .ok (.getfield 10, 3) := by decide +kernel
theorem dX7_settles_17 : decode cX7_settles 17 = .ok (.getfield 108, 3) := by decide +kernel
theorem dX7_settles_20 : decode cX7_settles 20 = .ok (.iload_n 1, 1) := by decide +kernel
theorem dX7_settles_21 : decode cX7_settles 21 = .ok (.aaload, 1) := by decide +kernel
theorem dX7_settles_22 : decode cX7_settles 22 = .ok (.astore_n 2, 1) := by decide +kernel
theorem dX7_settles_23 : decode cX7_settles 23 = .ok (.aload_n 2, 1) := by decide +kernel
theorem dX7_settles_24 : decode cX7_settles 24 = .ok (.getfield 158, 3) := by decide +kernel
theorem dX7_settles_27 : decode cX7_settles 27 = .ok (.aload_n 2, 1) := by decide +kernel
theorem dX7_settles_28 : decode cX7_settles 28 = .ok (.getfield 148, 3) := by decide +kernel
theorem dX7_settles_31 : decode cX7_settles 31 = .ok (.if_icmp .ge 23, 3) := by decide +kernel
theorem dX7_settles_34 : decode cX7_settles 34 = .ok (.aload_n 2, 1) := by decide +kernel
theorem dX7_settles_35 : decode cX7_settles 35 = .ok (.getfield 154, 3) := by decide +kernel
theorem dX7_settles_38 : decode cX7_settles 38 = .ok (.aload_n 2, 1) := by decide +kernel
theorem dX7_settles_39 : decode cX7_settles 39 = .ok (.getfield 148, 3) := by decide +kernel
theorem dX7_settles_42 : decode cX7_settles 42 = .ok (.iaload, 1) := by decide +kernel
theorem dX7_settles_43 : decode cX7_settles 43 = .ok (.aload_n 0, 1) := by decide +kernel
theorem dX7_settles_44 : decode cX7_settles 44 = .ok (.getfield 10, 3) := by decide +kernel
theorem dX7_settles_47 : decode cX7_settles 47 = .ok (.getfield 93, 3) := by decide +kernel
theorem dX7_settles_50 : decode cX7_settles 50 = .ok (.isub, 1) := by decide +kernel
theorem dX7_settles_51 : decode cX7_settles 51 = .ok (.goto 4, 3) := by decide +kernel
theorem dX7_settles_54 : decode cX7_settles 54 = .ok (.iconst 0, 1) := by decide +kernel
theorem dX7_settles_55 : decode cX7_settles 55 = .ok (.ireturn, 1) := by decide +kernel
theorem dX7_would_0 : decode cX7_would 0 = .ok (.aload_n 0, 1) := by decide +kernel
theorem dX7_would_1 : decode cX7_would 1 = .ok (.getfield 10, 3) := by decide +kernel
theorem dX7_would_4 : decode cX7_would 4 = .ok (.iload_n 1, 1) := by decide +kernel
theorem dX7_would_5 : decode cX7_would 5 = .ok (.invokevirtual 101, 3) := by decide +kernel
theorem dX7_would_8 : decode cX7_would 8 = .ok (.ifCond .eq 10, 3) := by decide +kernel
theorem dX7_would_11 : decode cX7_would 11 = .ok (.lload_n 2, 1) := by decide +kernel
theorem dX7_would_12 : decode cX7_would 12 = .ok (.invokestatic 104, 3) := by decide +kernel
theorem dX7_would_15 : decode cX7_would 15 = .ok (.ifCond .ne 7, 3) := by decide +kernel
theorem dX7_would_18 : decode cX7_would 18 = .ok (.ldc2_w 79, 3) := by decide +kernel
theorem dX7_would_21 : decode cX7_would 21 = .ok (.lreturn, 1) := by decide +kernel
theorem dX7_would_22 : decode cX7_would 22 = .ok (.aload_n 0, 1) := by decide +kernel
theorem dX7_would_23 : decode cX7_would 23 = .ok (.getfield 10, 3) := by decide +kernel
theorem dX7_would_26 : decode cX7_would 26 = .ok (.getfield 108, 3) := by decide +kernel
theorem dX7_would_29 : decode cX7_would 29 = .ok (.iload_n 1, 1) := by decide +kernel
theorem dX7_would_30 : decode cX7_would 30 = .ok (.aaload, 1) := by decide +kernel
theorem dX7_would_31 : decode cX7_would 31 = .ok (.astore 5, 2) := by decide +kernel
theorem dX7_would_33 : decode cX7_would 33 = .ok (.aload_n 0, 1) := by decide +kernel
theorem dX7_would_34 : decode cX7_would 34 = .ok (.getfield 29, 3) := by decide +kernel
theorem dX7_would_37 : decode cX7_would 37 = .ok (.aload 5, 2) := by decide +kernel
theorem dX7_would_39 : decode cX7_would 39 = .ok (.invokevirtual 256, 3) := by decide +kernel
theorem dX7_would_42 : decode cX7_would 42 = .ok (.aload_n 0, 1) := by decide +kernel
theorem dX7_would_43 : decode cX7_would 43 = .ok (.getfield 29, 3) := by decide +kernel
theorem dX7_would_46 : decode cX7_would 46 = .ok (.lload_n 2, 1) := by decide +kernel
theorem dX7_would_47 : decode cX7_would 47 = .ok (.invokevirtual 112, 3) := by decide +kernel
theorem dX7_would_50 : decode cX7_would 50 = .ok (.lstore 6, 2) := by decide +kernel
theorem dX7_would_52 : decode cX7_would 52 = .ok (.aload 5, 2) := by decide +kernel
theorem dX7_would_54 : decode cX7_would 54 = .ok (.getfield 171, 3) := by decide +kernel
theorem dX7_would_57 : decode cX7_would 57 = .ok (.aload_n 0, 1) := by decide +kernel
theorem dX7_would_58 : decode cX7_would 58 = .ok (.getfield 29, 3) := by decide +kernel
theorem dX7_would_61 : decode cX7_would 61 = .ok (.getfield 171, 3) := by decide +kernel
theorem dX7_would_64 : decode cX7_would 64 = .ok (.lsub, 1) := by decide +kernel
theorem dX7_would_65 : decode cX7_would 65 = .ok (.lstore 8, 2) := by decide +kernel
theorem dX7_would_67 : decode cX7_would 67 = .ok (.iload 4, 2) := by decide +kernel
theorem dX7_would_69 : decode cX7_would 69 = .ok (.tableswitch 98 0 5 #[39, 53, 67, 84, 87, 90], 39) := by decide +kernel
theorem dX7_would_108 : decode cX7_would 108 = .ok (.aload_n 0, 1) := by decide +kernel
theorem dX7_would_109 : decode cX7_would 109 = .ok (.getfield 29, 3) := by decide +kernel
theorem dX7_would_112 : decode cX7_would 112 = .ok (.getfield 177, 3) := by decide +kernel
theorem dX7_would_115 : decode cX7_would 115 = .ok (.aload 5, 2) := by decide +kernel
theorem dX7_would_117 : decode cX7_would 117 = .ok (.getfield 177, 3) := by decide +kernel
theorem dX7_would_120 : decode cX7_would 120 = .ok (.lsub, 1) := by decide +kernel
theorem dX7_would_121 : decode cX7_would 121 = .ok (.lreturn, 1) := by decide +kernel
theorem dX7_would_122 : decode cX7_would 122 = .ok (.aload_n 0, 1) := by decide +kernel
theorem dX7_would_123 : decode cX7_would 123 = .ok (.getfield 29, 3) := by decide +kernel
theorem dX7_would_126 : decode cX7_would 126 = .ok (.getfield 180, 3) := by decide +kernel
theorem dX7_would_129 : decode cX7_would 129 = .ok (.aload 5, 2) := by decide +kernel
theorem dX7_would_131 : decode cX7_would 131 = .ok (.getfield 180, 3) := by decide +kernel
theorem dX7_would_134 : decode cX7_would 134 = .ok (.lsub, 1) := by decide +kernel
theorem dX7_would_135 : decode cX7_would 135 = .ok (.lreturn, 1) := by decide +kernel
theorem dX7_would_136 : decode cX7_would 136 = .ok (.aload_n 0, 1) := by decide +kernel
theorem dX7_would_137 : decode cX7_would 137 = .ok (.getfield 29, 3) := by decide +kernel
theorem dX7_would_140 : decode cX7_would 140 = .ok (.getfield 183, 3) := by decide +kernel
theorem dX7_would_143 : decode cX7_would 143 = .ok (.aload 5, 2) := by decide +kernel
theorem dX7_would_145 : decode cX7_would 145 = .ok (.getfield 183, 3) := by decide +kernel
theorem dX7_would_148 : decode cX7_would 148 = .ok (.lsub, 1) := by decide +kernel
theorem dX7_would_149 : decode cX7_would 149 = .ok (.lload 8, 2) := by decide +kernel
theorem dX7_would_151 : decode cX7_would 151 = .ok (.lsub, 1) := by decide +kernel
theorem dX7_would_152 : decode cX7_would 152 = .ok (.lreturn, 1) := by decide +kernel
theorem dX7_would_153 : decode cX7_would 153 = .ok (.lload 8, 2) := by decide +kernel
theorem dX7_would_155 : decode cX7_would 155 = .ok (.lreturn, 1) := by decide +kernel
theorem dX7_would_156 : decode cX7_would 156 = .ok (.lload 6, 2) := by decide +kernel
theorem dX7_would_158 : decode cX7_would 158 = .ok (.lreturn, 1) := by decide +kernel
theorem dX7_would_159 : decode cX7_would 159 = .ok (.aload_n 0, 1) := by decide +kernel
theorem dX7_would_160 : decode cX7_would 160 = .ok (.getfield 29, 3) := by decide +kernel
theorem dX7_would_163 : decode cX7_would 163 = .ok (.getfield 122, 3) := by decide +kernel
theorem dX7_would_166 : decode cX7_would 166 = .ok (.lreturn, 1) := by decide +kernel
theorem dX7_would_167 : decode cX7_would 167 = .ok (.ldc2_w 79, 3) := by decide +kernel
theorem dX7_would_170 : decode cX7_would 170 = .ok (.lreturn, 1) := by decide +kernel
theorem dX7_sooner_0 : decode cX7_sooner 0 = .ok (.aload_n 0, 1) := by decide +kernel
theorem dX7_sooner_1 : decode cX7_sooner 1 = .ok (.getfield 10, 3) := by decide +kernel
theorem dX7_sooner_4 : decode cX7_sooner 4 = .ok (.iload_n 1, 1) := by decide +kernel
theorem dX7_sooner_5 : decode cX7_sooner 5 = .ok (.invokevirtual 101, 3) := by decide +kernel
theorem dX7_sooner_8 : decode cX7_sooner 8 = .ok (.ifCond .eq 10, 3) := by decide +kernel
theorem dX7_sooner_11 : decode cX7_sooner 11 = .ok (.lload_n 2, 1) := by decide +kernel
theorem dX7_sooner_12 : decode cX7_sooner 12 = .ok (.invokestatic 104, 3) := by decide +kernel
theorem dX7_sooner_15 : decode cX7_sooner 15 = .ok (.ifCond .ne 5, 3) := by decide +kernel
theorem dX7_sooner_18 : decode cX7_sooner 18 = .ok (.iconst (-1), 1) := by decide +kernel
theorem dX7_sooner_19 : decode cX7_sooner 19 = .ok (.ireturn, 1) := by decide +kernel
theorem dX7_sooner_20 : decode cX7_sooner 20 = .ok (.aload_n 0, 1) := by decide +kernel
theorem dX7_sooner_21 : decode cX7_sooner 21 = .ok (.getfield 36, 3) := by decide +kernel
theorem dX7_sooner_24 : decode cX7_sooner 24 = .ok (.aload_n 0, 1) := by decide +kernel
theorem dX7_sooner_25 : decode cX7_sooner 25 = .ok (.getfield 10, 3) := by decide +kernel
theorem dX7_sooner_28 : decode cX7_sooner 28 = .ok (.getfield 108, 3) := by decide +kernel
theorem dX7_sooner_31 : decode cX7_sooner 31 = .ok (.iload_n 1, 1) := by decide +kernel
theorem dX7_sooner_32 : decode cX7_sooner 32 = .ok (.aaload, 1) := by decide +kernel
theorem dX7_sooner_33 : decode cX7_sooner 33 = .ok (.invokevirtual 189, 3) := by decide +kernel
theorem dX7_sooner_36 : decode cX7_sooner 36 = .ok (.aload_n 0, 1) := by decide +kernel
theorem dX7_sooner_37 : decode cX7_sooner 37 = .ok (.getfield 36, 3) := by decide +kernel
theorem dX7_sooner_40 : decode cX7_sooner 40 = .ok (.invokevirtual 259, 3) := by decide +kernel
theorem dX7_sooner_43 : decode cX7_sooner 43 = .ok (.istore 4, 2) := by decide +kernel
theorem dX7_sooner_45 : decode cX7_sooner 45 = .ok (.aload_n 0, 1) := by decide +kernel
theorem dX7_sooner_46 : decode cX7_sooner 46 = .ok (.getfield 29, 3) := by decide +kernel
theorem dX7_sooner_49 : decode cX7_sooner 49 = .ok (.aload_n 0, 1) := by decide +kernel
theorem dX7_sooner_50 : decode cX7_sooner 50 = .ok (.getfield 10, 3) := by decide +kernel
theorem dX7_sooner_53 : decode cX7_sooner 53 = .ok (.getfield 108, 3) := by decide +kernel
theorem dX7_sooner_56 : decode cX7_sooner 56 = .ok (.iload_n 1, 1) := by decide +kernel
theorem dX7_sooner_57 : decode cX7_sooner 57 = .ok (.aaload, 1) := by decide +kernel
theorem dX7_sooner_58 : decode cX7_sooner 58 = .ok (.invokevirtual 256, 3) := by decide +kernel
theorem dX7_sooner_61 : decode cX7_sooner 61 = .ok (.aload_n 0, 1) := by decide +kernel
theorem dX7_sooner_62 : decode cX7_sooner 62 = .ok (.getfield 29, 3) := by decide +kernel
theorem dX7_sooner_65 : decode cX7_sooner 65 = .ok (.lload_n 2, 1) := by decide +kernel
theorem dX7_sooner_66 : decode cX7_sooner 66 = .ok (.invokevirtual 112, 3) := by decide +kernel
theorem dX7_sooner_69 : decode cX7_sooner 69 = .ok (.pop2, 1) := by decide +kernel
theorem dX7_sooner_70 : decode cX7_sooner 70 = .ok (.aload_n 0, 1) := by decide +kernel
theorem dX7_sooner_71 : decode cX7_sooner 71 = .ok (.getfield 36, 3) := by decide +kernel
theorem dX7_sooner_74 : decode cX7_sooner 74 = .ok (.aload_n 0, 1) := by decide +kernel
theorem dX7_sooner_75 : decode cX7_sooner 75 = .ok (.getfield 29, 3) := by decide +kernel
theorem dX7_sooner_78 : decode cX7_sooner 78 = .ok (.invokevirtual 189, 3) := by decide +kernel
theorem dX7_sooner_81 : decode cX7_sooner 81 = .ok (.iconst 0, 1) := by decide +kernel
theorem dX7_sooner_82 : decode cX7_sooner 82 = .ok (.iload 4, 2) := by decide +kernel
theorem dX7_sooner_84 : decode cX7_sooner 84 = .ok (.aload_n 0, 1) := by decide +kernel
theorem dX7_sooner_85 : decode cX7_sooner 85 = .ok (.getfield 36, 3) := by decide +kernel
theorem dX7_sooner_88 : decode cX7_sooner 88 = .ok (.invokevirtual 259, 3) := by decide +kernel
theorem dX7_sooner_91 : decode cX7_sooner 91 = .ok (.isub, 1) := by decide +kernel
theorem dX7_sooner_92 : decode cX7_sooner 92 = .ok (.invokestatic 262, 3) := by decide +kernel
theorem dX7_sooner_95 : decode cX7_sooner 95 = .ok (.ireturn, 1) := by decide +kernel
theorem dX7_judge_0 : decode cX7_judge 0 = .ok (.iload_n 1, 1) := by decide +kernel
theorem dX7_judge_1 : decode cX7_judge 1 = .ok (.invokestatic 268, 3) := by decide +kernel
theorem dX7_judge_4 : decode cX7_judge 4 = .ok (.ifCond .eq 14, 3) := by decide +kernel
theorem dX7_judge_7 : decode cX7_judge 7 = .ok (.aload_n 0, 1) := by decide +kernel
theorem dX7_judge_8 : decode cX7_judge 8 = .ok (.getfield 10, 3) := by decide +kernel
theorem dX7_judge_11 : decode cX7_judge 11 = .ok (.iload_n 2, 1) := by decide +kernel
theorem dX7_judge_12 : decode cX7_judge 12 = .ok (.invokevirtual 101, 3) := by decide +kernel
theorem dX7_judge_15 : decode cX7_judge 15 = .ok (.ifCond .ne 5, 3) := by decide +kernel
theorem dX7_judge_18 : decode cX7_judge 18 = .ok (.iconst (-1), 1) := by decide +kernel
theorem dX7_judge_19 : decode cX7_judge 19 = .ok (.ireturn, 1) := by decide +kernel
theorem dX7_judge_20 : decode cX7_judge 20 = .ok (.aload_n 0, 1) := by decide +kernel
theorem dX7_judge_21 : decode cX7_judge 21 = .ok (.getfield 49, 3) := by decide +kernel
theorem dX7_judge_24 : decode cX7_judge 24 = .ok (.iload_n 1, 1) := by decide +kernel
theorem dX7_judge_25 : decode cX7_judge 25 = .ok (.aaload, 1) := by decide +kernel
theorem dX7_judge_26 : decode cX7_judge 26 = .ok (.astore_n 3, 1) := by decide +kernel
theorem dX7_judge_27 : decode cX7_judge 27 = .ok (.aload_n 3, 1) := by decide +kernel
theorem dX7_judge_28 : decode cX7_judge 28 = .ok (.getfield 271, 3) := by decide +kernel
theorem dX7_judge_31 : decode cX7_judge 31 = .ok (.iconst 3, 1) := by decide +kernel
theorem dX7_judge_32 : decode cX7_judge 32 = .ok (.if_icmp .eq 18, 3) := by decide +kernel
theorem dX7_judge_35 : decode cX7_judge 35 = .ok (.aload_n 3, 1) := by decide +kernel
theorem dX7_judge_36 : decode cX7_judge 36 = .ok (.getfield 271, 3) := by decide +kernel
theorem dX7_judge_39 : decode cX7_judge 39 = .ok (.ifCond .ne 8, 3) := by decide +kernel
theorem dX7_judge_42 : decode cX7_judge 42 = .ok (.bipush (-11), 2) := by decide +kernel
theorem dX7_judge_44 : decode cX7_judge 44 = .ok (.goto 5, 3) := by decide +kernel
theorem dX7_judge_47 : decode cX7_judge 47 = .ok (.bipush (-12), 2) := by decide +kernel
theorem dX7_judge_49 : decode cX7_judge 49 = .ok (.ireturn, 1) := by decide +kernel
theorem dX7_judge_50 : decode cX7_judge 50 = .ok (.aload_n 0, 1) := by decide +kernel
theorem dX7_judge_51 : decode cX7_judge 51 = .ok (.getfield 36, 3) := by decide +kernel
theorem dX7_judge_54 : decode cX7_judge 54 = .ok (.aload_n 0, 1) := by decide +kernel
theorem dX7_judge_55 : decode cX7_judge 55 = .ok (.getfield 10, 3) := by decide +kernel
theorem dX7_judge_58 : decode cX7_judge 58 = .ok (.getfield 108, 3) := by decide +kernel
theorem dX7_judge_61 : decode cX7_judge 61 = .ok (.iload_n 2, 1) := by decide +kernel
theorem dX7_judge_62 : decode cX7_judge 62 = .ok (.aaload, 1) := by decide +kernel
theorem dX7_judge_63 : decode cX7_judge 63 = .ok (.invokevirtual 189, 3) := by decide +kernel
theorem dX7_judge_66 : decode cX7_judge 66 = .ok (.aload_n 0, 1) := by decide +kernel
theorem dX7_judge_67 : decode cX7_judge 67 = .ok (.getfield 36, 3) := by decide +kernel
theorem dX7_judge_70 : decode cX7_judge 70 = .ok (.invokevirtual 220, 3) := by decide +kernel
theorem dX7_judge_73 : decode cX7_judge 73 = .ok (.istore 4, 2) := by decide +kernel
theorem dX7_judge_75 : decode cX7_judge 75 = .ok (.iconst 0, 1) := by decide +kernel
theorem dX7_judge_76 : decode cX7_judge 76 = .ok (.istore 5, 2) := by decide +kernel
theorem dX7_judge_78 : decode cX7_judge 78 = .ok (.iload 5, 2) := by decide +kernel
theorem dX7_judge_80 : decode cX7_judge 80 = .ok (.aload_n 3, 1) := by decide +kernel
theorem dX7_judge_81 : decode cX7_judge 81 = .ok (.getfield 274, 3) := by decide +kernel
theorem dX7_judge_84 : decode cX7_judge 84 = .ok (.if_icmp .ge 47, 3) := by decide +kernel
theorem dX7_judge_87 : decode cX7_judge 87 = .ok (.iload 5, 2) := by decide +kernel
theorem dX7_judge_89 : decode cX7_judge 89 = .ok (.iload 4, 2) := by decide +kernel
theorem dX7_judge_91 : decode cX7_judge 91 = .ok (.if_icmp .ge 31, 3) := by decide +kernel
theorem dX7_judge_94 : decode cX7_judge 94 = .ok (.aload_n 3, 1) := by decide +kernel
theorem dX7_judge_95 : decode cX7_judge 95 = .ok (.getfield 275, 3) := by decide +kernel
theorem dX7_judge_98 : decode cX7_judge 98 = .ok (.iload 5, 2) := by decide +kernel
theorem dX7_judge_100 : decode cX7_judge 100 = .ok (.laload, 1) := by decide +kernel
theorem dX7_judge_101 : decode cX7_judge 101 = .ok (.aload_n 0, 1) := by decide +kernel
theorem dX7_judge_102 : decode cX7_judge 102 = .ok (.getfield 36, 3) := by decide +kernel
theorem dX7_judge_105 : decode cX7_judge 105 = .ok (.getfield 215, 3) := by decide +kernel
theorem dX7_judge_108 : decode cX7_judge 108 = .ok (.aload_n 0, 1) := by decide +kernel
theorem dX7_judge_109 : decode cX7_judge 109 = .ok (.getfield 36, 3) := by decide +kernel
theorem dX7_judge_112 : decode cX7_judge 112 = .ok (.iload 5, 2) := by decide +kernel
theorem dX7_judge_114 : decode cX7_judge 114 = .ok (.invokevirtual 211, 3) := by decide +kernel
theorem dX7_judge_117 : decode cX7_judge 117 = .ok (.laload, 1) := by decide +kernel
theorem dX7_judge_118 : decode cX7_judge 118 = .ok (.lcmp, 1) := by decide +kernel
theorem dX7_judge_119 : decode cX7_judge 119 = .ok (.ifCond .eq 6, 3) := by decide +kernel
theorem dX7_judge_122 : decode cX7_judge 122 = .ok (.iload 5, 2) := by decide +kernel
theorem dX7_judge_124 : decode cX7_judge 124 = .ok (.ireturn, 1) := by decide +kernel
theorem dX7_judge_125 : decode cX7_judge 125 = .ok (.iinc 5 1, 3) := by decide +kernel
theorem dX7_judge_128 : decode cX7_judge 128 = .ok (.goto (-50), 3) := by decide +kernel
theorem dX7_judge_131 : decode cX7_judge 131 = .ok (.iload 4, 2) := by decide +kernel
theorem dX7_judge_133 : decode cX7_judge 133 = .ok (.aload_n 3, 1) := by decide +kernel
theorem dX7_judge_134 : decode cX7_judge 134 = .ok (.getfield 274, 3) := by decide +kernel
theorem dX7_judge_137 : decode cX7_judge 137 = .ok (.if_icmp .le 10, 3) := by decide +kernel
theorem dX7_judge_140 : decode cX7_judge 140 = .ok (.aload_n 3, 1) := by decide +kernel
theorem dX7_judge_141 : decode cX7_judge 141 = .ok (.getfield 274, 3) := by decide +kernel
theorem dX7_judge_144 : decode cX7_judge 144 = .ok (.goto 5, 3) := by decide +kernel
theorem dX7_judge_147 : decode cX7_judge 147 = .ok (.bipush (-2), 2) := by decide +kernel
theorem dX7_judge_149 : decode cX7_judge 149 = .ok (.ireturn, 1) := by decide +kernel
theorem dX7_feed_0 : decode cX7_feed 0 = .ok (.iload_n 1, 1) := by decide +kernel
theorem dX7_feed_1 : decode cX7_feed 1 = .ok (.iconst 0, 1) := by decide +kernel
theorem dX7_feed_2 : decode cX7_feed 2 = .ok (.sipush 255, 3) := by decide +kernel
theorem dX7_feed_5 : decode cX7_feed 5 = .ok (.invokestatic 67, 3) := by decide +kernel
theorem dX7_feed_8 : decode cX7_feed 8 = .ok (.ifCond .ne 5, 3) := by decide +kernel
theorem dX7_feed_11 : decode cX7_feed 11 = .ok (.iconst (-1), 1) := by decide +kernel
theorem dX7_feed_12 : decode cX7_feed 12 = .ok (.ireturn, 1) := by decide +kernel
theorem dX7_feed_13 : decode cX7_feed 13 = .ok (.aload_n 0, 1) := by decide +kernel
theorem dX7_feed_14 : decode cX7_feed 14 = .ok (.getfield 43, 3) := by decide +kernel
theorem dX7_feed_17 : decode cX7_feed 17 = .ok (.getfield 278, 3) := by decide +kernel
theorem dX7_feed_20 : decode cX7_feed 20 = .ok (.bipush 120, 2) := by decide +kernel
theorem dX7_feed_22 : decode cX7_feed 22 = .ok (.if_icmp .lt 6, 3) := by decide +kernel
theorem dX7_feed_25 : decode cX7_feed 25 = .ok (.bipush (-3), 2) := by decide +kernel
theorem dX7_feed_27 : decode cX7_feed 27 = .ok (.ireturn, 1) := by decide +kernel
theorem dX7_feed_28 : decode cX7_feed 28 = .ok (.aload_n 0, 1) := by decide +kernel
theorem dX7_feed_29 : decode cX7_feed 29 = .ok (.getfield 43, 3) := by decide +kernel
theorem dX7_feed_32 : decode cX7_feed 32 = .ok (.getfield 281, 3) := by decide +kernel
theorem dX7_feed_35 : decode cX7_feed 35 = .ok (.aload_n 0, 1) := by decide +kernel
theorem dX7_feed_36 : decode cX7_feed 36 = .ok (.getfield 43, 3) := by decide +kernel
theorem dX7_feed_39 : decode cX7_feed 39 = .ok (.getfield 278, 3) := by decide +kernel
theorem dX7_feed_42 : decode cX7_feed 42 = .ok (.iload_n 1, 1) := by decide +kernel
theorem dX7_feed_43 : decode cX7_feed 43 = .ok (.iastore, 1) := by decide +kernel
theorem dX7_feed_44 : decode cX7_feed 44 = .ok (.aload_n 0, 1) := by decide +kernel
theorem dX7_feed_45 : decode cX7_feed 45 = .ok (.getfield 43, 3) := by decide +kernel
theorem dX7_feed_48 : decode cX7_feed 48 = .ok (.dup, 1) := by decide +kernel
theorem dX7_feed_49 : decode cX7_feed 49 = .ok (.getfield 278, 3) := by decide +kernel
theorem dX7_feed_52 : decode cX7_feed 52 = .ok (.iconst 1, 1) := by decide +kernel
theorem dX7_feed_53 : decode cX7_feed 53 = .ok (.iadd, 1) := by decide +kernel
theorem dX7_feed_54 : decode cX7_feed 54 = .ok (.putfield 278, 3) := by decide +kernel
theorem dX7_feed_57 : decode cX7_feed 57 = .ok (.aload_n 0, 1) := by decide +kernel
theorem dX7_feed_58 : decode cX7_feed 58 = .ok (.getfield 43, 3) := by decide +kernel
theorem dX7_feed_61 : decode cX7_feed 61 = .ok (.getfield 278, 3) := by decide +kernel
theorem dX7_feed_64 : decode cX7_feed 64 = .ok (.ireturn, 1) := by decide +kernel
theorem dX7_script_0 : decode cX7_script 0 = .ok (.aload_n 0, 1) := by decide +kernel
theorem dX7_script_1 : decode cX7_script 1 = .ok (.getfield 43, 3) := by decide +kernel
theorem dX7_script_4 : decode cX7_script 4 = .ok (.invokevirtual 284, 3) := by decide +kernel
theorem dX7_script_7 : decode cX7_script 7 = .ok (.istore_n 1, 1) := by decide +kernel
theorem dX7_script_8 : decode cX7_script 8 = .ok (.iload_n 1, 1) := by decide +kernel
theorem dX7_script_9 : decode cX7_script 9 = .ok (.iconst (-1), 1) := by decide +kernel
theorem dX7_script_10 : decode cX7_script 10 = .ok (.if_icmp .eq 17, 3) := by decide +kernel
theorem dX7_script_13 : decode cX7_script 13 = .ok (.aload_n 0, 1) := by decide +kernel
theorem dX7_script_14 : decode cX7_script 14 = .ok (.getfield 43, 3) := by decide +kernel
theorem dX7_script_17 : decode cX7_script 17 = .ok (.iconst 0, 1) := by decide +kernel
theorem dX7_script_18 : decode cX7_script 18 = .ok (.putfield 278, 3) := by decide +kernel
theorem dX7_script_21 : decode cX7_script 21 = .ok (.sipush (-1000), 3) := by decide +kernel
theorem dX7_script_24 : decode cX7_script 24 = .ok (.iload_n 1, 1) := by decide +kernel
theorem dX7_script_25 : decode cX7_script 25 = .ok (.isub, 1) := by decide +kernel
theorem dX7_script_26 : decode cX7_script 26 = .ok (.ireturn, 1) := by decide +kernel
theorem dX7_script_27 : decode cX7_script 27 = .ok (.aload_n 0, 1) := by decide +kernel
theorem dX7_script_28 : decode cX7_script 28 = .ok (.getfield 16, 3) := by decide +kernel
theorem dX7_script_31 : decode cX7_script 31 = .ok (.aload_n 0, 1) := by decide +kernel
theorem dX7_script_32 : decode cX7_script 32 = .ok (.getfield 10, 3) := by decide +kernel
theorem dX7_script_35 : decode cX7_script 35 = .ok (.invokevirtual 287, 3) := by decide +kernel
theorem dX7_script_38 : decode cX7_script 38 = .ok (.aload_n 0, 1) := by decide +kernel
theorem dX7_script_39 : decode cX7_script 39 = .ok (.getfield 43, 3) := by decide +kernel
theorem dX7_script_42 : decode cX7_script 42 = .ok (.iconst 0, 1) := by decide +kernel
theorem dX7_script_43 : decode cX7_script 43 = .ok (.putfield 290, 3) := by decide +kernel
theorem dX7_script_46 : decode cX7_script 46 = .ok (.iconst 0, 1) := by decide +kernel
theorem dX7_script_47 : decode cX7_script 47 = .ok (.istore_n 2, 1) := by decide +kernel
theorem dX7_script_48 : decode cX7_script 48 = .ok (.iconst 0, 1) := by decide +kernel
theorem dX7_script_49 : decode cX7_script 49 = .ok (.istore_n 3, 1) := by decide +kernel
theorem dX7_script_50 : decode cX7_script 50 = .ok (.iload_n 2, 1) := by decide +kernel
theorem dX7_script_51 : decode cX7_script 51 = .ok (.bipush 120, 2) := by decide +kernel
theorem dX7_script_53 : decode cX7_script 53 = .ok (.if_icmp .ge 55, 3) := by decide +kernel
theorem dX7_script_56 : decode cX7_script 56 = .ok (.iload_n 3, 1) := by decide +kernel
theorem dX7_script_57 : decode cX7_script 57 = .ok (.ifCond .ne 51, 3) := by decide +kernel
theorem dX7_script_60 : decode cX7_script 60 = .ok (.aload_n 0, 1) := by decide +kernel
theorem dX7_script_61 : decode cX7_script 61 = .ok (.getfield 43, 3) := by decide +kernel
theorem dX7_script_64 : decode cX7_script 64 = .ok (.invokevirtual 293, 3) := by decide +kernel
theorem dX7_script_67 : decode cX7_script 67 = .ok (.ifCond .eq 41, 3) := by decide +kernel
theorem dX7_script_70 : decode cX7_script 70 = .ok (.aload_n 0, 1) := by decide +kernel
theorem dX7_script_71 : decode cX7_script 71 = .ok (.invokevirtual 296, 3) := by decide +kernel
theorem dX7_script_74 : decode cX7_script 74 = .ok (.lconst 0, 1) := by decide +kernel
theorem dX7_script_75 : decode cX7_script 75 = .ok (.lcmp, 1) := by decide +kernel
theorem dX7_script_76 : decode cX7_script 76 = .ok (.ifCond .ge 7, 3) := by decide +kernel
theorem dX7_script_79 : decode cX7_script 79 = .ok (.iconst 1, 1) := by decide +kernel
theorem dX7_script_80 : decode cX7_script 80 = .ok (.goto 4, 3) := by decide +kernel
theorem dX7_script_83 : decode cX7_script 83 = .ok (.iconst 0, 1) := by decide +kernel
theorem dX7_script_84 : decode cX7_script 84 = .ok (.istore_n 3, 1) := by decide +kernel
theorem dX7_script_85 : decode cX7_script 85 = .ok (.iload_n 3, 1) := by decide +kernel
theorem dX7_script_86 : decode cX7_script 86 = .ok (.ifCond .ne (-36), 3) := by decide +kernel
theorem dX7_script_89 : decode cX7_script 89 = .ok (.iinc 2 1, 3) := by decide +kernel
theorem dX7_script_92 : decode cX7_script 92 = .ok (.aload_n 0, 1) := by decide +kernel
theorem dX7_script_93 : decode cX7_script 93 = .ok (.getfield 43, 3) := by decide +kernel
theorem dX7_script_96 : decode cX7_script 96 = .ok (.dup, 1) := by decide +kernel
theorem dX7_script_97 : decode cX7_script 97 = .ok (.getfield 290, 3) := by decide +kernel
theorem dX7_script_100 : decode cX7_script 100 = .ok (.iconst 1, 1) := by decide +kernel
theorem dX7_script_101 : decode cX7_script 101 = .ok (.iadd, 1) := by decide +kernel
theorem dX7_script_102 : decode cX7_script 102 = .ok (.putfield 290, 3) := by decide +kernel
theorem dX7_script_105 : decode cX7_script 105 = .ok (.goto (-55), 3) := by decide +kernel
theorem dX7_script_108 : decode cX7_script 108 = .ok (.aload_n 0, 1) := by decide +kernel
theorem dX7_script_109 : decode cX7_script 109 = .ok (.getfield 43, 3) := by decide +kernel
theorem dX7_script_112 : decode cX7_script 112 = .ok (.iconst 0, 1) := by decide +kernel
theorem dX7_script_113 : decode cX7_script 113 = .ok (.putfield 278, 3) := by decide +kernel
theorem dX7_script_116 : decode cX7_script 116 = .ok (.iload_n 3, 1) := by decide +kernel
theorem dX7_script_117 : decode cX7_script 117 = .ok (.ifCond .eq 20, 3) := by decide +kernel
theorem dX7_script_120 : decode cX7_script 120 = .ok (.aload_n 0, 1) := by decide +kernel
theorem dX7_script_121 : decode cX7_script 121 = .ok (.getfield 10, 3) := by decide +kernel
theorem dX7_script_124 : decode cX7_script 124 = .ok (.aload_n 0, 1) := by decide +kernel
theorem dX7_script_125 : decode cX7_script 125 = .ok (.getfield 16, 3) := by decide +kernel
theorem dX7_script_128 : decode cX7_script 128 = .ok (.invokevirtual 287, 3) := by decide +kernel
theorem dX7_script_131 : decode cX7_script 131 = .ok (.sipush (-2000), 3) := by decide +kernel
theorem dX7_script_134 : decode cX7_script 134 = .ok (.iload_n 2, 1) := by decide +kernel
theorem dX7_script_135 : decode cX7_script 135 = .ok (.isub, 1) := by decide +kernel
theorem dX7_script_136 : decode cX7_script 136 = .ok (.ireturn, 1) := by decide +kernel
theorem dX7_script_137 : decode cX7_script 137 = .ok (.iload_n 2, 1) := by decide +kernel
theorem dX7_script_138 : decode cX7_script 138 = .ok (.ireturn, 1) := by decide +kernel
theorem dX7_image_0 : decode cX7_image 0 = .ok (.aload_n 0, 1) := by decide +kernel
theorem dX7_image_1 : decode cX7_image 1 = .ok (.getfield 19, 3) := by decide +kernel
theorem dX7_image_4 : decode cX7_image 4 = .ok (.aload_n 0, 1) := by decide +kernel
theorem dX7_image_5 : decode cX7_image 5 = .ok (.getfield 10, 3) := by decide +kernel
theorem dX7_image_8 : decode cX7_image 8 = .ok (.invokevirtual 287, 3) := by decide +kernel
theorem dX7_image_11 : decode cX7_image 11 = .ok (.aload_n 0, 1) := by decide +kernel
theorem dX7_image_12 : decode cX7_image 12 = .ok (.iconst 1, 1) := by decide +kernel
theorem dX7_image_13 : decode cX7_image 13 = .ok (.putfield 22, 3) := by decide +kernel
theorem dX7_image_16 : decode cX7_image 16 = .ok (.aload_n 0, 1) := by decide +kernel
theorem dX7_image_17 : decode cX7_image 17 = .ok (.getfield 10, 3) := by decide +kernel
theorem dX7_image_20 : decode cX7_image 20 = .ok (.getfield 93, 3) := by decide +kernel
theorem dX7_image_23 : decode cX7_image 23 = .ok (.ireturn, 1) := by decide +kernel
theorem dX7_back_0 : decode cX7_back 0 = .ok (.aload_n 0, 1) := by decide +kernel
theorem dX7_back_1 : decode cX7_back 1 = .ok (.getfield 22, 3) := by decide +kernel
theorem dX7_back_4 : decode cX7_back 4 = .ok (.ifCond .ne 6, 3) := by decide +kernel
theorem dX7_back_7 : decode cX7_back 7 = .ok (.bipush (-5), 2) := by decide +kernel
theorem dX7_back_9 : decode cX7_back 9 = .ok (.ireturn, 1) := by decide +kernel
theorem dX7_back_10 : decode cX7_back 10 = .ok (.aload_n 0, 1) := by decide +kernel
theorem dX7_back_11 : decode cX7_back 11 = .ok (.getfield 10, 3) := by decide +kernel
theorem dX7_back_14 : decode cX7_back 14 = .ok (.aload_n 0, 1) := by decide +kernel
theorem dX7_back_15 : decode cX7_back 15 = .ok (.getfield 19, 3) := by decide +kernel
theorem dX7_back_18 : decode cX7_back 18 = .ok (.invokevirtual 287, 3) := by decide +kernel
theorem dX7_back_21 : decode cX7_back 21 = .ok (.iconst 0, 1) := by decide +kernel
theorem dX7_back_22 : decode cX7_back 22 = .ok (.istore_n 1, 1) := by decide +kernel
theorem dX7_back_23 : decode cX7_back 23 = .ok (.iload_n 1, 1) := by decide +kernel
theorem dX7_back_24 : decode cX7_back 24 = .ok (.bipush 6, 2) := by decide +kernel
theorem dX7_back_26 : decode cX7_back 26 = .ok (.if_icmp .ge 51, 3) := by decide +kernel
theorem dX7_back_29 : decode cX7_back 29 = .ok (.aload_n 0, 1) := by decide +kernel
theorem dX7_back_30 : decode cX7_back 30 = .ok (.getfield 49, 3) := by decide +kernel
theorem dX7_back_33 : decode cX7_back 33 = .ok (.iload_n 1, 1) := by decide +kernel
theorem dX7_back_34 : decode cX7_back 34 = .ok (.aaload, 1) := by decide +kernel
theorem dX7_back_35 : decode cX7_back 35 = .ok (.getfield 271, 3) := by decide +kernel
theorem dX7_back_38 : decode cX7_back 38 = .ok (.iconst 1, 1) := by decide +kernel
theorem dX7_back_39 : decode cX7_back 39 = .ok (.if_icmp .ne 32, 3) := by decide +kernel
theorem dX7_back_42 : decode cX7_back 42 = .ok (.aload_n 0, 1) := by decide +kernel
theorem dX7_back_43 : decode cX7_back 43 = .ok (.getfield 10, 3) := by decide +kernel
theorem dX7_back_46 : decode cX7_back 46 = .ok (.aload_n 0, 1) := by decide +kernel
theorem dX7_back_47 : decode cX7_back 47 = .ok (.getfield 49, 3) := by decide +kernel
theorem dX7_back_50 : decode cX7_back 50 = .ok (.iload_n 1, 1) := by decide +kernel
theorem dX7_back_51 : decode cX7_back 51 = .ok (.aaload, 1) := by decide +kernel
theorem dX7_back_52 : decode cX7_back 52 = .ok (.getfield 299, 3) := by decide +kernel
theorem dX7_back_55 : decode cX7_back 55 = .ok (.invokevirtual 101, 3) := by decide +kernel
theorem dX7_back_58 : decode cX7_back 58 = .ok (.ifCond .ne 13, 3) := by decide +kernel
theorem dX7_back_61 : decode cX7_back 61 = .ok (.aload_n 0, 1) := by decide +kernel
theorem dX7_back_62 : decode cX7_back 62 = .ok (.getfield 49, 3) := by decide +kernel
theorem dX7_back_65 : decode cX7_back 65 = .ok (.iload_n 1, 1) := by decide +kernel
theorem dX7_back_66 : decode cX7_back 66 = .ok (.aaload, 1) := by decide +kernel
theorem dX7_back_67 : decode cX7_back 67 = .ok (.iconst 0, 1) := by decide +kernel
theorem dX7_back_68 : decode cX7_back 68 = .ok (.putfield 271, 3) := by decide +kernel
theorem dX7_back_71 : decode cX7_back 71 = .ok (.iinc 1 1, 3) := by decide +kernel
theorem dX7_back_74 : decode cX7_back 74 = .ok (.goto (-51), 3) := by decide +kernel
theorem dX7_back_77 : decode cX7_back 77 = .ok (.aload_n 0, 1) := by decide +kernel
theorem dX7_back_78 : decode cX7_back 78 = .ok (.getfield 10, 3) := by decide +kernel
theorem dX7_back_81 : decode cX7_back 81 = .ok (.getfield 93, 3) := by decide +kernel
theorem dX7_back_84 : decode cX7_back 84 = .ok (.ireturn, 1) := by decide +kernel
theorem dX7_hold_0 : decode cX7_hold 0 = .ok (.iload_n 1, 1) := by decide +kernel
theorem dX7_hold_1 : decode cX7_hold 1 = .ok (.invokestatic 268, 3) := by decide +kernel
theorem dX7_hold_4 : decode cX7_hold 4 = .ok (.ifCond .eq 19, 3) := by decide +kernel
theorem dX7_hold_7 : decode cX7_hold 7 = .ok (.aload_n 0, 1) := by decide +kernel
theorem dX7_hold_8 : decode cX7_hold 8 = .ok (.getfield 10, 3) := by decide +kernel
theorem dX7_hold_11 : decode cX7_hold 11 = .ok (.iload_n 2, 1) := by decide +kernel
theorem dX7_hold_12 : decode cX7_hold 12 = .ok (.invokevirtual 101, 3) := by decide +kernel
theorem dX7_hold_15 : decode cX7_hold 15 = .ok (.ifCond .eq 8, 3) := by decide +kernel
theorem dX7_hold_18 : decode cX7_hold 18 = .ok (.iload_n 3, 1) := by decide +kernel
theorem dX7_hold_19 : decode cX7_hold 19 = .ok (.iconst (-1), 1) := by decide +kernel
theorem dX7_hold_20 : decode cX7_hold 20 = .ok (.if_icmp .ge 5, 3) := by decide +kernel
theorem dX7_hold_23 : decode cX7_hold 23 = .ok (.iconst (-1), 1) := by decide +kernel
theorem dX7_hold_24 : decode cX7_hold 24 = .ok (.ireturn, 1) := by decide +kernel
theorem dX7_hold_25 : decode cX7_hold 25 = .ok (.iload_n 3, 1) := by decide +kernel
theorem dX7_hold_26 : decode cX7_hold 26 = .ok (.iconst (-1), 1) := by decide +kernel
theorem dX7_hold_27 : decode cX7_hold 27 = .ok (.if_icmp .ne 15, 3) := by decide +kernel
theorem dX7_hold_30 : decode cX7_hold 30 = .ok (.aload_n 0, 1) := by decide +kernel
theorem dX7_hold_31 : decode cX7_hold 31 = .ok (.getfield 49, 3) := by decide +kernel
theorem dX7_hold_34 : decode cX7_hold 34 = .ok (.iload_n 1, 1) := by decide +kernel
theorem dX7_hold_35 : decode cX7_hold 35 = .ok (.aaload, 1) := by decide +kernel
theorem dX7_hold_36 : decode cX7_hold 36 = .ok (.iload_n 2, 1) := by decide +kernel
theorem dX7_hold_37 : decode cX7_hold 37 = .ok (.invokevirtual 302, 3) := by decide +kernel
theorem dX7_hold_40 : decode cX7_hold 40 = .ok (.iconst 1, 1) := by decide +kernel
theorem dX7_hold_41 : decode cX7_hold 41 = .ok (.ireturn, 1) := by decide +kernel
theorem dX7_hold_42 : decode cX7_hold 42 = .ok (.aload_n 0, 1) := by decide +kernel
theorem dX7_hold_43 : decode cX7_hold 43 = .ok (.getfield 10, 3) := by decide +kernel
theorem dX7_hold_46 : decode cX7_hold 46 = .ok (.getfield 108, 3) := by decide +kernel
theorem dX7_hold_49 : decode cX7_hold 49 = .ok (.iload_n 2, 1) := by decide +kernel
theorem dX7_hold_50 : decode cX7_hold 50 = .ok (.aaload, 1) := by decide +kernel
theorem dX7_hold_51 : decode cX7_hold 51 = .ok (.astore 4, 2) := by decide +kernel
theorem dX7_hold_53 : decode cX7_hold 53 = .ok (.aload 4, 2) := by decide +kernel
theorem dX7_hold_55 : decode cX7_hold 55 = .ok (.iload_n 3, 1) := by decide +kernel
theorem dX7_hold_56 : decode cX7_hold 56 = .ok (.invokevirtual 196, 3) := by decide +kernel
theorem dX7_hold_59 : decode cX7_hold 59 = .ok (.istore 5, 2) := by decide +kernel
theorem dX7_hold_61 : decode cX7_hold 61 = .ok (.iload 5, 2) := by decide +kernel
theorem dX7_hold_63 : decode cX7_hold 63 = .ok (.ifCond .ne 6, 3) := by decide +kernel
theorem dX7_hold_66 : decode cX7_hold 66 = .ok (.bipush (-2), 2) := by decide +kernel
theorem dX7_hold_68 : decode cX7_hold 68 = .ok (.ireturn, 1) := by decide +kernel
theorem dX7_hold_69 : decode cX7_hold 69 = .ok (.aload_n 0, 1) := by decide +kernel
theorem dX7_hold_70 : decode cX7_hold 70 = .ok (.getfield 49, 3) := by decide +kernel
theorem dX7_hold_73 : decode cX7_hold 73 = .ok (.iload_n 1, 1) := by decide +kernel
theorem dX7_hold_74 : decode cX7_hold 74 = .ok (.aaload, 1) := by decide +kernel
theorem dX7_hold_75 : decode cX7_hold 75 = .ok (.aload 4, 2) := by decide +kernel
theorem dX7_hold_77 : decode cX7_hold 77 = .ok (.getfield 154, 3) := by decide +kernel
theorem dX7_hold_80 : decode cX7_hold 80 = .ok (.iload 5, 2) := by decide +kernel
theorem dX7_hold_82 : decode cX7_hold 82 = .ok (.iaload, 1) := by decide +kernel
theorem dX7_hold_83 : decode cX7_hold 83 = .ok (.aload 4, 2) := by decide +kernel
theorem dX7_hold_85 : decode cX7_hold 85 = .ok (.iload 5, 2) := by decide +kernel
theorem dX7_hold_87 : decode cX7_hold 87 = .ok (.invokevirtual 306, 3) := by decide +kernel
theorem dX7_hold_90 : decode cX7_hold 90 = .ok (.invokevirtual 310, 3) := by decide +kernel
theorem dX7_hold_93 : decode cX7_hold 93 = .ok (.iconst 1, 1) := by decide +kernel
theorem dX7_hold_94 : decode cX7_hold 94 = .ok (.ireturn, 1) := by decide +kernel
theorem dX7_row_0 : decode cX7_row 0 = .ok (.iload_n 1, 1) := by decide +kernel
theorem dX7_row_1 : decode cX7_row 1 = .ok (.invokestatic 268, 3) := by decide +kernel
theorem dX7_row_4 : decode cX7_row 4 = .ok (.ifCond .eq 9, 3) := by decide +kernel
theorem dX7_row_7 : decode cX7_row 7 = .ok (.iload_n 2, 1) := by decide +kernel
theorem dX7_row_8 : decode cX7_row 8 = .ok (.bipush 60, 2) := by decide +kernel
theorem dX7_row_10 : decode cX7_row 10 = .ok (.if_icmp .le 5, 3) := by decide +kernel
theorem dX7_row_13 : decode cX7_row 13 = .ok (.iconst (-1), 1) := by decide +kernel
theorem dX7_row_14 : decode cX7_row 14 = .ok (.ireturn, 1) := by decide +kernel
theorem dX7_row_15 : decode cX7_row 15 = .ok (.iload_n 2, 1) := by decide +kernel
theorem dX7_row_16 : decode cX7_row 16 = .ok (.iconst (-1), 1) := by decide +kernel
theorem dX7_row_17 : decode cX7_row 17 = .ok (.if_icmp .ge 6, 3) := by decide +kernel
theorem dX7_row_20 : decode cX7_row 20 = .ok (.bipush (-14), 2) := by decide +kernel
theorem dX7_row_22 : decode cX7_row 22 = .ok (.ireturn, 1) := by decide +kernel
theorem dX7_row_23 : decode cX7_row 23 = .ok (.iload_n 2, 1) := by decide +kernel
theorem dX7_row_24 : decode cX7_row 24 = .ok (.iconst (-1), 1) := by decide +kernel
theorem dX7_row_25 : decode cX7_row 25 = .ok (.if_icmp .ne 16, 3) := by decide +kernel
theorem dX7_row_28 : decode cX7_row 28 = .ok (.aload_n 0, 1) := by decide +kernel
theorem dX7_row_29 : decode cX7_row 29 = .ok (.getfield 49, 3) := by decide +kernel
theorem dX7_row_32 : decode cX7_row 32 = .ok (.iload_n 1, 1) := by decide +kernel
theorem dX7_row_33 : decode cX7_row 33 = .ok (.aaload, 1) := by decide +kernel
theorem dX7_row_34 : decode cX7_row 34 = .ok (.iconst 0, 1) := by decide +kernel
theorem dX7_row_35 : decode cX7_row 35 = .ok (.putfield 271, 3) := by decide +kernel
theorem dX7_row_38 : decode cX7_row 38 = .ok (.goto 13, 3) := by decide +kernel
theorem dX7_row_41 : decode cX7_row 41 = .ok (.aload_n 0, 1) := by decide +kernel
theorem dX7_row_42 : decode cX7_row 42 = .ok (.getfield 49, 3) := by decide +kernel
theorem dX7_row_45 : decode cX7_row 45 = .ok (.iload_n 1, 1) := by decide +kernel
theorem dX7_row_46 : decode cX7_row 46 = .ok (.aaload, 1) := by decide +kernel
theorem dX7_row_47 : decode cX7_row 47 = .ok (.iload_n 2, 1) := by decide +kernel
theorem dX7_row_48 : decode cX7_row 48 = .ok (.invokevirtual 314, 3) := by decide +kernel
theorem dX7_row_51 : decode cX7_row 51 = .ok (.iconst 1, 1) := by decide +kernel
theorem dX7_row_52 : decode cX7_row 52 = .ok (.ireturn, 1) := by decide +kernel
theorem dX7_put_0 : decode cX7_put 0 = .ok (.iload_n 1, 1) := by decide +kernel
