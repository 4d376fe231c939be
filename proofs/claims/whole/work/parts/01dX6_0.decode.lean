theorem dX6_init_0 : decode cX6_init 0 = .ok (.aload_n 0, 1) := by decide +kernel
theorem dX6_init_1 : decode cX6_init 1 = .ok (.invokespecial 3, 3) := by decide +kernel
theorem dX6_init_4 : decode cX6_init 4 = .ok (.aload_n 0, 1) := by decide +kernel
theorem dX6_init_5 : decode cX6_init 5 = .ok (.iconst 0, 1) := by decide +kernel
theorem dX6_init_6 : decode cX6_init 6 = .ok (.putfield 9, 3) := by decide +kernel
theorem dX6_init_9 : decode cX6_init 9 = .ok (.aload_n 0, 1) := by decide +kernel
theorem dX6_init_10 : decode cX6_init 10 = .ok (.iconst 0, 1) := by decide +kernel
theorem dX6_init_11 : decode cX6_init 11 = .ok (.putfield 15, 3) := by decide +kernel
theorem dX6_init_14 : decode cX6_init 14 = .ok (.aload_n 0, 1) := by decide +kernel
theorem dX6_init_15 : decode cX6_init 15 = .ok (.iconst (-1), 1) := by decide +kernel
theorem dX6_init_16 : decode cX6_init 16 = .ok (.putfield 18, 3) := by decide +kernel
theorem dX6_init_19 : decode cX6_init 19 = .ok (.aload_n 0, 1) := by decide +kernel
theorem dX6_init_20 : decode cX6_init 20 = .ok (.bipush 120, 2) := by decide +kernel
theorem dX6_init_22 : decode cX6_init 22 = .ok (.newarray .int, 2) := by decide +kernel
theorem dX6_init_24 : decode cX6_init 24 = .ok (.putfield 21, 3) := by decide +kernel
theorem dX6_init_27 : decode cX6_init 27 = .ok (.aload_n 0, 1) := by decide +kernel
theorem dX6_init_28 : decode cX6_init 28 = .ok (.bipush 6, 2) := by decide +kernel
theorem dX6_init_30 : decode cX6_init 30 = .ok (.newarray .int, 2) := by decide +kernel
theorem dX6_init_32 : decode cX6_init 32 = .ok (.putfield 25, 3) := by decide +kernel
theorem dX6_init_35 : decode cX6_init 35 = .ok (.return_, 1) := by decide +kernel
theorem dX6_placeOfFault_0 : decode cX6_placeOfFault 0 = .ok (.aload_n 0, 1) := by decide +kernel
theorem dX6_placeOfFault_1 : decode cX6_placeOfFault 1 = .ok (.iconst 0, 1) := by decide +kernel
theorem dX6_placeOfFault_2 : decode cX6_placeOfFault 2 = .ok (.putfield 15, 3) := by decide +kernel
theorem dX6_placeOfFault_5 : decode cX6_placeOfFault 5 = .ok (.iconst 0, 1) := by decide +kernel
theorem dX6_placeOfFault_6 : decode cX6_placeOfFault 6 = .ok (.istore_n 1, 1) := by decide +kernel
theorem dX6_placeOfFault_7 : decode cX6_placeOfFault 7 = .ok (.iload_n 1, 1) := by decide +kernel
theorem dX6_placeOfFault_8 : decode cX6_placeOfFault 8 = .ok (.bipush 120, 2) := by decide +kernel
theorem dX6_placeOfFault_10 : decode cX6_placeOfFault 10 = .ok (.if_icmp .ge 58, 3) := by decide +kernel
theorem dX6_placeOfFault_13 : decode cX6_placeOfFault 13 = .ok (.aload_n 0, 1) := by decide +kernel
theorem dX6_placeOfFault_14 : decode cX6_placeOfFault 14 = .ok (.invokevirtual 28, 3) := by decide +kernel
theorem dX6_placeOfFault_17 : decode cX6_placeOfFault 17 = .ok (.ifCond .ne 8, 3) := by decide +kernel
theorem dX6_placeOfFault_20 : decode cX6_placeOfFault 20 = .ok (.aload_n 0, 1) := by decide +kernel
theorem dX6_placeOfFault_21 : decode cX6_placeOfFault 21 = .ok (.getfield 15, 3) := by decide +kernel
theorem dX6_placeOfFault_24 : decode cX6_placeOfFault 24 = .ok (.ireturn, 1) := by decide +kernel
theorem dX6_placeOfFault_25 : decode cX6_placeOfFault 25 = .ok (.aload_n 0, 1) := by decide +kernel
theorem dX6_placeOfFault_26 : decode cX6_placeOfFault 26 = .ok (.getfield 15, 3) := by decide +kernel
theorem dX6_placeOfFault_29 : decode cX6_placeOfFault 29 = .ok (.aload_n 0, 1) := by decide +kernel
theorem dX6_placeOfFault_30 : decode cX6_placeOfFault 30 = .ok (.getfield 9, 3) := by decide +kernel
theorem dX6_placeOfFault_33 : decode cX6_placeOfFault 33 = .ok (.if_icmp .lt 5, 3) := by decide +kernel
theorem dX6_placeOfFault_36 : decode cX6_placeOfFault 36 = .ok (.iconst (-1), 1) := by decide +kernel
theorem dX6_placeOfFault_37 : decode cX6_placeOfFault 37 = .ok (.ireturn, 1) := by decide +kernel
theorem dX6_placeOfFault_38 : decode cX6_placeOfFault 38 = .ok (.aload_n 0, 1) := by decide +kernel
theorem dX6_placeOfFault_39 : decode cX6_placeOfFault 39 = .ok (.invokevirtual 32, 3) := by decide +kernel
theorem dX6_placeOfFault_42 : decode cX6_placeOfFault 42 = .ok (.bipush 59, 2) := by decide +kernel
theorem dX6_placeOfFault_44 : decode cX6_placeOfFault 44 = .ok (.if_icmp .eq 8, 3) := by decide +kernel
theorem dX6_placeOfFault_47 : decode cX6_placeOfFault 47 = .ok (.aload_n 0, 1) := by decide +kernel
theorem dX6_placeOfFault_48 : decode cX6_placeOfFault 48 = .ok (.getfield 15, 3) := by decide +kernel
theorem dX6_placeOfFault_51 : decode cX6_placeOfFault 51 = .ok (.ireturn, 1) := by decide +kernel
theorem dX6_placeOfFault_52 : decode cX6_placeOfFault 52 = .ok (.aload_n 0, 1) := by decide +kernel
theorem dX6_placeOfFault_53 : decode cX6_placeOfFault 53 = .ok (.dup, 1) := by decide +kernel
theorem dX6_placeOfFault_54 : decode cX6_placeOfFault 54 = .ok (.getfield 15, 3) := by decide +kernel
theorem dX6_placeOfFault_57 : decode cX6_placeOfFault 57 = .ok (.iconst 1, 1) := by decide +kernel
theorem dX6_placeOfFault_58 : decode cX6_placeOfFault 58 = .ok (.iadd, 1) := by decide +kernel
theorem dX6_placeOfFault_59 : decode cX6_placeOfFault 59 = .ok (.putfield 15, 3) := by decide +kernel
theorem dX6_placeOfFault_62 : decode cX6_placeOfFault 62 = .ok (.iinc 1 1, 3) := by decide +kernel
theorem dX6_placeOfFault_65 : decode cX6_placeOfFault 65 = .ok (.goto (-58), 3) := by decide +kernel
theorem dX6_placeOfFault_68 : decode cX6_placeOfFault 68 = .ok (.aload_n 0, 1) := by decide +kernel
theorem dX6_placeOfFault_69 : decode cX6_placeOfFault 69 = .ok (.getfield 15, 3) := by decide +kernel
theorem dX6_placeOfFault_72 : decode cX6_placeOfFault 72 = .ok (.ireturn, 1) := by decide +kernel
theorem dX6_readLine_0 : decode cX6_readLine 0 = .ok (.aload_n 0, 1) := by decide +kernel
theorem dX6_readLine_1 : decode cX6_readLine 1 = .ok (.aload_n 0, 1) := by decide +kernel
theorem dX6_readLine_2 : decode cX6_readLine 2 = .ok (.invokevirtual 32, 3) := by decide +kernel
theorem dX6_readLine_5 : decode cX6_readLine 5 = .ok (.putfield 18, 3) := by decide +kernel
theorem dX6_readLine_8 : decode cX6_readLine 8 = .ok (.aload_n 0, 1) := by decide +kernel
theorem dX6_readLine_9 : decode cX6_readLine 9 = .ok (.getfield 18, 3) := by decide +kernel
theorem dX6_readLine_12 : decode cX6_readLine 12 = .ok (.invokestatic 36, 3) := by decide +kernel
theorem dX6_readLine_15 : decode cX6_readLine 15 = .ok (.istore_n 1, 1) := by decide +kernel
theorem dX6_readLine_16 : decode cX6_readLine 16 = .ok (.iload_n 1, 1) := by decide +kernel
theorem dX6_readLine_17 : decode cX6_readLine 17 = .ok (.ifCond .ne 5, 3) := by decide +kernel
theorem dX6_readLine_20 : decode cX6_readLine 20 = .ok (.iconst 0, 1) := by decide +kernel
theorem dX6_readLine_21 : decode cX6_readLine 21 = .ok (.ireturn, 1) := by decide +kernel
theorem dX6_readLine_22 : decode cX6_readLine 22 = .ok (.aload_n 0, 1) := by decide +kernel
theorem dX6_readLine_23 : decode cX6_readLine 23 = .ok (.dup, 1) := by decide +kernel
theorem dX6_readLine_24 : decode cX6_readLine 24 = .ok (.getfield 15, 3) := by decide +kernel
theorem dX6_readLine_27 : decode cX6_readLine 27 = .ok (.iconst 1, 1) := by decide +kernel
theorem dX6_readLine_28 : decode cX6_readLine 28 = .ok (.iadd, 1) := by decide +kernel
theorem dX6_readLine_29 : decode cX6_readLine 29 = .ok (.putfield 15, 3) := by decide +kernel
theorem dX6_readLine_32 : decode cX6_readLine 32 = .ok (.iconst 0, 1) := by decide +kernel
theorem dX6_readLine_33 : decode cX6_readLine 33 = .ok (.istore_n 2, 1) := by decide +kernel
theorem dX6_readLine_34 : decode cX6_readLine 34 = .ok (.iload_n 2, 1) := by decide +kernel
theorem dX6_readLine_35 : decode cX6_readLine 35 = .ok (.iload_n 1, 1) := by decide +kernel
theorem dX6_readLine_36 : decode cX6_readLine 36 = .ok (.if_icmp .ge 19, 3) := by decide +kernel
theorem dX6_readLine_39 : decode cX6_readLine 39 = .ok (.aload_n 0, 1) := by decide +kernel
theorem dX6_readLine_40 : decode cX6_readLine 40 = .ok (.iload_n 2, 1) := by decide +kernel
theorem dX6_readLine_41 : decode cX6_readLine 41 = .ok (.invokevirtual 40, 3) := by decide +kernel
theorem dX6_readLine_44 : decode cX6_readLine 44 = .ok (.ifCond .ne 5, 3) := by decide +kernel
theorem dX6_readLine_47 : decode cX6_readLine 47 = .ok (.iconst 0, 1) := by decide +kernel
theorem dX6_readLine_48 : decode cX6_readLine 48 = .ok (.ireturn, 1) := by decide +kernel
theorem dX6_readLine_49 : decode cX6_readLine 49 = .ok (.iinc 2 1, 3) := by decide +kernel
theorem dX6_readLine_52 : decode cX6_readLine 52 = .ok (.goto (-18), 3) := by decide +kernel
theorem dX6_readLine_55 : decode cX6_readLine 55 = .ok (.iconst 1, 1) := by decide +kernel
theorem dX6_readLine_56 : decode cX6_readLine 56 = .ok (.ireturn, 1) := by decide +kernel
theorem dX6_readNumber_0 : decode cX6_readNumber 0 = .ok (.aload_n 0, 1) := by decide +kernel
theorem dX6_readNumber_1 : decode cX6_readNumber 1 = .ok (.invokevirtual 32, 3) := by decide +kernel
theorem dX6_readNumber_4 : decode cX6_readNumber 4 = .ok (.bipush 32, 2) := by decide +kernel
theorem dX6_readNumber_6 : decode cX6_readNumber 6 = .ok (.if_icmp .eq 5, 3) := by decide +kernel
theorem dX6_readNumber_9 : decode cX6_readNumber 9 = .ok (.iconst 0, 1) := by decide +kernel
theorem dX6_readNumber_10 : decode cX6_readNumber 10 = .ok (.ireturn, 1) := by decide +kernel
theorem dX6_readNumber_11 : decode cX6_readNumber 11 = .ok (.aload_n 0, 1) := by decide +kernel
theorem dX6_readNumber_12 : decode cX6_readNumber 12 = .ok (.dup, 1) := by decide +kernel
theorem dX6_readNumber_13 : decode cX6_readNumber 13 = .ok (.getfield 15, 3) := by decide +kernel
theorem dX6_readNumber_16 : decode cX6_readNumber 16 = .ok (.iconst 1, 1) := by decide +kernel
theorem dX6_readNumber_17 : decode cX6_readNumber 17 = .ok (.iadd, 1) := by decide +kernel
theorem dX6_readNumber_18 : decode cX6_readNumber 18 = .ok (.putfield 15, 3) := by decide +kernel
theorem dX6_readNumber_21 : decode cX6_readNumber 21 = .ok (.iconst 0, 1) := by decide +kernel
theorem dX6_readNumber_22 : decode cX6_readNumber 22 = .ok (.istore_n 2, 1) := by decide +kernel
theorem dX6_readNumber_23 : decode cX6_readNumber 23 = .ok (.iconst 0, 1) := by decide +kernel
theorem dX6_readNumber_24 : decode cX6_readNumber 24 = .ok (.istore_n 3, 1) := by decide +kernel
theorem dX6_readNumber_25 : decode cX6_readNumber 25 = .ok (.iload_n 3, 1) := by decide +kernel
theorem dX6_readNumber_26 : decode cX6_readNumber 26 = .ok (.bipush 9, 2) := by decide +kernel
theorem dX6_readNumber_28 : decode cX6_readNumber 28 = .ok (.if_icmp .ge 50, 3) := by decide +kernel
theorem dX6_readNumber_31 : decode cX6_readNumber 31 = .ok (.aload_n 0, 1) := by decide +kernel
theorem dX6_readNumber_32 : decode cX6_readNumber 32 = .ok (.invokevirtual 32, 3) := by decide +kernel
theorem dX6_readNumber_35 : decode cX6_readNumber 35 = .ok (.bipush 48, 2) := by decide +kernel
theorem dX6_readNumber_37 : decode cX6_readNumber 37 = .ok (.if_icmp .lt 41, 3) := by decide +kernel
theorem dX6_readNumber_40 : decode cX6_readNumber 40 = .ok (.aload_n 0, 1) := by decide +kernel
theorem dX6_readNumber_41 : decode cX6_readNumber 41 = .ok (.invokevirtual 32, 3) := by decide +kernel
theorem dX6_readNumber_44 : decode cX6_readNumber 44 = .ok (.bipush 57, 2) := by decide +kernel
theorem dX6_readNumber_46 : decode cX6_readNumber 46 = .ok (.if_icmp .gt 32, 3) := by decide +kernel
theorem dX6_readNumber_49 : decode cX6_readNumber 49 = .ok (.iload_n 2, 1) := by decide +kernel
theorem dX6_readNumber_50 : decode cX6_readNumber 50 = .ok (.bipush 10, 2) := by decide +kernel
theorem dX6_readNumber_52 : decode cX6_readNumber 52 = .ok (.imul, 1) := by decide +kernel
theorem dX6_readNumber_53 : decode cX6_readNumber 53 = .ok (.aload_n 0, 1) := by decide +kernel
theorem dX6_readNumber_54 : decode cX6_readNumber 54 = .ok (.invokevirtual 32, 3) := by decide +kernel
theorem dX6_readNumber_57 : decode cX6_readNumber 57 = .ok (.iadd, 1) := by decide +kernel
theorem dX6_readNumber_58 : decode cX6_readNumber 58 = .ok (.bipush 48, 2) := by decide +kernel
theorem dX6_readNumber_60 : decode cX6_readNumber 60 = .ok (.isub, 1) := by decide +kernel
theorem dX6_readNumber_61 : decode cX6_readNumber 61 = .ok (.istore_n 2, 1) := by decide +kernel
theorem dX6_readNumber_62 : decode cX6_readNumber 62 = .ok (.iinc 3 1, 3) := by decide +kernel
theorem dX6_readNumber_65 : decode cX6_readNumber 65 = .ok (.aload_n 0, 1) := by decide +kernel
theorem dX6_readNumber_66 : decode cX6_readNumber 66 = .ok (.dup, 1) := by decide +kernel
theorem dX6_readNumber_67 : decode cX6_readNumber 67 = .ok (.getfield 15, 3) := by decide +kernel
theorem dX6_readNumber_70 : decode cX6_readNumber 70 = .ok (.iconst 1, 1) := by decide +kernel
theorem dX6_readNumber_71 : decode cX6_readNumber 71 = .ok (.iadd, 1) := by decide +kernel
theorem dX6_readNumber_72 : decode cX6_readNumber 72 = .ok (.putfield 15, 3) := by decide +kernel
theorem dX6_readNumber_75 : decode cX6_readNumber 75 = .ok (.goto (-50), 3) := by decide +kernel
theorem dX6_readNumber_78 : decode cX6_readNumber 78 = .ok (.aload_n 0, 1) := by decide +kernel
theorem dX6_readNumber_79 : decode cX6_readNumber 79 = .ok (.getfield 25, 3) := by decide +kernel
theorem dX6_readNumber_82 : decode cX6_readNumber 82 = .ok (.iload_n 1, 1) := by decide +kernel
theorem dX6_readNumber_83 : decode cX6_readNumber 83 = .ok (.iload_n 2, 1) := by decide +kernel
theorem dX6_readNumber_84 : decode cX6_readNumber 84 = .ok (.iastore, 1) := by decide +kernel
theorem dX6_readNumber_85 : decode cX6_readNumber 85 = .ok (.iload_n 3, 1) := by decide +kernel
theorem dX6_readNumber_86 : decode cX6_readNumber 86 = .ok (.ifCond .le 7, 3) := by decide +kernel
theorem dX6_readNumber_89 : decode cX6_readNumber 89 = .ok (.iconst 1, 1) := by decide +kernel
theorem dX6_readNumber_90 : decode cX6_readNumber 90 = .ok (.goto 4, 3) := by decide +kernel
theorem dX6_readNumber_93 : decode cX6_readNumber 93 = .ok (.iconst 0, 1) := by decide +kernel
theorem dX6_readNumber_94 : decode cX6_readNumber 94 = .ok (.ireturn, 1) := by decide +kernel
theorem dX6_here_0 : decode cX6_here 0 = .ok (.aload_n 0, 1) := by decide +kernel
theorem dX6_here_1 : decode cX6_here 1 = .ok (.getfield 15, 3) := by decide +kernel
theorem dX6_here_4 : decode cX6_here 4 = .ok (.ifCond .lt 26, 3) := by decide +kernel
theorem dX6_here_7 : decode cX6_here 7 = .ok (.aload_n 0, 1) := by decide +kernel
theorem dX6_here_8 : decode cX6_here 8 = .ok (.getfield 15, 3) := by decide +kernel
theorem dX6_here_11 : decode cX6_here 11 = .ok (.aload_n 0, 1) := by decide +kernel
theorem dX6_here_12 : decode cX6_here 12 = .ok (.getfield 9, 3) := by decide +kernel
theorem dX6_here_15 : decode cX6_here 15 = .ok (.if_icmp .ge 15, 3) := by decide +kernel
theorem dX6_here_18 : decode cX6_here 18 = .ok (.aload_n 0, 1) := by decide +kernel
theorem dX6_here_19 : decode cX6_here 19 = .ok (.getfield 21, 3) := by decide +kernel
theorem dX6_here_22 : decode cX6_here 22 = .ok (.aload_n 0, 1) := by decide +kernel
theorem dX6_here_23 : decode cX6_here 23 = .ok (.getfield 15, 3) := by decide +kernel
theorem dX6_here_26 : decode cX6_here 26 = .ok (.iaload, 1) := by decide +kernel
theorem dX6_here_27 : decode cX6_here 27 = .ok (.goto 4, 3) := by decide +kernel
theorem dX6_here_30 : decode cX6_here 30 = .ok (.iconst (-1), 1) := by decide +kernel
theorem dX6_here_31 : decode cX6_here 31 = .ok (.ireturn, 1) := by decide +kernel
theorem dX6_numbersOf_0 : decode cX6_numbersOf 0 = .ok (.iload_n 0, 1) := by decide +kernel
theorem dX6_numbersOf_1 : decode cX6_numbersOf 1 = .ok (.tableswitch 102 100 119 #[100, 102, 100, 100, 102, 102, 102, 102, 95, 102, 102, 102, 98, 102, 98, 102, 102, 102, 102, 100], 95) := by decide +kernel
theorem dX6_numbersOf_96 : decode cX6_numbersOf 96 = .ok (.bipush 6, 2) := by decide +kernel
theorem dX6_numbersOf_98 : decode cX6_numbersOf 98 = .ok (.ireturn, 1) := by decide +kernel
theorem dX6_numbersOf_99 : decode cX6_numbersOf 99 = .ok (.iconst 2, 1) := by decide +kernel
theorem dX6_numbersOf_100 : decode cX6_numbersOf 100 = .ok (.ireturn, 1) := by decide +kernel
theorem dX6_numbersOf_101 : decode cX6_numbersOf 101 = .ok (.iconst 1, 1) := by decide +kernel
theorem dX6_numbersOf_102 : decode cX6_numbersOf 102 = .ok (.ireturn, 1) := by decide +kernel
theorem dX6_numbersOf_103 : decode cX6_numbersOf 103 = .ok (.iconst 0, 1) := by decide +kernel
theorem dX6_numbersOf_104 : decode cX6_numbersOf 104 = .ok (.ireturn, 1) := by decide +kernel
