theorem dX5_init_0 : decode cX5_init 0 = .ok (.aload_n 0, 1) := by decide +kernel
theorem dX5_init_1 : decode cX5_init 1 = .ok (.invokespecial 3, 3) := by decide +kernel
theorem dX5_init_4 : decode cX5_init 4 = .ok (.aload_n 0, 1) := by decide +kernel
theorem dX5_init_5 : decode cX5_init 5 = .ok (.iconst 0, 1) := by decide +kernel
theorem dX5_init_6 : decode cX5_init 6 = .ok (.putfield 9, 3) := by decide +kernel
theorem dX5_init_9 : decode cX5_init 9 = .ok (.aload_n 0, 1) := by decide +kernel
theorem dX5_init_10 : decode cX5_init 10 = .ok (.iconst 0, 1) := by decide +kernel
theorem dX5_init_11 : decode cX5_init 11 = .ok (.putfield 15, 3) := by decide +kernel
theorem dX5_init_14 : decode cX5_init 14 = .ok (.aload_n 0, 1) := by decide +kernel
theorem dX5_init_15 : decode cX5_init 15 = .ok (.bipush 61, 2) := by decide +kernel
theorem dX5_init_17 : decode cX5_init 17 = .ok (.newarray .long, 2) := by decide +kernel
theorem dX5_init_19 : decode cX5_init 19 = .ok (.putfield 18, 3) := by decide +kernel
theorem dX5_init_22 : decode cX5_init 22 = .ok (.aload_n 0, 1) := by decide +kernel
theorem dX5_init_23 : decode cX5_init 23 = .ok (.bipush 61, 2) := by decide +kernel
theorem dX5_init_25 : decode cX5_init 25 = .ok (.newarray .long, 2) := by decide +kernel
theorem dX5_init_27 : decode cX5_init 27 = .ok (.putfield 22, 3) := by decide +kernel
theorem dX5_init_30 : decode cX5_init 30 = .ok (.aload_n 0, 1) := by decide +kernel
theorem dX5_init_31 : decode cX5_init 31 = .ok (.bipush 61, 2) := by decide +kernel
theorem dX5_init_33 : decode cX5_init 33 = .ok (.newarray .long, 2) := by decide +kernel
theorem dX5_init_35 : decode cX5_init 35 = .ok (.putfield 25, 3) := by decide +kernel
theorem dX5_init_38 : decode cX5_init 38 = .ok (.return_, 1) := by decide +kernel
theorem dX5_follow_0 : decode cX5_follow 0 = .ok (.aload_n 0, 1) := by decide +kernel
theorem dX5_follow_1 : decode cX5_follow 1 = .ok (.aload_n 1, 1) := by decide +kernel
theorem dX5_follow_2 : decode cX5_follow 2 = .ok (.getfield 28, 3) := by decide +kernel
theorem dX5_follow_5 : decode cX5_follow 5 = .ok (.putfield 9, 3) := by decide +kernel
theorem dX5_follow_8 : decode cX5_follow 8 = .ok (.aload_n 0, 1) := by decide +kernel
theorem dX5_follow_9 : decode cX5_follow 9 = .ok (.aload_n 1, 1) := by decide +kernel
theorem dX5_follow_10 : decode cX5_follow 10 = .ok (.getfield 31, 3) := by decide +kernel
theorem dX5_follow_13 : decode cX5_follow 13 = .ok (.putfield 15, 3) := by decide +kernel
theorem dX5_follow_16 : decode cX5_follow 16 = .ok (.aload_n 1, 1) := by decide +kernel
theorem dX5_follow_17 : decode cX5_follow 17 = .ok (.getfield 32, 3) := by decide +kernel
theorem dX5_follow_20 : decode cX5_follow 20 = .ok (.lstore_n 2, 1) := by decide +kernel
theorem dX5_follow_21 : decode cX5_follow 21 = .ok (.aload_n 0, 1) := by decide +kernel
theorem dX5_follow_22 : decode cX5_follow 22 = .ok (.getfield 9, 3) := by decide +kernel
theorem dX5_follow_25 : decode cX5_follow 25 = .ok (.iconst 1, 1) := by decide +kernel
theorem dX5_follow_26 : decode cX5_follow 26 = .ok (.iadd, 1) := by decide +kernel
theorem dX5_follow_27 : decode cX5_follow 27 = .ok (.istore 4, 2) := by decide +kernel
theorem dX5_follow_29 : decode cX5_follow 29 = .ok (.iload 4, 2) := by decide +kernel
theorem dX5_follow_31 : decode cX5_follow 31 = .ok (.aload_n 0, 1) := by decide +kernel
theorem dX5_follow_32 : decode cX5_follow 32 = .ok (.getfield 15, 3) := by decide +kernel
theorem dX5_follow_35 : decode cX5_follow 35 = .ok (.if_icmp .gt 62, 3) := by decide +kernel
theorem dX5_follow_38 : decode cX5_follow 38 = .ok (.aload_n 0, 1) := by decide +kernel
theorem dX5_follow_39 : decode cX5_follow 39 = .ok (.getfield 18, 3) := by decide +kernel
theorem dX5_follow_42 : decode cX5_follow 42 = .ok (.iload 4, 2) := by decide +kernel
theorem dX5_follow_44 : decode cX5_follow 44 = .ok (.aload_n 1, 1) := by decide +kernel
theorem dX5_follow_45 : decode cX5_follow 45 = .ok (.iload 4, 2) := by decide +kernel
theorem dX5_follow_47 : decode cX5_follow 47 = .ok (.lload_n 2, 1) := by decide +kernel
theorem dX5_follow_48 : decode cX5_follow 48 = .ok (.invokevirtual 35, 3) := by decide +kernel
theorem dX5_follow_51 : decode cX5_follow 51 = .ok (.lastore, 1) := by decide +kernel
theorem dX5_follow_52 : decode cX5_follow 52 = .ok (.aload_n 0, 1) := by decide +kernel
theorem dX5_follow_53 : decode cX5_follow 53 = .ok (.getfield 22, 3) := by decide +kernel
theorem dX5_follow_56 : decode cX5_follow 56 = .ok (.iload 4, 2) := by decide +kernel
theorem dX5_follow_58 : decode cX5_follow 58 = .ok (.aload_n 1, 1) := by decide +kernel
theorem dX5_follow_59 : decode cX5_follow 59 = .ok (.iload 4, 2) := by decide +kernel
theorem dX5_follow_61 : decode cX5_follow 61 = .ok (.lload_n 2, 1) := by decide +kernel
theorem dX5_follow_62 : decode cX5_follow 62 = .ok (.aload_n 0, 1) := by decide +kernel
theorem dX5_follow_63 : decode cX5_follow 63 = .ok (.getfield 18, 3) := by decide +kernel
theorem dX5_follow_66 : decode cX5_follow 66 = .ok (.iload 4, 2) := by decide +kernel
theorem dX5_follow_68 : decode cX5_follow 68 = .ok (.laload, 1) := by decide +kernel
theorem dX5_follow_69 : decode cX5_follow 69 = .ok (.invokevirtual 39, 3) := by decide +kernel
theorem dX5_follow_72 : decode cX5_follow 72 = .ok (.lastore, 1) := by decide +kernel
theorem dX5_follow_73 : decode cX5_follow 73 = .ok (.lload_n 2, 1) := by decide +kernel
theorem dX5_follow_74 : decode cX5_follow 74 = .ok (.aload_n 0, 1) := by decide +kernel
theorem dX5_follow_75 : decode cX5_follow 75 = .ok (.getfield 22, 3) := by decide +kernel
theorem dX5_follow_78 : decode cX5_follow 78 = .ok (.iload 4, 2) := by decide +kernel
theorem dX5_follow_80 : decode cX5_follow 80 = .ok (.laload, 1) := by decide +kernel
theorem dX5_follow_81 : decode cX5_follow 81 = .ok (.lsub, 1) := by decide +kernel
theorem dX5_follow_82 : decode cX5_follow 82 = .ok (.lstore_n 2, 1) := by decide +kernel
theorem dX5_follow_83 : decode cX5_follow 83 = .ok (.aload_n 0, 1) := by decide +kernel
theorem dX5_follow_84 : decode cX5_follow 84 = .ok (.getfield 25, 3) := by decide +kernel
theorem dX5_follow_87 : decode cX5_follow 87 = .ok (.iload 4, 2) := by decide +kernel
theorem dX5_follow_89 : decode cX5_follow 89 = .ok (.lload_n 2, 1) := by decide +kernel
theorem dX5_follow_90 : decode cX5_follow 90 = .ok (.lastore, 1) := by decide +kernel
theorem dX5_follow_91 : decode cX5_follow 91 = .ok (.iinc 4 1, 3) := by decide +kernel
theorem dX5_follow_94 : decode cX5_follow 94 = .ok (.goto (-65), 3) := by decide +kernel
theorem dX5_follow_97 : decode cX5_follow 97 = .ok (.return_, 1) := by decide +kernel
theorem dX5_flow_0 : decode cX5_flow 0 = .ok (.aload_n 0, 1) := by decide +kernel
theorem dX5_flow_1 : decode cX5_flow 1 = .ok (.getfield 18, 3) := by decide +kernel
theorem dX5_flow_4 : decode cX5_flow 4 = .ok (.iload_n 1, 1) := by decide +kernel
theorem dX5_flow_5 : decode cX5_flow 5 = .ok (.laload, 1) := by decide +kernel
theorem dX5_flow_6 : decode cX5_flow 6 = .ok (.aload_n 0, 1) := by decide +kernel
theorem dX5_flow_7 : decode cX5_flow 7 = .ok (.getfield 22, 3) := by decide +kernel
theorem dX5_flow_10 : decode cX5_flow 10 = .ok (.iload_n 1, 1) := by decide +kernel
theorem dX5_flow_11 : decode cX5_flow 11 = .ok (.laload, 1) := by decide +kernel
theorem dX5_flow_12 : decode cX5_flow 12 = .ok (.ladd, 1) := by decide +kernel
theorem dX5_flow_13 : decode cX5_flow 13 = .ok (.lreturn, 1) := by decide +kernel
theorem dX5_bills_0 : decode cX5_bills 0 = .ok (.iconst 0, 1) := by decide +kernel
theorem dX5_bills_1 : decode cX5_bills 1 = .ok (.istore_n 1, 1) := by decide +kernel
theorem dX5_bills_2 : decode cX5_bills 2 = .ok (.aload_n 0, 1) := by decide +kernel
theorem dX5_bills_3 : decode cX5_bills 3 = .ok (.getfield 9, 3) := by decide +kernel
theorem dX5_bills_6 : decode cX5_bills 6 = .ok (.iconst 1, 1) := by decide +kernel
theorem dX5_bills_7 : decode cX5_bills 7 = .ok (.iadd, 1) := by decide +kernel
theorem dX5_bills_8 : decode cX5_bills 8 = .ok (.istore_n 2, 1) := by decide +kernel
theorem dX5_bills_9 : decode cX5_bills 9 = .ok (.iload_n 2, 1) := by decide +kernel
theorem dX5_bills_10 : decode cX5_bills 10 = .ok (.aload_n 0, 1) := by decide +kernel
theorem dX5_bills_11 : decode cX5_bills 11 = .ok (.getfield 15, 3) := by decide +kernel
theorem dX5_bills_14 : decode cX5_bills 14 = .ok (.if_icmp .gt 22, 3) := by decide +kernel
theorem dX5_bills_17 : decode cX5_bills 17 = .ok (.aload_n 0, 1) := by decide +kernel
theorem dX5_bills_18 : decode cX5_bills 18 = .ok (.iload_n 2, 1) := by decide +kernel
theorem dX5_bills_19 : decode cX5_bills 19 = .ok (.invokevirtual 43, 3) := by decide +kernel
theorem dX5_bills_22 : decode cX5_bills 22 = .ok (.lconst 0, 1) := by decide +kernel
theorem dX5_bills_23 : decode cX5_bills 23 = .ok (.lcmp, 1) := by decide +kernel
theorem dX5_bills_24 : decode cX5_bills 24 = .ok (.ifCond .le 6, 3) := by decide +kernel
theorem dX5_bills_27 : decode cX5_bills 27 = .ok (.iinc 1 1, 3) := by decide +kernel
theorem dX5_bills_30 : decode cX5_bills 30 = .ok (.iinc 2 1, 3) := by decide +kernel
theorem dX5_bills_33 : decode cX5_bills 33 = .ok (.goto (-24), 3) := by decide +kernel
theorem dX5_bills_36 : decode cX5_bills 36 = .ok (.iload_n 1, 1) := by decide +kernel
theorem dX5_bills_37 : decode cX5_bills 37 = .ok (.ireturn, 1) := by decide +kernel
theorem dX5_periodOfBill_0 : decode cX5_periodOfBill 0 = .ok (.iconst 0, 1) := by decide +kernel
theorem dX5_periodOfBill_1 : decode cX5_periodOfBill 1 = .ok (.istore_n 2, 1) := by decide +kernel
theorem dX5_periodOfBill_2 : decode cX5_periodOfBill 2 = .ok (.aload_n 0, 1) := by decide +kernel
theorem dX5_periodOfBill_3 : decode cX5_periodOfBill 3 = .ok (.getfield 9, 3) := by decide +kernel
theorem dX5_periodOfBill_6 : decode cX5_periodOfBill 6 = .ok (.iconst 1, 1) := by decide +kernel
theorem dX5_periodOfBill_7 : decode cX5_periodOfBill 7 = .ok (.iadd, 1) := by decide +kernel
theorem dX5_periodOfBill_8 : decode cX5_periodOfBill 8 = .ok (.istore_n 3, 1) := by decide +kernel
theorem dX5_periodOfBill_9 : decode cX5_periodOfBill 9 = .ok (.iload_n 3, 1) := by decide +kernel
theorem dX5_periodOfBill_10 : decode cX5_periodOfBill 10 = .ok (.aload_n 0, 1) := by decide +kernel
theorem dX5_periodOfBill_11 : decode cX5_periodOfBill 11 = .ok (.getfield 15, 3) := by decide +kernel
theorem dX5_periodOfBill_14 : decode cX5_periodOfBill 14 = .ok (.if_icmp .gt 29, 3) := by decide +kernel
theorem dX5_periodOfBill_17 : decode cX5_periodOfBill 17 = .ok (.aload_n 0, 1) := by decide +kernel
theorem dX5_periodOfBill_18 : decode cX5_periodOfBill 18 = .ok (.iload_n 3, 1) := by decide +kernel
theorem dX5_periodOfBill_19 : decode cX5_periodOfBill 19 = .ok (.invokevirtual 43, 3) := by decide +kernel
theorem dX5_periodOfBill_22 : decode cX5_periodOfBill 22 = .ok (.lconst 0, 1) := by decide +kernel
theorem dX5_periodOfBill_23 : decode cX5_periodOfBill 23 = .ok (.lcmp, 1) := by decide +kernel
theorem dX5_periodOfBill_24 : decode cX5_periodOfBill 24 = .ok (.ifCond .le 13, 3) := by decide +kernel
theorem dX5_periodOfBill_27 : decode cX5_periodOfBill 27 = .ok (.iload_n 2, 1) := by decide +kernel
theorem dX5_periodOfBill_28 : decode cX5_periodOfBill 28 = .ok (.iload_n 1, 1) := by decide +kernel
theorem dX5_periodOfBill_29 : decode cX5_periodOfBill 29 = .ok (.if_icmp .ne 5, 3) := by decide +kernel
theorem dX5_periodOfBill_32 : decode cX5_periodOfBill 32 = .ok (.iload_n 3, 1) := by decide +kernel
theorem dX5_periodOfBill_33 : decode cX5_periodOfBill 33 = .ok (.ireturn, 1) := by decide +kernel
theorem dX5_periodOfBill_34 : decode cX5_periodOfBill 34 = .ok (.iinc 2 1, 3) := by decide +kernel
theorem dX5_periodOfBill_37 : decode cX5_periodOfBill 37 = .ok (.iinc 3 1, 3) := by decide +kernel
theorem dX5_periodOfBill_40 : decode cX5_periodOfBill 40 = .ok (.goto (-31), 3) := by decide +kernel
theorem dX5_periodOfBill_43 : decode cX5_periodOfBill 43 = .ok (.iconst 0, 1) := by decide +kernel
theorem dX5_periodOfBill_44 : decode cX5_periodOfBill 44 = .ok (.ireturn, 1) := by decide +kernel
theorem dX5_totalInterest_0 : decode cX5_totalInterest 0 = .ok (.lconst 0, 1) := by decide +kernel
theorem dX5_totalInterest_1 : decode cX5_totalInterest 1 = .ok (.lstore_n 1, 1) := by decide +kernel
theorem dX5_totalInterest_2 : decode cX5_totalInterest 2 = .ok (.aload_n 0, 1) := by decide +kernel
theorem dX5_totalInterest_3 : decode cX5_totalInterest 3 = .ok (.getfield 9, 3) := by decide +kernel
theorem dX5_totalInterest_6 : decode cX5_totalInterest 6 = .ok (.iconst 1, 1) := by decide +kernel
theorem dX5_totalInterest_7 : decode cX5_totalInterest 7 = .ok (.iadd, 1) := by decide +kernel
theorem dX5_totalInterest_8 : decode cX5_totalInterest 8 = .ok (.istore_n 3, 1) := by decide +kernel
theorem dX5_totalInterest_9 : decode cX5_totalInterest 9 = .ok (.iload_n 3, 1) := by decide +kernel
theorem dX5_totalInterest_10 : decode cX5_totalInterest 10 = .ok (.aload_n 0, 1) := by decide +kernel
theorem dX5_totalInterest_11 : decode cX5_totalInterest 11 = .ok (.getfield 15, 3) := by decide +kernel
theorem dX5_totalInterest_14 : decode cX5_totalInterest 14 = .ok (.if_icmp .gt 18, 3) := by decide +kernel
theorem dX5_totalInterest_17 : decode cX5_totalInterest 17 = .ok (.lload_n 1, 1) := by decide +kernel
theorem dX5_totalInterest_18 : decode cX5_totalInterest 18 = .ok (.aload_n 0, 1) := by decide +kernel
theorem dX5_totalInterest_19 : decode cX5_totalInterest 19 = .ok (.getfield 18, 3) := by decide +kernel
theorem dX5_totalInterest_22 : decode cX5_totalInterest 22 = .ok (.iload_n 3, 1) := by decide +kernel
theorem dX5_totalInterest_23 : decode cX5_totalInterest 23 = .ok (.laload, 1) := by decide +kernel
theorem dX5_totalInterest_24 : decode cX5_totalInterest 24 = .ok (.ladd, 1) := by decide +kernel
theorem dX5_totalInterest_25 : decode cX5_totalInterest 25 = .ok (.lstore_n 1, 1) := by decide +kernel
theorem dX5_totalInterest_26 : decode cX5_totalInterest 26 = .ok (.iinc 3 1, 3) := by decide +kernel
theorem dX5_totalInterest_29 : decode cX5_totalInterest 29 = .ok (.goto (-20), 3) := by decide +kernel
theorem dX5_totalInterest_32 : decode cX5_totalInterest 32 = .ok (.lload_n 1, 1) := by decide +kernel
theorem dX5_totalInterest_33 : decode cX5_totalInterest 33 = .ok (.lreturn, 1) := by decide +kernel
theorem dX5_greatestFlow_0 : decode cX5_greatestFlow 0 = .ok (.lconst 0, 1) := by decide +kernel
theorem dX5_greatestFlow_1 : decode cX5_greatestFlow 1 = .ok (.lstore_n 1, 1) := by decide +kernel
theorem dX5_greatestFlow_2 : decode cX5_greatestFlow 2 = .ok (.aload_n 0, 1) := by decide +kernel
theorem dX5_greatestFlow_3 : decode cX5_greatestFlow 3 = .ok (.getfield 9, 3) := by decide +kernel
theorem dX5_greatestFlow_6 : decode cX5_greatestFlow 6 = .ok (.iconst 1, 1) := by decide +kernel
theorem dX5_greatestFlow_7 : decode cX5_greatestFlow 7 = .ok (.iadd, 1) := by decide +kernel
theorem dX5_greatestFlow_8 : decode cX5_greatestFlow 8 = .ok (.istore_n 3, 1) := by decide +kernel
theorem dX5_greatestFlow_9 : decode cX5_greatestFlow 9 = .ok (.iload_n 3, 1) := by decide +kernel
theorem dX5_greatestFlow_10 : decode cX5_greatestFlow 10 = .ok (.aload_n 0, 1) := by decide +kernel
theorem dX5_greatestFlow_11 : decode cX5_greatestFlow 11 = .ok (.getfield 15, 3) := by decide +kernel
theorem dX5_greatestFlow_14 : decode cX5_greatestFlow 14 = .ok (.if_icmp .gt 19, 3) := by decide +kernel
theorem dX5_greatestFlow_17 : decode cX5_greatestFlow 17 = .ok (.lload_n 1, 1) := by decide +kernel
theorem dX5_greatestFlow_18 : decode cX5_greatestFlow 18 = .ok (.aload_n 0, 1) := by decide +kernel
theorem dX5_greatestFlow_19 : decode cX5_greatestFlow 19 = .ok (.iload_n 3, 1) := by decide +kernel
theorem dX5_greatestFlow_20 : decode cX5_greatestFlow 20 = .ok (.invokevirtual 43, 3) := by decide +kernel
theorem dX5_greatestFlow_23 : decode cX5_greatestFlow 23 = .ok (.invokestatic 47, 3) := by decide +kernel
theorem dX5_greatestFlow_26 : decode cX5_greatestFlow 26 = .ok (.lstore_n 1, 1) := by decide +kernel
theorem dX5_greatestFlow_27 : decode cX5_greatestFlow 27 = .ok (.iinc 3 1, 3) := by decide +kernel
theorem dX5_greatestFlow_30 : decode cX5_greatestFlow 30 = .ok (.goto (-21), 3) := by decide +kernel
theorem dX5_greatestFlow_33 : decode cX5_greatestFlow 33 = .ok (.lload_n 1, 1) := by decide +kernel
theorem dX5_greatestFlow_34 : decode cX5_greatestFlow 34 = .ok (.lreturn, 1) := by decide +kernel
theorem dX5_lastWithPrincipal_0 : decode cX5_lastWithPrincipal 0 = .ok (.iconst 0, 1) := by decide +kernel
theorem dX5_lastWithPrincipal_1 : decode cX5_lastWithPrincipal 1 = .ok (.istore_n 1, 1) := by decide +kernel
theorem dX5_lastWithPrincipal_2 : decode cX5_lastWithPrincipal 2 = .ok (.aload_n 0, 1) := by decide +kernel
theorem dX5_lastWithPrincipal_3 : decode cX5_lastWithPrincipal 3 = .ok (.getfield 9, 3) := by decide +kernel
theorem dX5_lastWithPrincipal_6 : decode cX5_lastWithPrincipal 6 = .ok (.iconst 1, 1) := by decide +kernel
theorem dX5_lastWithPrincipal_7 : decode cX5_lastWithPrincipal 7 = .ok (.iadd, 1) := by decide +kernel
theorem dX5_lastWithPrincipal_8 : decode cX5_lastWithPrincipal 8 = .ok (.istore_n 2, 1) := by decide +kernel
theorem dX5_lastWithPrincipal_9 : decode cX5_lastWithPrincipal 9 = .ok (.iload_n 2, 1) := by decide +kernel
theorem dX5_lastWithPrincipal_10 : decode cX5_lastWithPrincipal 10 = .ok (.aload_n 0, 1) := by decide +kernel
theorem dX5_lastWithPrincipal_11 : decode cX5_lastWithPrincipal 11 = .ok (.getfield 15, 3) := by decide +kernel
theorem dX5_lastWithPrincipal_14 : decode cX5_lastWithPrincipal 14 = .ok (.if_icmp .gt 27, 3) := by decide +kernel
theorem dX5_lastWithPrincipal_17 : decode cX5_lastWithPrincipal 17 = .ok (.aload_n 0, 1) := by decide +kernel
theorem dX5_lastWithPrincipal_18 : decode cX5_lastWithPrincipal 18 = .ok (.getfield 22, 3) := by decide +kernel
theorem dX5_lastWithPrincipal_21 : decode cX5_lastWithPrincipal 21 = .ok (.iload_n 2, 1) := by decide +kernel
theorem dX5_lastWithPrincipal_22 : decode cX5_lastWithPrincipal 22 = .ok (.laload, 1) := by decide +kernel
theorem dX5_lastWithPrincipal_23 : decode cX5_lastWithPrincipal 23 = .ok (.lconst 0, 1) := by decide +kernel
theorem dX5_lastWithPrincipal_24 : decode cX5_lastWithPrincipal 24 = .ok (.lcmp, 1) := by decide +kernel
theorem dX5_lastWithPrincipal_25 : decode cX5_lastWithPrincipal 25 = .ok (.ifCond .le 10, 3) := by decide +kernel
theorem dX5_lastWithPrincipal_28 : decode cX5_lastWithPrincipal 28 = .ok (.iload_n 2, 1) := by decide +kernel
theorem dX5_lastWithPrincipal_29 : decode cX5_lastWithPrincipal 29 = .ok (.aload_n 0, 1) := by decide +kernel
theorem dX5_lastWithPrincipal_30 : decode cX5_lastWithPrincipal 30 = .ok (.getfield 9, 3) := by decide +kernel
theorem dX5_lastWithPrincipal_33 : decode cX5_lastWithPrincipal 33 = .ok (.isub, 1) := by decide +kernel
theorem dX5_lastWithPrincipal_34 : decode cX5_lastWithPrincipal 34 = .ok (.istore_n 1, 1) := by decide +kernel
theorem dX5_lastWithPrincipal_35 : decode cX5_lastWithPrincipal 35 = .ok (.iinc 2 1, 3) := by decide +kernel
theorem dX5_lastWithPrincipal_38 : decode cX5_lastWithPrincipal 38 = .ok (.goto (-29), 3) := by decide +kernel
theorem dX5_lastWithPrincipal_41 : decode cX5_lastWithPrincipal 41 = .ok (.iload_n 1, 1) := by decide +kernel
theorem dX5_lastWithPrincipal_42 : decode cX5_lastWithPrincipal 42 = .ok (.ireturn, 1) := by decide +kernel
theorem dX5_worth_0 : decode cX5_worth 0 = .ok (.dconst 0, 1) := by decide +kernel
theorem dX5_worth_1 : decode cX5_worth 1 = .ok (.dstore_n 3, 1) := by decide +kernel
theorem dX5_worth_2 : decode cX5_worth 2 = .ok (.aload_n 0, 1) := by decide +kernel
theorem dX5_worth_3 : decode cX5_worth 3 = .ok (.getfield 15, 3) := by decide +kernel
theorem dX5_worth_6 : decode cX5_worth 6 = .ok (.istore 5, 2) := by decide +kernel
theorem dX5_worth_8 : decode cX5_worth 8 = .ok (.iload 5, 2) := by decide +kernel
theorem dX5_worth_10 : decode cX5_worth 10 = .ok (.aload_n 0, 1) := by decide +kernel
theorem dX5_worth_11 : decode cX5_worth 11 = .ok (.getfield 9, 3) := by decide +kernel
theorem dX5_worth_14 : decode cX5_worth 14 = .ok (.if_icmp .le 23, 3) := by decide +kernel
theorem dX5_worth_17 : decode cX5_worth 17 = .ok (.dload_n 3, 1) := by decide +kernel
theorem dX5_worth_18 : decode cX5_worth 18 = .ok (.aload_n 0, 1) := by decide +kernel
theorem dX5_worth_19 : decode cX5_worth 19 = .ok (.iload 5, 2) := by decide +kernel
theorem dX5_worth_21 : decode cX5_worth 21 = .ok (.invokevirtual 43, 3) := by decide +kernel
theorem dX5_worth_24 : decode cX5_worth 24 = .ok (.l2d, 1) := by decide +kernel
theorem dX5_worth_25 : decode cX5_worth 25 = .ok (.dadd, 1) := by decide +kernel
theorem dX5_worth_26 : decode cX5_worth 26 = .ok (.dconst 1, 1) := by decide +kernel
theorem dX5_worth_27 : decode cX5_worth 27 = .ok (.dload_n 1, 1) := by decide +kernel
theorem dX5_worth_28 : decode cX5_worth 28 = .ok (.dadd, 1) := by decide +kernel
theorem dX5_worth_29 : decode cX5_worth 29 = .ok (.ddiv, 1) := by decide +kernel
theorem dX5_worth_30 : decode cX5_worth 30 = .ok (.dstore_n 3, 1) := by decide +kernel
theorem dX5_worth_31 : decode cX5_worth 31 = .ok (.iinc 5 (-1), 3) := by decide +kernel
theorem dX5_worth_34 : decode cX5_worth 34 = .ok (.goto (-26), 3) := by decide +kernel
theorem dX5_worth_37 : decode cX5_worth 37 = .ok (.dload_n 3, 1) := by decide +kernel
theorem dX5_worth_38 : decode cX5_worth 38 = .ok (.dreturn, 1) := by decide +kernel
theorem dX5_worthByNumber_0 : decode cX5_worthByNumber 0 = .ok (.dconst 0, 1) := by decide +kernel
theorem dX5_worthByNumber_1 : decode cX5_worthByNumber 1 = .ok (.dstore_n 3, 1) := by decide +kernel
theorem dX5_worthByNumber_2 : decode cX5_worthByNumber 2 = .ok (.aload_n 0, 1) := by decide +kernel
theorem dX5_worthByNumber_3 : decode cX5_worthByNumber 3 = .ok (.getfield 15, 3) := by decide +kernel
theorem dX5_worthByNumber_6 : decode cX5_worthByNumber 6 = .ok (.istore 5, 2) := by decide +kernel
theorem dX5_worthByNumber_8 : decode cX5_worthByNumber 8 = .ok (.iload 5, 2) := by decide +kernel
theorem dX5_worthByNumber_10 : decode cX5_worthByNumber 10 = .ok (.aload_n 0, 1) := by decide +kernel
theorem dX5_worthByNumber_11 : decode cX5_worthByNumber 11 = .ok (.getfield 9, 3) := by decide +kernel
theorem dX5_worthByNumber_14 : decode cX5_worthByNumber 14 = .ok (.if_icmp .le 32, 3) := by decide +kernel
theorem dX5_worthByNumber_17 : decode cX5_worthByNumber 17 = .ok (.dload_n 3, 1) := by decide +kernel
theorem dX5_worthByNumber_18 : decode cX5_worthByNumber 18 = .ok (.aload_n 0, 1) := by decide +kernel
theorem dX5_worthByNumber_19 : decode cX5_worthByNumber 19 = .ok (.iload 5, 2) := by decide +kernel
theorem dX5_worthByNumber_21 : decode cX5_worthByNumber 21 = .ok (.invokevirtual 43, 3) := by decide +kernel
theorem dX5_worthByNumber_24 : decode cX5_worthByNumber 24 = .ok (.iload 5, 2) := by decide +kernel
theorem dX5_worthByNumber_26 : decode cX5_worthByNumber 26 = .ok (.aload_n 0, 1) := by decide +kernel
theorem dX5_worthByNumber_27 : decode cX5_worthByNumber 27 = .ok (.getfield 9, 3) := by decide +kernel
theorem dX5_worthByNumber_30 : decode cX5_worthByNumber 30 = .ok (.isub, 1) := by decide +kernel
theorem dX5_worthByNumber_31 : decode cX5_worthByNumber 31 = .ok (.i2l, 1) := by decide +kernel
theorem dX5_worthByNumber_32 : decode cX5_worthByNumber 32 = .ok (.lmul, 1) := by decide +kernel
theorem dX5_worthByNumber_33 : decode cX5_worthByNumber 33 = .ok (.l2d, 1) := by decide +kernel
theorem dX5_worthByNumber_34 : decode cX5_worthByNumber 34 = .ok (.dadd, 1) := by decide +kernel
theorem dX5_worthByNumber_35 : decode cX5_worthByNumber 35 = .ok (.dconst 1, 1) := by decide +kernel
theorem dX5_worthByNumber_36 : decode cX5_worthByNumber 36 = .ok (.dload_n 1, 1) := by decide +kernel
theorem dX5_worthByNumber_37 : decode cX5_worthByNumber 37 = .ok (.dadd, 1) := by decide +kernel
theorem dX5_worthByNumber_38 : decode cX5_worthByNumber 38 = .ok (.ddiv, 1) := by decide +kernel
theorem dX5_worthByNumber_39 : decode cX5_worthByNumber 39 = .ok (.dstore_n 3, 1) := by decide +kernel
theorem dX5_worthByNumber_40 : decode cX5_worthByNumber 40 = .ok (.iinc 5 (-1), 3) := by decide +kernel
theorem dX5_worthByNumber_43 : decode cX5_worthByNumber 43 = .ok (.goto (-35), 3) := by decide +kernel
theorem dX5_worthByNumber_46 : decode cX5_worthByNumber 46 = .ok (.dload_n 3, 1) := by decide +kernel
theorem dX5_worthByNumber_47 : decode cX5_worthByNumber 47 = .ok (.dreturn, 1) := by decide +kernel
theorem dX5_yieldBy_0 : decode cX5_yieldBy 0 = .ok (.dconst 0, 1) := by decide +kernel
theorem dX5_yieldBy_1 : decode cX5_yieldBy 1 = .ok (.dstore_n 3, 1) := by decide +kernel
theorem dX5_yieldBy_2 : decode cX5_yieldBy 2 = .ok (.dconst 1, 1) := by decide +kernel
theorem dX5_yieldBy_3 : decode cX5_yieldBy 3 = .ok (.dstore 5, 2) := by decide +kernel
theorem dX5_yieldBy_5 : decode cX5_yieldBy 5 = .ok (.iconst 0, 1) := by decide +kernel
theorem dX5_yieldBy_6 : decode cX5_yieldBy 6 = .ok (.istore 7, 2) := by decide +kernel
theorem dX5_yieldBy_8 : decode cX5_yieldBy 8 = .ok (.iload 7, 2) := by decide +kernel
theorem dX5_yieldBy_10 : decode cX5_yieldBy 10 = .ok (.bipush 50, 2) := by decide +kernel
theorem dX5_yieldBy_12 : decode cX5_yieldBy 12 = .ok (.if_icmp .ge 40, 3) := by decide +kernel
theorem dX5_yieldBy_15 : decode cX5_yieldBy 15 = .ok (.dload_n 3, 1) := by decide +kernel
theorem dX5_yieldBy_16 : decode cX5_yieldBy 16 = .ok (.dload 5, 2) := by decide +kernel
theorem dX5_yieldBy_18 : decode cX5_yieldBy 18 = .ok (.dadd, 1) := by decide +kernel
theorem dX5_yieldBy_19 : decode cX5_yieldBy 19 = .ok (.ldc2_w 53, 3) := by decide +kernel
theorem dX5_yieldBy_22 : decode cX5_yieldBy 22 = .ok (.ddiv, 1) := by decide +kernel
theorem dX5_yieldBy_23 : decode cX5_yieldBy 23 = .ok (.dstore 8, 2) := by decide +kernel
theorem dX5_yieldBy_25 : decode cX5_yieldBy 25 = .ok (.aload_n 0, 1) := by decide +kernel
theorem dX5_yieldBy_26 : decode cX5_yieldBy 26 = .ok (.dload 8, 2) := by decide +kernel
theorem dX5_yieldBy_28 : decode cX5_yieldBy 28 = .ok (.invokevirtual 55, 3) := by decide +kernel
theorem dX5_yieldBy_31 : decode cX5_yieldBy 31 = .ok (.dload_n 1, 1) := by decide +kernel
theorem dX5_yieldBy_32 : decode cX5_yieldBy 32 = .ok (.dcmp .l, 1) := by decide +kernel
theorem dX5_yieldBy_33 : decode cX5_yieldBy 33 = .ok (.ifCond .le 9, 3) := by decide +kernel
theorem dX5_yieldBy_36 : decode cX5_yieldBy 36 = .ok (.dload 8, 2) := by decide +kernel
theorem dX5_yieldBy_38 : decode cX5_yieldBy 38 = .ok (.dstore_n 3, 1) := by decide +kernel
theorem dX5_yieldBy_39 : decode cX5_yieldBy 39 = .ok (.goto 7, 3) := by decide +kernel
theorem dX5_yieldBy_42 : decode cX5_yieldBy 42 = .ok (.dload 8, 2) := by decide +kernel
theorem dX5_yieldBy_44 : decode cX5_yieldBy 44 = .ok (.dstore 5, 2) := by decide +kernel
theorem dX5_yieldBy_46 : decode cX5_yieldBy 46 = .ok (.iinc 7 1, 3) := by decide +kernel
theorem dX5_yieldBy_49 : decode cX5_yieldBy 49 = .ok (.goto (-41), 3) := by decide +kernel
theorem dX5_yieldBy_52 : decode cX5_yieldBy 52 = .ok (.dload_n 3, 1) := by decide +kernel
theorem dX5_yieldBy_53 : decode cX5_yieldBy 53 = .ok (.dreturn, 1) := by decide +kernel
