theorem dX1_init_0 : decode cX1_init 0 = .ok (.aload_n 0, 1) := by decide +kernel
theorem dX1_init_1 : decode cX1_init 1 = .ok (.invokespecial 3, 3) := by decide +kernel
theorem dX1_init_4 : decode cX1_init 4 = .ok (.aload_n 0, 1) := by decide +kernel
theorem dX1_init_5 : decode cX1_init 5 = .ok (.iconst 0, 1) := by decide +kernel
theorem dX1_init_6 : decode cX1_init 6 = .ok (.putfield 9, 3) := by decide +kernel
theorem dX1_init_9 : decode cX1_init 9 = .ok (.aload_n 0, 1) := by decide +kernel
theorem dX1_init_10 : decode cX1_init 10 = .ok (.bipush 10, 2) := by decide +kernel
theorem dX1_init_12 : decode cX1_init 12 = .ok (.putfield 15, 3) := by decide +kernel
theorem dX1_init_15 : decode cX1_init 15 = .ok (.aload_n 0, 1) := by decide +kernel
theorem dX1_init_16 : decode cX1_init 16 = .ok (.sipush 500, 3) := by decide +kernel
theorem dX1_init_19 : decode cX1_init 19 = .ok (.putfield 18, 3) := by decide +kernel
theorem dX1_init_22 : decode cX1_init 22 = .ok (.aload_n 0, 1) := by decide +kernel
theorem dX1_init_23 : decode cX1_init 23 = .ok (.iconst 0, 1) := by decide +kernel
theorem dX1_init_24 : decode cX1_init 24 = .ok (.putfield 21, 3) := by decide +kernel
theorem dX1_init_27 : decode cX1_init 27 = .ok (.aload_n 0, 1) := by decide +kernel
theorem dX1_init_28 : decode cX1_init 28 = .ok (.bipush 8, 2) := by decide +kernel
theorem dX1_init_30 : decode cX1_init 30 = .ok (.anewarray 24, 3) := by decide +kernel
theorem dX1_init_33 : decode cX1_init 33 = .ok (.putfield 26, 3) := by decide +kernel
theorem dX1_init_36 : decode cX1_init 36 = .ok (.iconst 0, 1) := by decide +kernel
theorem dX1_init_37 : decode cX1_init 37 = .ok (.istore_n 1, 1) := by decide +kernel
theorem dX1_init_38 : decode cX1_init 38 = .ok (.iload_n 1, 1) := by decide +kernel
theorem dX1_init_39 : decode cX1_init 39 = .ok (.bipush 8, 2) := by decide +kernel
theorem dX1_init_41 : decode cX1_init 41 = .ok (.if_icmp .ge 22, 3) := by decide +kernel
theorem dX1_init_44 : decode cX1_init 44 = .ok (.aload_n 0, 1) := by decide +kernel
theorem dX1_init_45 : decode cX1_init 45 = .ok (.getfield 26, 3) := by decide +kernel
theorem dX1_init_48 : decode cX1_init 48 = .ok (.iload_n 1, 1) := by decide +kernel
theorem dX1_init_49 : decode cX1_init 49 = .ok (.new 24, 3) := by decide +kernel
theorem dX1_init_52 : decode cX1_init 52 = .ok (.dup, 1) := by decide +kernel
theorem dX1_init_53 : decode cX1_init 53 = .ok (.invokespecial 30, 3) := by decide +kernel
theorem dX1_init_56 : decode cX1_init 56 = .ok (.aastore, 1) := by decide +kernel
theorem dX1_init_57 : decode cX1_init 57 = .ok (.iinc 1 1, 3) := by decide +kernel
theorem dX1_init_60 : decode cX1_init 60 = .ok (.goto (-22), 3) := by decide +kernel
theorem dX1_init_63 : decode cX1_init 63 = .ok (.return_, 1) := by decide +kernel
theorem dX1_copyFrom_0 : decode cX1_copyFrom 0 = .ok (.aload_n 0, 1) := by decide +kernel
theorem dX1_copyFrom_1 : decode cX1_copyFrom 1 = .ok (.aload_n 1, 1) := by decide +kernel
theorem dX1_copyFrom_2 : decode cX1_copyFrom 2 = .ok (.getfield 9, 3) := by decide +kernel
theorem dX1_copyFrom_5 : decode cX1_copyFrom 5 = .ok (.putfield 9, 3) := by decide +kernel
theorem dX1_copyFrom_8 : decode cX1_copyFrom 8 = .ok (.aload_n 0, 1) := by decide +kernel
theorem dX1_copyFrom_9 : decode cX1_copyFrom 9 = .ok (.aload_n 1, 1) := by decide +kernel
theorem dX1_copyFrom_10 : decode cX1_copyFrom 10 = .ok (.getfield 15, 3) := by decide +kernel
theorem dX1_copyFrom_13 : decode cX1_copyFrom 13 = .ok (.putfield 15, 3) := by decide +kernel
theorem dX1_copyFrom_16 : decode cX1_copyFrom 16 = .ok (.aload_n 0, 1) := by decide +kernel
theorem dX1_copyFrom_17 : decode cX1_copyFrom 17 = .ok (.aload_n 1, 1) := by decide +kernel
theorem dX1_copyFrom_18 : decode cX1_copyFrom 18 = .ok (.getfield 18, 3) := by decide +kernel
theorem dX1_copyFrom_21 : decode cX1_copyFrom 21 = .ok (.putfield 18, 3) := by decide +kernel
theorem dX1_copyFrom_24 : decode cX1_copyFrom 24 = .ok (.aload_n 0, 1) := by decide +kernel
theorem dX1_copyFrom_25 : decode cX1_copyFrom 25 = .ok (.aload_n 1, 1) := by decide +kernel
theorem dX1_copyFrom_26 : decode cX1_copyFrom 26 = .ok (.getfield 21, 3) := by decide +kernel
theorem dX1_copyFrom_29 : decode cX1_copyFrom 29 = .ok (.putfield 21, 3) := by decide +kernel
theorem dX1_copyFrom_32 : decode cX1_copyFrom 32 = .ok (.iconst 0, 1) := by decide +kernel
theorem dX1_copyFrom_33 : decode cX1_copyFrom 33 = .ok (.istore_n 2, 1) := by decide +kernel
theorem dX1_copyFrom_34 : decode cX1_copyFrom 34 = .ok (.iload_n 2, 1) := by decide +kernel
theorem dX1_copyFrom_35 : decode cX1_copyFrom 35 = .ok (.aload_n 0, 1) := by decide +kernel
theorem dX1_copyFrom_36 : decode cX1_copyFrom 36 = .ok (.getfield 21, 3) := by decide +kernel
theorem dX1_copyFrom_39 : decode cX1_copyFrom 39 = .ok (.if_icmp .ge 24, 3) := by decide +kernel
theorem dX1_copyFrom_42 : decode cX1_copyFrom 42 = .ok (.aload_n 0, 1) := by decide +kernel
theorem dX1_copyFrom_43 : decode cX1_copyFrom 43 = .ok (.getfield 26, 3) := by decide +kernel
theorem dX1_copyFrom_46 : decode cX1_copyFrom 46 = .ok (.iload_n 2, 1) := by decide +kernel
theorem dX1_copyFrom_47 : decode cX1_copyFrom 47 = .ok (.aaload, 1) := by decide +kernel
theorem dX1_copyFrom_48 : decode cX1_copyFrom 48 = .ok (.aload_n 1, 1) := by decide +kernel
theorem dX1_copyFrom_49 : decode cX1_copyFrom 49 = .ok (.getfield 26, 3) := by decide +kernel
theorem dX1_copyFrom_52 : decode cX1_copyFrom 52 = .ok (.iload_n 2, 1) := by decide +kernel
theorem dX1_copyFrom_53 : decode cX1_copyFrom 53 = .ok (.aaload, 1) := by decide +kernel
theorem dX1_copyFrom_54 : decode cX1_copyFrom 54 = .ok (.invokevirtual 31, 3) := by decide +kernel
theorem dX1_copyFrom_57 : decode cX1_copyFrom 57 = .ok (.iinc 2 1, 3) := by decide +kernel
theorem dX1_copyFrom_60 : decode cX1_copyFrom 60 = .ok (.goto (-26), 3) := by decide +kernel
theorem dX1_copyFrom_63 : decode cX1_copyFrom 63 = .ok (.return_, 1) := by decide +kernel
theorem dX1_has_0 : decode cX1_has 0 = .ok (.iload_n 1, 1) := by decide +kernel
theorem dX1_has_1 : decode cX1_has 1 = .ok (.ifCond .lt 15, 3) := by decide +kernel
theorem dX1_has_4 : decode cX1_has 4 = .ok (.iload_n 1, 1) := by decide +kernel
theorem dX1_has_5 : decode cX1_has 5 = .ok (.aload_n 0, 1) := by decide +kernel
theorem dX1_has_6 : decode cX1_has 6 = .ok (.getfield 21, 3) := by decide +kernel
theorem dX1_has_9 : decode cX1_has 9 = .ok (.if_icmp .ge 7, 3) := by decide +kernel
theorem dX1_has_12 : decode cX1_has 12 = .ok (.iconst 1, 1) := by decide +kernel
theorem dX1_has_13 : decode cX1_has 13 = .ok (.goto 4, 3) := by decide +kernel
theorem dX1_has_16 : decode cX1_has 16 = .ok (.iconst 0, 1) := by decide +kernel
theorem dX1_has_17 : decode cX1_has 17 = .ok (.ireturn, 1) := by decide +kernel
theorem dX1_lend_0 : decode cX1_lend 0 = .ok (.lload_n 1, 1) := by decide +kernel
theorem dX1_lend_1 : decode cX1_lend 1 = .ok (.lconst 1, 1) := by decide +kernel
theorem dX1_lend_2 : decode cX1_lend 2 = .ok (.lcmp, 1) := by decide +kernel
theorem dX1_lend_3 : decode cX1_lend 3 = .ok (.ifCond .lt 28, 3) := by decide +kernel
theorem dX1_lend_6 : decode cX1_lend 6 = .ok (.lload_n 1, 1) := by decide +kernel
theorem dX1_lend_7 : decode cX1_lend 7 = .ok (.ldc2_w 35, 3) := by decide +kernel
theorem dX1_lend_10 : decode cX1_lend 10 = .ok (.lcmp, 1) := by decide +kernel
theorem dX1_lend_11 : decode cX1_lend 11 = .ok (.ifCond .gt 20, 3) := by decide +kernel
theorem dX1_lend_14 : decode cX1_lend 14 = .ok (.iload_n 3, 1) := by decide +kernel
theorem dX1_lend_15 : decode cX1_lend 15 = .ok (.invokestatic 37, 3) := by decide +kernel
theorem dX1_lend_18 : decode cX1_lend 18 = .ok (.ifCond .eq 13, 3) := by decide +kernel
theorem dX1_lend_21 : decode cX1_lend 21 = .ok (.iload 4, 2) := by decide +kernel
theorem dX1_lend_23 : decode cX1_lend 23 = .ok (.iconst 0, 1) := by decide +kernel
theorem dX1_lend_24 : decode cX1_lend 24 = .ok (.iconst 3, 1) := by decide +kernel
theorem dX1_lend_25 : decode cX1_lend 25 = .ok (.invokestatic 41, 3) := by decide +kernel
theorem dX1_lend_28 : decode cX1_lend 28 = .ok (.ifCond .ne 5, 3) := by decide +kernel
theorem dX1_lend_31 : decode cX1_lend 31 = .ok (.iconst (-1), 1) := by decide +kernel
theorem dX1_lend_32 : decode cX1_lend 32 = .ok (.ireturn, 1) := by decide +kernel
theorem dX1_lend_33 : decode cX1_lend 33 = .ok (.iload 5, 2) := by decide +kernel
theorem dX1_lend_35 : decode cX1_lend 35 = .ok (.iconst 0, 1) := by decide +kernel
theorem dX1_lend_36 : decode cX1_lend 36 = .ok (.iconst 2, 1) := by decide +kernel
theorem dX1_lend_37 : decode cX1_lend 37 = .ok (.invokestatic 41, 3) := by decide +kernel
theorem dX1_lend_40 : decode cX1_lend 40 = .ok (.ifCond .eq 24, 3) := by decide +kernel
theorem dX1_lend_43 : decode cX1_lend 43 = .ok (.iload 6, 2) := by decide +kernel
theorem dX1_lend_45 : decode cX1_lend 45 = .ok (.iconst 0, 1) := by decide +kernel
theorem dX1_lend_46 : decode cX1_lend 46 = .ok (.iconst 1, 1) := by decide +kernel
theorem dX1_lend_47 : decode cX1_lend 47 = .ok (.invokestatic 41, 3) := by decide +kernel
theorem dX1_lend_50 : decode cX1_lend 50 = .ok (.ifCond .eq 14, 3) := by decide +kernel
theorem dX1_lend_53 : decode cX1_lend 53 = .ok (.iload 7, 2) := by decide +kernel
theorem dX1_lend_55 : decode cX1_lend 55 = .ok (.iconst 1, 1) := by decide +kernel
theorem dX1_lend_56 : decode cX1_lend 56 = .ok (.bipush 60, 2) := by decide +kernel
theorem dX1_lend_58 : decode cX1_lend 58 = .ok (.invokestatic 41, 3) := by decide +kernel
theorem dX1_lend_61 : decode cX1_lend 61 = .ok (.ifCond .ne 5, 3) := by decide +kernel
theorem dX1_lend_64 : decode cX1_lend 64 = .ok (.iconst (-1), 1) := by decide +kernel
theorem dX1_lend_65 : decode cX1_lend 65 = .ok (.ireturn, 1) := by decide +kernel
theorem dX1_lend_66 : decode cX1_lend 66 = .ok (.aload_n 0, 1) := by decide +kernel
theorem dX1_lend_67 : decode cX1_lend 67 = .ok (.getfield 9, 3) := by decide +kernel
theorem dX1_lend_70 : decode cX1_lend 70 = .ok (.invokestatic 45, 3) := by decide +kernel
theorem dX1_lend_73 : decode cX1_lend 73 = .ok (.iload 7, 2) := by decide +kernel
theorem dX1_lend_75 : decode cX1_lend 75 = .ok (.iadd, 1) := by decide +kernel
theorem dX1_lend_76 : decode cX1_lend 76 = .ok (.invokestatic 51, 3) := by decide +kernel
theorem dX1_lend_79 : decode cX1_lend 79 = .ok (.ldc 54, 2) := by decide +kernel
theorem dX1_lend_81 : decode cX1_lend 81 = .ok (.if_icmp .le 6, 3) := by decide +kernel
theorem dX1_lend_84 : decode cX1_lend 84 = .ok (.bipush (-5), 2) := by decide +kernel
theorem dX1_lend_86 : decode cX1_lend 86 = .ok (.ireturn, 1) := by decide +kernel
theorem dX1_lend_87 : decode cX1_lend 87 = .ok (.aload_n 0, 1) := by decide +kernel
theorem dX1_lend_88 : decode cX1_lend 88 = .ok (.getfield 21, 3) := by decide +kernel
theorem dX1_lend_91 : decode cX1_lend 91 = .ok (.bipush 8, 2) := by decide +kernel
theorem dX1_lend_93 : decode cX1_lend 93 = .ok (.if_icmp .lt 6, 3) := by decide +kernel
theorem dX1_lend_96 : decode cX1_lend 96 = .ok (.bipush (-3), 2) := by decide +kernel
theorem dX1_lend_98 : decode cX1_lend 98 = .ok (.ireturn, 1) := by decide +kernel
theorem dX1_lend_99 : decode cX1_lend 99 = .ok (.aload_n 0, 1) := by decide +kernel
theorem dX1_lend_100 : decode cX1_lend 100 = .ok (.getfield 26, 3) := by decide +kernel
theorem dX1_lend_103 : decode cX1_lend 103 = .ok (.aload_n 0, 1) := by decide +kernel
theorem dX1_lend_104 : decode cX1_lend 104 = .ok (.getfield 21, 3) := by decide +kernel
theorem dX1_lend_107 : decode cX1_lend 107 = .ok (.aaload, 1) := by decide +kernel
theorem dX1_lend_108 : decode cX1_lend 108 = .ok (.astore 8, 2) := by decide +kernel
theorem dX1_lend_110 : decode cX1_lend 110 = .ok (.aload 8, 2) := by decide +kernel
theorem dX1_lend_112 : decode cX1_lend 112 = .ok (.invokevirtual 55, 3) := by decide +kernel
theorem dX1_lend_115 : decode cX1_lend 115 = .ok (.aload 8, 2) := by decide +kernel
theorem dX1_lend_117 : decode cX1_lend 117 = .ok (.lload_n 1, 1) := by decide +kernel
theorem dX1_lend_118 : decode cX1_lend 118 = .ok (.putfield 58, 3) := by decide +kernel
theorem dX1_lend_121 : decode cX1_lend 121 = .ok (.aload 8, 2) := by decide +kernel
theorem dX1_lend_123 : decode cX1_lend 123 = .ok (.lload_n 1, 1) := by decide +kernel
theorem dX1_lend_124 : decode cX1_lend 124 = .ok (.putfield 62, 3) := by decide +kernel
theorem dX1_lend_127 : decode cX1_lend 127 = .ok (.aload 8, 2) := by decide +kernel
theorem dX1_lend_129 : decode cX1_lend 129 = .ok (.iload_n 3, 1) := by decide +kernel
theorem dX1_lend_130 : decode cX1_lend 130 = .ok (.putfield 65, 3) := by decide +kernel
theorem dX1_lend_133 : decode cX1_lend 133 = .ok (.aload 8, 2) := by decide +kernel
theorem dX1_lend_135 : decode cX1_lend 135 = .ok (.iload 4, 2) := by decide +kernel
theorem dX1_lend_137 : decode cX1_lend 137 = .ok (.putfield 68, 3) := by decide +kernel
theorem dX1_lend_140 : decode cX1_lend 140 = .ok (.aload 8, 2) := by decide +kernel
theorem dX1_lend_142 : decode cX1_lend 142 = .ok (.iload 5, 2) := by decide +kernel
theorem dX1_lend_144 : decode cX1_lend 144 = .ok (.putfield 71, 3) := by decide +kernel
theorem dX1_lend_147 : decode cX1_lend 147 = .ok (.aload 8, 2) := by decide +kernel
theorem dX1_lend_149 : decode cX1_lend 149 = .ok (.iload 6, 2) := by decide +kernel
theorem dX1_lend_151 : decode cX1_lend 151 = .ok (.putfield 74, 3) := by decide +kernel
theorem dX1_lend_154 : decode cX1_lend 154 = .ok (.aload 8, 2) := by decide +kernel
theorem dX1_lend_156 : decode cX1_lend 156 = .ok (.iload 7, 2) := by decide +kernel
theorem dX1_lend_158 : decode cX1_lend 158 = .ok (.putfield 77, 3) := by decide +kernel
theorem dX1_lend_161 : decode cX1_lend 161 = .ok (.aload 8, 2) := by decide +kernel
theorem dX1_lend_163 : decode cX1_lend 163 = .ok (.aload_n 0, 1) := by decide +kernel
theorem dX1_lend_164 : decode cX1_lend 164 = .ok (.getfield 9, 3) := by decide +kernel
theorem dX1_lend_167 : decode cX1_lend 167 = .ok (.invokevirtual 80, 3) := by decide +kernel
theorem dX1_lend_170 : decode cX1_lend 170 = .ok (.aload 8, 2) := by decide +kernel
theorem dX1_lend_172 : decode cX1_lend 172 = .ok (.invokevirtual 84, 3) := by decide +kernel
theorem dX1_lend_175 : decode cX1_lend 175 = .ok (.aload_n 0, 1) := by decide +kernel
theorem dX1_lend_176 : decode cX1_lend 176 = .ok (.dup, 1) := by decide +kernel
theorem dX1_lend_177 : decode cX1_lend 177 = .ok (.getfield 21, 3) := by decide +kernel
theorem dX1_lend_180 : decode cX1_lend 180 = .ok (.iconst 1, 1) := by decide +kernel
theorem dX1_lend_181 : decode cX1_lend 181 = .ok (.iadd, 1) := by decide +kernel
theorem dX1_lend_182 : decode cX1_lend 182 = .ok (.putfield 21, 3) := by decide +kernel
theorem dX1_lend_185 : decode cX1_lend 185 = .ok (.aload_n 0, 1) := by decide +kernel
theorem dX1_lend_186 : decode cX1_lend 186 = .ok (.getfield 21, 3) := by decide +kernel
theorem dX1_lend_189 : decode cX1_lend 189 = .ok (.iconst 1, 1) := by decide +kernel
theorem dX1_lend_190 : decode cX1_lend 190 = .ok (.isub, 1) := by decide +kernel
theorem dX1_lend_191 : decode cX1_lend 191 = .ok (.ireturn, 1) := by decide +kernel
theorem dX1_passDays_0 : decode cX1_passDays 0 = .ok (.iconst 0, 1) := by decide +kernel
theorem dX1_passDays_1 : decode cX1_passDays 1 = .ok (.istore_n 2, 1) := by decide +kernel
theorem dX1_passDays_2 : decode cX1_passDays 2 = .ok (.iconst 0, 1) := by decide +kernel
theorem dX1_passDays_3 : decode cX1_passDays 3 = .ok (.istore_n 3, 1) := by decide +kernel
theorem dX1_passDays_4 : decode cX1_passDays 4 = .ok (.iload_n 3, 1) := by decide +kernel
theorem dX1_passDays_5 : decode cX1_passDays 5 = .ok (.aload_n 0, 1) := by decide +kernel
theorem dX1_passDays_6 : decode cX1_passDays 6 = .ok (.getfield 21, 3) := by decide +kernel
theorem dX1_passDays_9 : decode cX1_passDays 9 = .ok (.if_icmp .ge 56, 3) := by decide +kernel
theorem dX1_passDays_12 : decode cX1_passDays 12 = .ok (.iload_n 2, 1) := by decide +kernel
theorem dX1_passDays_13 : decode cX1_passDays 13 = .ok (.aload_n 0, 1) := by decide +kernel
theorem dX1_passDays_14 : decode cX1_passDays 14 = .ok (.getfield 26, 3) := by decide +kernel
theorem dX1_passDays_17 : decode cX1_passDays 17 = .ok (.iload_n 3, 1) := by decide +kernel
theorem dX1_passDays_18 : decode cX1_passDays 18 = .ok (.aaload, 1) := by decide +kernel
theorem dX1_passDays_19 : decode cX1_passDays 19 = .ok (.aload_n 0, 1) := by decide +kernel
theorem dX1_passDays_20 : decode cX1_passDays 20 = .ok (.getfield 9, 3) := by decide +kernel
theorem dX1_passDays_23 : decode cX1_passDays 23 = .ok (.iload_n 1, 1) := by decide +kernel
theorem dX1_passDays_24 : decode cX1_passDays 24 = .ok (.iadd, 1) := by decide +kernel
theorem dX1_passDays_25 : decode cX1_passDays 25 = .ok (.invokevirtual 87, 3) := by decide +kernel
theorem dX1_passDays_28 : decode cX1_passDays 28 = .ok (.iadd, 1) := by decide +kernel
theorem dX1_passDays_29 : decode cX1_passDays 29 = .ok (.istore_n 2, 1) := by decide +kernel
theorem dX1_passDays_30 : decode cX1_passDays 30 = .ok (.aload_n 0, 1) := by decide +kernel
theorem dX1_passDays_31 : decode cX1_passDays 31 = .ok (.getfield 26, 3) := by decide +kernel
theorem dX1_passDays_34 : decode cX1_passDays 34 = .ok (.iload_n 3, 1) := by decide +kernel
theorem dX1_passDays_35 : decode cX1_passDays 35 = .ok (.aaload, 1) := by decide +kernel
theorem dX1_passDays_36 : decode cX1_passDays 36 = .ok (.aload_n 0, 1) := by decide +kernel
theorem dX1_passDays_37 : decode cX1_passDays 37 = .ok (.getfield 9, 3) := by decide +kernel
theorem dX1_passDays_40 : decode cX1_passDays 40 = .ok (.iconst 1, 1) := by decide +kernel
theorem dX1_passDays_41 : decode cX1_passDays 41 = .ok (.iadd, 1) := by decide +kernel
theorem dX1_passDays_42 : decode cX1_passDays 42 = .ok (.aload_n 0, 1) := by decide +kernel
theorem dX1_passDays_43 : decode cX1_passDays 43 = .ok (.getfield 9, 3) := by decide +kernel
theorem dX1_passDays_46 : decode cX1_passDays 46 = .ok (.iload_n 1, 1) := by decide +kernel
theorem dX1_passDays_47 : decode cX1_passDays 47 = .ok (.iadd, 1) := by decide +kernel
theorem dX1_passDays_48 : decode cX1_passDays 48 = .ok (.aload_n 0, 1) := by decide +kernel
theorem dX1_passDays_49 : decode cX1_passDays 49 = .ok (.getfield 15, 3) := by decide +kernel
theorem dX1_passDays_52 : decode cX1_passDays 52 = .ok (.aload_n 0, 1) := by decide +kernel
theorem dX1_passDays_53 : decode cX1_passDays 53 = .ok (.getfield 18, 3) := by decide +kernel
theorem dX1_passDays_56 : decode cX1_passDays 56 = .ok (.invokevirtual 90, 3) := by decide +kernel
theorem dX1_passDays_59 : decode cX1_passDays 59 = .ok (.iinc 3 1, 3) := by decide +kernel
theorem dX1_passDays_62 : decode cX1_passDays 62 = .ok (.goto (-58), 3) := by decide +kernel
theorem dX1_passDays_65 : decode cX1_passDays 65 = .ok (.aload_n 0, 1) := by decide +kernel
theorem dX1_passDays_66 : decode cX1_passDays 66 = .ok (.dup, 1) := by decide +kernel
theorem dX1_passDays_67 : decode cX1_passDays 67 = .ok (.getfield 9, 3) := by decide +kernel
theorem dX1_passDays_70 : decode cX1_passDays 70 = .ok (.iload_n 1, 1) := by decide +kernel
theorem dX1_passDays_71 : decode cX1_passDays 71 = .ok (.iadd, 1) := by decide +kernel
theorem dX1_passDays_72 : decode cX1_passDays 72 = .ok (.putfield 9, 3) := by decide +kernel
theorem dX1_passDays_75 : decode cX1_passDays 75 = .ok (.iload_n 2, 1) := by decide +kernel
theorem dX1_passDays_76 : decode cX1_passDays 76 = .ok (.ireturn, 1) := by decide +kernel
theorem dX1_billsInArrears_0 : decode cX1_billsInArrears 0 = .ok (.iconst 0, 1) := by decide +kernel
theorem dX1_billsInArrears_1 : decode cX1_billsInArrears 1 = .ok (.istore_n 1, 1) := by decide +kernel
theorem dX1_billsInArrears_2 : decode cX1_billsInArrears 2 = .ok (.iconst 0, 1) := by decide +kernel
theorem dX1_billsInArrears_3 : decode cX1_billsInArrears 3 = .ok (.istore_n 2, 1) := by decide +kernel
theorem dX1_billsInArrears_4 : decode cX1_billsInArrears 4 = .ok (.iload_n 2, 1) := by decide +kernel
theorem dX1_billsInArrears_5 : decode cX1_billsInArrears 5 = .ok (.aload_n 0, 1) := by decide +kernel
theorem dX1_billsInArrears_6 : decode cX1_billsInArrears 6 = .ok (.getfield 21, 3) := by decide +kernel
theorem dX1_billsInArrears_9 : decode cX1_billsInArrears 9 = .ok (.if_icmp .ge 21, 3) := by decide +kernel
theorem dX1_billsInArrears_12 : decode cX1_billsInArrears 12 = .ok (.iload_n 1, 1) := by decide +kernel
theorem dX1_billsInArrears_13 : decode cX1_billsInArrears 13 = .ok (.aload_n 0, 1) := by decide +kernel
theorem dX1_billsInArrears_14 : decode cX1_billsInArrears 14 = .ok (.getfield 26, 3) := by decide +kernel
theorem dX1_billsInArrears_17 : decode cX1_billsInArrears 17 = .ok (.iload_n 2, 1) := by decide +kernel
theorem dX1_billsInArrears_18 : decode cX1_billsInArrears 18 = .ok (.aaload, 1) := by decide +kernel
theorem dX1_billsInArrears_19 : decode cX1_billsInArrears 19 = .ok (.invokevirtual 94, 3) := by decide +kernel
theorem dX1_billsInArrears_22 : decode cX1_billsInArrears 22 = .ok (.iadd, 1) := by decide +kernel
theorem dX1_billsInArrears_23 : decode cX1_billsInArrears 23 = .ok (.istore_n 1, 1) := by decide +kernel
theorem dX1_billsInArrears_24 : decode cX1_billsInArrears 24 = .ok (.iinc 2 1, 3) := by decide +kernel
theorem dX1_billsInArrears_27 : decode cX1_billsInArrears 27 = .ok (.goto (-23), 3) := by decide +kernel
theorem dX1_billsInArrears_30 : decode cX1_billsInArrears 30 = .ok (.iload_n 1, 1) := by decide +kernel
theorem dX1_billsInArrears_31 : decode cX1_billsInArrears 31 = .ok (.ireturn, 1) := by decide +kernel
theorem dX1_settledLoans_0 : decode cX1_settledLoans 0 = .ok (.iconst 0, 1) := by decide +kernel
theorem dX1_settledLoans_1 : decode cX1_settledLoans 1 = .ok (.istore_n 1, 1) := by decide +kernel
theorem dX1_settledLoans_2 : decode cX1_settledLoans 2 = .ok (.iconst 0, 1) := by decide +kernel
theorem dX1_settledLoans_3 : decode cX1_settledLoans 3 = .ok (.istore_n 2, 1) := by decide +kernel
theorem dX1_settledLoans_4 : decode cX1_settledLoans 4 = .ok (.iload_n 2, 1) := by decide +kernel
theorem dX1_settledLoans_5 : decode cX1_settledLoans 5 = .ok (.aload_n 0, 1) := by decide +kernel
theorem dX1_settledLoans_6 : decode cX1_settledLoans 6 = .ok (.getfield 21, 3) := by decide +kernel
theorem dX1_settledLoans_9 : decode cX1_settledLoans 9 = .ok (.if_icmp .ge 24, 3) := by decide +kernel
theorem dX1_settledLoans_12 : decode cX1_settledLoans 12 = .ok (.aload_n 0, 1) := by decide +kernel
theorem dX1_settledLoans_13 : decode cX1_settledLoans 13 = .ok (.getfield 26, 3) := by decide +kernel
theorem dX1_settledLoans_16 : decode cX1_settledLoans 16 = .ok (.iload_n 2, 1) := by decide +kernel
theorem dX1_settledLoans_17 : decode cX1_settledLoans 17 = .ok (.aaload, 1) := by decide +kernel
theorem dX1_settledLoans_18 : decode cX1_settledLoans 18 = .ok (.invokevirtual 98, 3) := by decide +kernel
theorem dX1_settledLoans_21 : decode cX1_settledLoans 21 = .ok (.ifCond .eq 6, 3) := by decide +kernel
theorem dX1_settledLoans_24 : decode cX1_settledLoans 24 = .ok (.iinc 1 1, 3) := by decide +kernel
theorem dX1_settledLoans_27 : decode cX1_settledLoans 27 = .ok (.iinc 2 1, 3) := by decide +kernel
theorem dX1_settledLoans_30 : decode cX1_settledLoans 30 = .ok (.goto (-26), 3) := by decide +kernel
theorem dX1_settledLoans_33 : decode cX1_settledLoans 33 = .ok (.iload_n 1, 1) := by decide +kernel
theorem dX1_settledLoans_34 : decode cX1_settledLoans 34 = .ok (.ireturn, 1) := by decide +kernel
