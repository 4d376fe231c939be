theorem dX4_init_0 : decode cX4_init 0 = .ok (.aload_n 0, 1) := by decide +kernel
theorem dX4_init_1 : decode cX4_init 1 = .ok (.invokespecial 3, 3) := by decide +kernel
theorem dX4_init_4 : decode cX4_init 4 = .ok (.aload_n 0, 1) := by decide +kernel
theorem dX4_init_5 : decode cX4_init 5 = .ok (.bipush 61, 2) := by decide +kernel
theorem dX4_init_7 : decode cX4_init 7 = .ok (.newarray .int, 2) := by decide +kernel
theorem dX4_init_9 : decode cX4_init 9 = .ok (.putfield 9, 3) := by decide +kernel
theorem dX4_init_12 : decode cX4_init 12 = .ok (.aload_n 0, 1) := by decide +kernel
theorem dX4_init_13 : decode cX4_init 13 = .ok (.bipush 61, 2) := by decide +kernel
theorem dX4_init_15 : decode cX4_init 15 = .ok (.newarray .long, 2) := by decide +kernel
theorem dX4_init_17 : decode cX4_init 17 = .ok (.putfield 15, 3) := by decide +kernel
theorem dX4_init_20 : decode cX4_init 20 = .ok (.aload_n 0, 1) := by decide +kernel
theorem dX4_init_21 : decode cX4_init 21 = .ok (.bipush 61, 2) := by decide +kernel
theorem dX4_init_23 : decode cX4_init 23 = .ok (.newarray .long, 2) := by decide +kernel
theorem dX4_init_25 : decode cX4_init 25 = .ok (.putfield 19, 3) := by decide +kernel
theorem dX4_init_28 : decode cX4_init 28 = .ok (.aload_n 0, 1) := by decide +kernel
theorem dX4_init_29 : decode cX4_init 29 = .ok (.bipush 61, 2) := by decide +kernel
theorem dX4_init_31 : decode cX4_init 31 = .ok (.newarray .long, 2) := by decide +kernel
theorem dX4_init_33 : decode cX4_init 33 = .ok (.putfield 22, 3) := by decide +kernel
theorem dX4_init_36 : decode cX4_init 36 = .ok (.aload_n 0, 1) := by decide +kernel
theorem dX4_init_37 : decode cX4_init 37 = .ok (.bipush 61, 2) := by decide +kernel
theorem dX4_init_39 : decode cX4_init 39 = .ok (.newarray .long, 2) := by decide +kernel
theorem dX4_init_41 : decode cX4_init 41 = .ok (.putfield 25, 3) := by decide +kernel
theorem dX4_init_44 : decode cX4_init 44 = .ok (.aload_n 0, 1) := by decide +kernel
theorem dX4_init_45 : decode cX4_init 45 = .ok (.bipush 61, 2) := by decide +kernel
theorem dX4_init_47 : decode cX4_init 47 = .ok (.newarray .boolean, 2) := by decide +kernel
theorem dX4_init_49 : decode cX4_init 49 = .ok (.putfield 28, 3) := by decide +kernel
theorem dX4_init_52 : decode cX4_init 52 = .ok (.return_, 1) := by decide +kernel
theorem dX4_copyFrom_0 : decode cX4_copyFrom 0 = .ok (.aload_n 0, 1) := by decide +kernel
theorem dX4_copyFrom_1 : decode cX4_copyFrom 1 = .ok (.aload_n 1, 1) := by decide +kernel
theorem dX4_copyFrom_2 : decode cX4_copyFrom 2 = .ok (.getfield 32, 3) := by decide +kernel
theorem dX4_copyFrom_5 : decode cX4_copyFrom 5 = .ok (.putfield 32, 3) := by decide +kernel
theorem dX4_copyFrom_8 : decode cX4_copyFrom 8 = .ok (.aload_n 0, 1) := by decide +kernel
theorem dX4_copyFrom_9 : decode cX4_copyFrom 9 = .ok (.aload_n 1, 1) := by decide +kernel
theorem dX4_copyFrom_10 : decode cX4_copyFrom 10 = .ok (.getfield 36, 3) := by decide +kernel
theorem dX4_copyFrom_13 : decode cX4_copyFrom 13 = .ok (.putfield 36, 3) := by decide +kernel
theorem dX4_copyFrom_16 : decode cX4_copyFrom 16 = .ok (.aload_n 0, 1) := by decide +kernel
theorem dX4_copyFrom_17 : decode cX4_copyFrom 17 = .ok (.aload_n 1, 1) := by decide +kernel
theorem dX4_copyFrom_18 : decode cX4_copyFrom 18 = .ok (.getfield 39, 3) := by decide +kernel
theorem dX4_copyFrom_21 : decode cX4_copyFrom 21 = .ok (.putfield 39, 3) := by decide +kernel
theorem dX4_copyFrom_24 : decode cX4_copyFrom 24 = .ok (.aload_n 0, 1) := by decide +kernel
theorem dX4_copyFrom_25 : decode cX4_copyFrom 25 = .ok (.aload_n 1, 1) := by decide +kernel
theorem dX4_copyFrom_26 : decode cX4_copyFrom 26 = .ok (.getfield 42, 3) := by decide +kernel
theorem dX4_copyFrom_29 : decode cX4_copyFrom 29 = .ok (.putfield 42, 3) := by decide +kernel
theorem dX4_copyFrom_32 : decode cX4_copyFrom 32 = .ok (.aload_n 0, 1) := by decide +kernel
theorem dX4_copyFrom_33 : decode cX4_copyFrom 33 = .ok (.aload_n 1, 1) := by decide +kernel
theorem dX4_copyFrom_34 : decode cX4_copyFrom 34 = .ok (.getfield 45, 3) := by decide +kernel
theorem dX4_copyFrom_37 : decode cX4_copyFrom 37 = .ok (.putfield 45, 3) := by decide +kernel
theorem dX4_copyFrom_40 : decode cX4_copyFrom 40 = .ok (.aload_n 0, 1) := by decide +kernel
theorem dX4_copyFrom_41 : decode cX4_copyFrom 41 = .ok (.aload_n 1, 1) := by decide +kernel
theorem dX4_copyFrom_42 : decode cX4_copyFrom 42 = .ok (.getfield 48, 3) := by decide +kernel
theorem dX4_copyFrom_45 : decode cX4_copyFrom 45 = .ok (.putfield 48, 3) := by decide +kernel
theorem dX4_copyFrom_48 : decode cX4_copyFrom 48 = .ok (.aload_n 0, 1) := by decide +kernel
theorem dX4_copyFrom_49 : decode cX4_copyFrom 49 = .ok (.aload_n 1, 1) := by decide +kernel
theorem dX4_copyFrom_50 : decode cX4_copyFrom 50 = .ok (.getfield 51, 3) := by decide +kernel
theorem dX4_copyFrom_53 : decode cX4_copyFrom 53 = .ok (.putfield 51, 3) := by decide +kernel
theorem dX4_copyFrom_56 : decode cX4_copyFrom 56 = .ok (.aload_n 0, 1) := by decide +kernel
theorem dX4_copyFrom_57 : decode cX4_copyFrom 57 = .ok (.aload_n 1, 1) := by decide +kernel
theorem dX4_copyFrom_58 : decode cX4_copyFrom 58 = .ok (.getfield 54, 3) := by decide +kernel
theorem dX4_copyFrom_61 : decode cX4_copyFrom 61 = .ok (.putfield 54, 3) := by decide +kernel
theorem dX4_copyFrom_64 : decode cX4_copyFrom 64 = .ok (.aload_n 0, 1) := by decide +kernel
theorem dX4_copyFrom_65 : decode cX4_copyFrom 65 = .ok (.aload_n 1, 1) := by decide +kernel
theorem dX4_copyFrom_66 : decode cX4_copyFrom 66 = .ok (.getfield 58, 3) := by decide +kernel
theorem dX4_copyFrom_69 : decode cX4_copyFrom 69 = .ok (.putfield 58, 3) := by decide +kernel
theorem dX4_copyFrom_72 : decode cX4_copyFrom 72 = .ok (.aload_n 0, 1) := by decide +kernel
theorem dX4_copyFrom_73 : decode cX4_copyFrom 73 = .ok (.aload_n 1, 1) := by decide +kernel
theorem dX4_copyFrom_74 : decode cX4_copyFrom 74 = .ok (.getfield 61, 3) := by decide +kernel
theorem dX4_copyFrom_77 : decode cX4_copyFrom 77 = .ok (.putfield 61, 3) := by decide +kernel
theorem dX4_copyFrom_80 : decode cX4_copyFrom 80 = .ok (.aload_n 0, 1) := by decide +kernel
theorem dX4_copyFrom_81 : decode cX4_copyFrom 81 = .ok (.aload_n 1, 1) := by decide +kernel
theorem dX4_copyFrom_82 : decode cX4_copyFrom 82 = .ok (.getfield 64, 3) := by decide +kernel
theorem dX4_copyFrom_85 : decode cX4_copyFrom 85 = .ok (.putfield 64, 3) := by decide +kernel
theorem dX4_copyFrom_88 : decode cX4_copyFrom 88 = .ok (.aload_n 0, 1) := by decide +kernel
theorem dX4_copyFrom_89 : decode cX4_copyFrom 89 = .ok (.aload_n 1, 1) := by decide +kernel
theorem dX4_copyFrom_90 : decode cX4_copyFrom 90 = .ok (.getfield 67, 3) := by decide +kernel
theorem dX4_copyFrom_93 : decode cX4_copyFrom 93 = .ok (.putfield 67, 3) := by decide +kernel
theorem dX4_copyFrom_96 : decode cX4_copyFrom 96 = .ok (.aload_n 0, 1) := by decide +kernel
theorem dX4_copyFrom_97 : decode cX4_copyFrom 97 = .ok (.aload_n 1, 1) := by decide +kernel
theorem dX4_copyFrom_98 : decode cX4_copyFrom 98 = .ok (.getfield 70, 3) := by decide +kernel
theorem dX4_copyFrom_101 : decode cX4_copyFrom 101 = .ok (.putfield 70, 3) := by decide +kernel
theorem dX4_copyFrom_104 : decode cX4_copyFrom 104 = .ok (.aload_n 1, 1) := by decide +kernel
theorem dX4_copyFrom_105 : decode cX4_copyFrom 105 = .ok (.getfield 9, 3) := by decide +kernel
theorem dX4_copyFrom_108 : decode cX4_copyFrom 108 = .ok (.iconst 0, 1) := by decide +kernel
theorem dX4_copyFrom_109 : decode cX4_copyFrom 109 = .ok (.aload_n 0, 1) := by decide +kernel
theorem dX4_copyFrom_110 : decode cX4_copyFrom 110 = .ok (.getfield 9, 3) := by decide +kernel
theorem dX4_copyFrom_113 : decode cX4_copyFrom 113 = .ok (.iconst 0, 1) := by decide +kernel
theorem dX4_copyFrom_114 : decode cX4_copyFrom 114 = .ok (.bipush 61, 2) := by decide +kernel
theorem dX4_copyFrom_116 : decode cX4_copyFrom 116 = .ok (.invokestatic 73, 3) := by decide +kernel
theorem dX4_copyFrom_119 : decode cX4_copyFrom 119 = .ok (.aload_n 1, 1) := by decide +kernel
theorem dX4_copyFrom_120 : decode cX4_copyFrom 120 = .ok (.getfield 15, 3) := by decide +kernel
theorem dX4_copyFrom_123 : decode cX4_copyFrom 123 = .ok (.iconst 0, 1) := by decide +kernel
theorem dX4_copyFrom_124 : decode cX4_copyFrom 124 = .ok (.aload_n 0, 1) := by decide +kernel
theorem dX4_copyFrom_125 : decode cX4_copyFrom 125 = .ok (.getfield 15, 3) := by decide +kernel
theorem dX4_copyFrom_128 : decode cX4_copyFrom 128 = .ok (.iconst 0, 1) := by decide +kernel
theorem dX4_copyFrom_129 : decode cX4_copyFrom 129 = .ok (.bipush 61, 2) := by decide +kernel
theorem dX4_copyFrom_131 : decode cX4_copyFrom 131 = .ok (.invokestatic 73, 3) := by decide +kernel
theorem dX4_copyFrom_134 : decode cX4_copyFrom 134 = .ok (.aload_n 1, 1) := by decide +kernel
theorem dX4_copyFrom_135 : decode cX4_copyFrom 135 = .ok (.getfield 19, 3) := by decide +kernel
theorem dX4_copyFrom_138 : decode cX4_copyFrom 138 = .ok (.iconst 0, 1) := by decide +kernel
theorem dX4_copyFrom_139 : decode cX4_copyFrom 139 = .ok (.aload_n 0, 1) := by decide +kernel
theorem dX4_copyFrom_140 : decode cX4_copyFrom 140 = .ok (.getfield 19, 3) := by decide +kernel
theorem dX4_copyFrom_143 : decode cX4_copyFrom 143 = .ok (.iconst 0, 1) := by decide +kernel
theorem dX4_copyFrom_144 : decode cX4_copyFrom 144 = .ok (.bipush 61, 2) := by decide +kernel
theorem dX4_copyFrom_146 : decode cX4_copyFrom 146 = .ok (.invokestatic 73, 3) := by decide +kernel
theorem dX4_copyFrom_149 : decode cX4_copyFrom 149 = .ok (.aload_n 1, 1) := by decide +kernel
theorem dX4_copyFrom_150 : decode cX4_copyFrom 150 = .ok (.getfield 22, 3) := by decide +kernel
theorem dX4_copyFrom_153 : decode cX4_copyFrom 153 = .ok (.iconst 0, 1) := by decide +kernel
theorem dX4_copyFrom_154 : decode cX4_copyFrom 154 = .ok (.aload_n 0, 1) := by decide +kernel
theorem dX4_copyFrom_155 : decode cX4_copyFrom 155 = .ok (.getfield 22, 3) := by decide +kernel
theorem dX4_copyFrom_158 : decode cX4_copyFrom 158 = .ok (.iconst 0, 1) := by decide +kernel
theorem dX4_copyFrom_159 : decode cX4_copyFrom 159 = .ok (.bipush 61, 2) := by decide +kernel
theorem dX4_copyFrom_161 : decode cX4_copyFrom 161 = .ok (.invokestatic 73, 3) := by decide +kernel
theorem dX4_copyFrom_164 : decode cX4_copyFrom 164 = .ok (.aload_n 1, 1) := by decide +kernel
theorem dX4_copyFrom_165 : decode cX4_copyFrom 165 = .ok (.getfield 25, 3) := by decide +kernel
theorem dX4_copyFrom_168 : decode cX4_copyFrom 168 = .ok (.iconst 0, 1) := by decide +kernel
theorem dX4_copyFrom_169 : decode cX4_copyFrom 169 = .ok (.aload_n 0, 1) := by decide +kernel
theorem dX4_copyFrom_170 : decode cX4_copyFrom 170 = .ok (.getfield 25, 3) := by decide +kernel
theorem dX4_copyFrom_173 : decode cX4_copyFrom 173 = .ok (.iconst 0, 1) := by decide +kernel
theorem dX4_copyFrom_174 : decode cX4_copyFrom 174 = .ok (.bipush 61, 2) := by decide +kernel
theorem dX4_copyFrom_176 : decode cX4_copyFrom 176 = .ok (.invokestatic 73, 3) := by decide +kernel
theorem dX4_copyFrom_179 : decode cX4_copyFrom 179 = .ok (.aload_n 1, 1) := by decide +kernel
theorem dX4_copyFrom_180 : decode cX4_copyFrom 180 = .ok (.getfield 28, 3) := by decide +kernel
theorem dX4_copyFrom_183 : decode cX4_copyFrom 183 = .ok (.iconst 0, 1) := by decide +kernel
theorem dX4_copyFrom_184 : decode cX4_copyFrom 184 = .ok (.aload_n 0, 1) := by decide +kernel
theorem dX4_copyFrom_185 : decode cX4_copyFrom 185 = .ok (.getfield 28, 3) := by decide +kernel
theorem dX4_copyFrom_188 : decode cX4_copyFrom 188 = .ok (.iconst 0, 1) := by decide +kernel
theorem dX4_copyFrom_189 : decode cX4_copyFrom 189 = .ok (.bipush 61, 2) := by decide +kernel
theorem dX4_copyFrom_191 : decode cX4_copyFrom 191 = .ok (.invokestatic 73, 3) := by decide +kernel
theorem dX4_copyFrom_194 : decode cX4_copyFrom 194 = .ok (.return_, 1) := by decide +kernel
theorem dX4_clear_0 : decode cX4_clear 0 = .ok (.aload_n 0, 1) := by decide +kernel
theorem dX4_clear_1 : decode cX4_clear 1 = .ok (.lconst 0, 1) := by decide +kernel
theorem dX4_clear_2 : decode cX4_clear 2 = .ok (.putfield 39, 3) := by decide +kernel
theorem dX4_clear_5 : decode cX4_clear 5 = .ok (.aload_n 0, 1) := by decide +kernel
theorem dX4_clear_6 : decode cX4_clear 6 = .ok (.lconst 0, 1) := by decide +kernel
theorem dX4_clear_7 : decode cX4_clear 7 = .ok (.putfield 42, 3) := by decide +kernel
theorem dX4_clear_10 : decode cX4_clear 10 = .ok (.aload_n 0, 1) := by decide +kernel
theorem dX4_clear_11 : decode cX4_clear 11 = .ok (.lconst 0, 1) := by decide +kernel
theorem dX4_clear_12 : decode cX4_clear 12 = .ok (.putfield 45, 3) := by decide +kernel
theorem dX4_clear_15 : decode cX4_clear 15 = .ok (.aload_n 0, 1) := by decide +kernel
theorem dX4_clear_16 : decode cX4_clear 16 = .ok (.lconst 0, 1) := by decide +kernel
theorem dX4_clear_17 : decode cX4_clear 17 = .ok (.putfield 48, 3) := by decide +kernel
theorem dX4_clear_20 : decode cX4_clear 20 = .ok (.aload_n 0, 1) := by decide +kernel
theorem dX4_clear_21 : decode cX4_clear 21 = .ok (.lconst 0, 1) := by decide +kernel
theorem dX4_clear_22 : decode cX4_clear 22 = .ok (.putfield 51, 3) := by decide +kernel
theorem dX4_clear_25 : decode cX4_clear 25 = .ok (.aload_n 0, 1) := by decide +kernel
theorem dX4_clear_26 : decode cX4_clear 26 = .ok (.iconst 0, 1) := by decide +kernel
theorem dX4_clear_27 : decode cX4_clear 27 = .ok (.putfield 70, 3) := by decide +kernel
theorem dX4_clear_30 : decode cX4_clear 30 = .ok (.aload_n 0, 1) := by decide +kernel
theorem dX4_clear_31 : decode cX4_clear 31 = .ok (.invokevirtual 79, 3) := by decide +kernel
theorem dX4_clear_34 : decode cX4_clear 34 = .ok (.return_, 1) := by decide +kernel
theorem dX4_clearArrears_0 : decode cX4_clearArrears 0 = .ok (.iconst 0, 1) := by decide +kernel
theorem dX4_clearArrears_1 : decode cX4_clearArrears 1 = .ok (.istore_n 1, 1) := by decide +kernel
theorem dX4_clearArrears_2 : decode cX4_clearArrears 2 = .ok (.iload_n 1, 1) := by decide +kernel
theorem dX4_clearArrears_3 : decode cX4_clearArrears 3 = .ok (.bipush 60, 2) := by decide +kernel
theorem dX4_clearArrears_5 : decode cX4_clearArrears 5 = .ok (.if_icmp .gt 37, 3) := by decide +kernel
theorem dX4_clearArrears_8 : decode cX4_clearArrears 8 = .ok (.aload_n 0, 1) := by decide +kernel
theorem dX4_clearArrears_9 : decode cX4_clearArrears 9 = .ok (.getfield 19, 3) := by decide +kernel
theorem dX4_clearArrears_12 : decode cX4_clearArrears 12 = .ok (.iload_n 1, 1) := by decide +kernel
theorem dX4_clearArrears_13 : decode cX4_clearArrears 13 = .ok (.lconst 0, 1) := by decide +kernel
theorem dX4_clearArrears_14 : decode cX4_clearArrears 14 = .ok (.lastore, 1) := by decide +kernel
theorem dX4_clearArrears_15 : decode cX4_clearArrears 15 = .ok (.aload_n 0, 1) := by decide +kernel
theorem dX4_clearArrears_16 : decode cX4_clearArrears 16 = .ok (.getfield 22, 3) := by decide +kernel
theorem dX4_clearArrears_19 : decode cX4_clearArrears 19 = .ok (.iload_n 1, 1) := by decide +kernel
theorem dX4_clearArrears_20 : decode cX4_clearArrears 20 = .ok (.lconst 0, 1) := by decide +kernel
theorem dX4_clearArrears_21 : decode cX4_clearArrears 21 = .ok (.lastore, 1) := by decide +kernel
theorem dX4_clearArrears_22 : decode cX4_clearArrears 22 = .ok (.aload_n 0, 1) := by decide +kernel
theorem dX4_clearArrears_23 : decode cX4_clearArrears 23 = .ok (.getfield 25, 3) := by decide +kernel
theorem dX4_clearArrears_26 : decode cX4_clearArrears 26 = .ok (.iload_n 1, 1) := by decide +kernel
theorem dX4_clearArrears_27 : decode cX4_clearArrears 27 = .ok (.lconst 0, 1) := by decide +kernel
theorem dX4_clearArrears_28 : decode cX4_clearArrears 28 = .ok (.lastore, 1) := by decide +kernel
theorem dX4_clearArrears_29 : decode cX4_clearArrears 29 = .ok (.aload_n 0, 1) := by decide +kernel
theorem dX4_clearArrears_30 : decode cX4_clearArrears 30 = .ok (.getfield 28, 3) := by decide +kernel
theorem dX4_clearArrears_33 : decode cX4_clearArrears 33 = .ok (.iload_n 1, 1) := by decide +kernel
theorem dX4_clearArrears_34 : decode cX4_clearArrears 34 = .ok (.iconst 0, 1) := by decide +kernel
theorem dX4_clearArrears_35 : decode cX4_clearArrears 35 = .ok (.bastore, 1) := by decide +kernel
theorem dX4_clearArrears_36 : decode cX4_clearArrears 36 = .ok (.iinc 1 1, 3) := by decide +kernel
theorem dX4_clearArrears_39 : decode cX4_clearArrears 39 = .ok (.goto (-37), 3) := by decide +kernel
theorem dX4_clearArrears_42 : decode cX4_clearArrears 42 = .ok (.return_, 1) := by decide +kernel
theorem dX4_layPeriods_0 : decode cX4_layPeriods 0 = .ok (.iload_n 1, 1) := by decide +kernel
theorem dX4_layPeriods_1 : decode cX4_layPeriods 1 = .ok (.invokestatic 82, 3) := by decide +kernel
theorem dX4_layPeriods_4 : decode cX4_layPeriods 4 = .ok (.istore_n 2, 1) := by decide +kernel
theorem dX4_layPeriods_5 : decode cX4_layPeriods 5 = .ok (.iload_n 1, 1) := by decide +kernel
theorem dX4_layPeriods_6 : decode cX4_layPeriods 6 = .ok (.iload_n 2, 1) := by decide +kernel
theorem dX4_layPeriods_7 : decode cX4_layPeriods 7 = .ok (.invokestatic 88, 3) := by decide +kernel
theorem dX4_layPeriods_10 : decode cX4_layPeriods 10 = .ok (.isub, 1) := by decide +kernel
theorem dX4_layPeriods_11 : decode cX4_layPeriods 11 = .ok (.istore_n 3, 1) := by decide +kernel
theorem dX4_layPeriods_12 : decode cX4_layPeriods 12 = .ok (.aload_n 0, 1) := by decide +kernel
theorem dX4_layPeriods_13 : decode cX4_layPeriods 13 = .ok (.getfield 9, 3) := by decide +kernel
theorem dX4_layPeriods_16 : decode cX4_layPeriods 16 = .ok (.iconst 0, 1) := by decide +kernel
theorem dX4_layPeriods_17 : decode cX4_layPeriods 17 = .ok (.iload_n 1, 1) := by decide +kernel
theorem dX4_layPeriods_18 : decode cX4_layPeriods 18 = .ok (.iastore, 1) := by decide +kernel
theorem dX4_layPeriods_19 : decode cX4_layPeriods 19 = .ok (.iconst 1, 1) := by decide +kernel
theorem dX4_layPeriods_20 : decode cX4_layPeriods 20 = .ok (.istore 4, 2) := by decide +kernel
theorem dX4_layPeriods_22 : decode cX4_layPeriods 22 = .ok (.iload 4, 2) := by decide +kernel
theorem dX4_layPeriods_24 : decode cX4_layPeriods 24 = .ok (.aload_n 0, 1) := by decide +kernel
theorem dX4_layPeriods_25 : decode cX4_layPeriods 25 = .ok (.getfield 67, 3) := by decide +kernel
theorem dX4_layPeriods_28 : decode cX4_layPeriods 28 = .ok (.if_icmp .gt 67, 3) := by decide +kernel
theorem dX4_layPeriods_31 : decode cX4_layPeriods 31 = .ok (.aload_n 0, 1) := by decide +kernel
theorem dX4_layPeriods_32 : decode cX4_layPeriods 32 = .ok (.getfield 9, 3) := by decide +kernel
theorem dX4_layPeriods_35 : decode cX4_layPeriods 35 = .ok (.iload 4, 2) := by decide +kernel
theorem dX4_layPeriods_37 : decode cX4_layPeriods 37 = .ok (.iload_n 2, 1) := by decide +kernel
theorem dX4_layPeriods_38 : decode cX4_layPeriods 38 = .ok (.iload 4, 2) := by decide +kernel
theorem dX4_layPeriods_40 : decode cX4_layPeriods 40 = .ok (.iadd, 1) := by decide +kernel
theorem dX4_layPeriods_41 : decode cX4_layPeriods 41 = .ok (.invokestatic 88, 3) := by decide +kernel
theorem dX4_layPeriods_44 : decode cX4_layPeriods 44 = .ok (.iload_n 3, 1) := by decide +kernel
theorem dX4_layPeriods_45 : decode cX4_layPeriods 45 = .ok (.iload_n 2, 1) := by decide +kernel
theorem dX4_layPeriods_46 : decode cX4_layPeriods 46 = .ok (.iload 4, 2) := by decide +kernel
theorem dX4_layPeriods_48 : decode cX4_layPeriods 48 = .ok (.iadd, 1) := by decide +kernel
theorem dX4_layPeriods_49 : decode cX4_layPeriods 49 = .ok (.invokestatic 91, 3) := by decide +kernel
theorem dX4_layPeriods_52 : decode cX4_layPeriods 52 = .ok (.iconst 1, 1) := by decide +kernel
theorem dX4_layPeriods_53 : decode cX4_layPeriods 53 = .ok (.isub, 1) := by decide +kernel
theorem dX4_layPeriods_54 : decode cX4_layPeriods 54 = .ok (.invokestatic 94, 3) := by decide +kernel
theorem dX4_layPeriods_57 : decode cX4_layPeriods 57 = .ok (.iadd, 1) := by decide +kernel
theorem dX4_layPeriods_58 : decode cX4_layPeriods 58 = .ok (.iastore, 1) := by decide +kernel
theorem dX4_layPeriods_59 : decode cX4_layPeriods 59 = .ok (.aload_n 0, 1) := by decide +kernel
theorem dX4_layPeriods_60 : decode cX4_layPeriods 60 = .ok (.getfield 15, 3) := by decide +kernel
theorem dX4_layPeriods_63 : decode cX4_layPeriods 63 = .ok (.iload 4, 2) := by decide +kernel
theorem dX4_layPeriods_65 : decode cX4_layPeriods 65 = .ok (.aload_n 0, 1) := by decide +kernel
theorem dX4_layPeriods_66 : decode cX4_layPeriods 66 = .ok (.getfield 58, 3) := by decide +kernel
theorem dX4_layPeriods_69 : decode cX4_layPeriods 69 = .ok (.aload_n 0, 1) := by decide +kernel
theorem dX4_layPeriods_70 : decode cX4_layPeriods 70 = .ok (.getfield 9, 3) := by decide +kernel
theorem dX4_layPeriods_73 : decode cX4_layPeriods 73 = .ok (.iload 4, 2) := by decide +kernel
theorem dX4_layPeriods_75 : decode cX4_layPeriods 75 = .ok (.iconst 1, 1) := by decide +kernel
theorem dX4_layPeriods_76 : decode cX4_layPeriods 76 = .ok (.isub, 1) := by decide +kernel
theorem dX4_layPeriods_77 : decode cX4_layPeriods 77 = .ok (.iaload, 1) := by decide +kernel
theorem dX4_layPeriods_78 : decode cX4_layPeriods 78 = .ok (.aload_n 0, 1) := by decide +kernel
theorem dX4_layPeriods_79 : decode cX4_layPeriods 79 = .ok (.getfield 9, 3) := by decide +kernel
theorem dX4_layPeriods_82 : decode cX4_layPeriods 82 = .ok (.iload 4, 2) := by decide +kernel
theorem dX4_layPeriods_84 : decode cX4_layPeriods 84 = .ok (.iaload, 1) := by decide +kernel
theorem dX4_layPeriods_85 : decode cX4_layPeriods 85 = .ok (.invokestatic 100, 3) := by decide +kernel
theorem dX4_layPeriods_88 : decode cX4_layPeriods 88 = .ok (.lastore, 1) := by decide +kernel
theorem dX4_layPeriods_89 : decode cX4_layPeriods 89 = .ok (.iinc 4 1, 3) := by decide +kernel
theorem dX4_layPeriods_92 : decode cX4_layPeriods 92 = .ok (.goto (-70), 3) := by decide +kernel
theorem dX4_layPeriods_95 : decode cX4_layPeriods 95 = .ok (.return_, 1) := by decide +kernel
theorem dX4_interestOf_0 : decode cX4_interestOf 0 = .ok (.lload_n 2, 1) := by decide +kernel
theorem dX4_interestOf_1 : decode cX4_interestOf 1 = .ok (.aload_n 0, 1) := by decide +kernel
theorem dX4_interestOf_2 : decode cX4_interestOf 2 = .ok (.getfield 54, 3) := by decide +kernel
theorem dX4_interestOf_5 : decode cX4_interestOf 5 = .ok (.i2l, 1) := by decide +kernel
theorem dX4_interestOf_6 : decode cX4_interestOf 6 = .ok (.lmul, 1) := by decide +kernel
theorem dX4_interestOf_7 : decode cX4_interestOf 7 = .ok (.aload_n 0, 1) := by decide +kernel
theorem dX4_interestOf_8 : decode cX4_interestOf 8 = .ok (.getfield 58, 3) := by decide +kernel
theorem dX4_interestOf_11 : decode cX4_interestOf 11 = .ok (.aload_n 0, 1) := by decide +kernel
theorem dX4_interestOf_12 : decode cX4_interestOf 12 = .ok (.getfield 15, 3) := by decide +kernel
theorem dX4_interestOf_15 : decode cX4_interestOf 15 = .ok (.iload_n 1, 1) := by decide +kernel
theorem dX4_interestOf_16 : decode cX4_interestOf 16 = .ok (.laload, 1) := by decide +kernel
theorem dX4_interestOf_17 : decode cX4_interestOf 17 = .ok (.invokestatic 104, 3) := by decide +kernel
theorem dX4_interestOf_20 : decode cX4_interestOf 20 = .ok (.lreturn, 1) := by decide +kernel
theorem dX4_principalOf_0 : decode cX4_principalOf 0 = .ok (.aload_n 0, 1) := by decide +kernel
theorem dX4_principalOf_1 : decode cX4_principalOf 1 = .ok (.getfield 67, 3) := by decide +kernel
theorem dX4_principalOf_4 : decode cX4_principalOf 4 = .ok (.iload_n 1, 1) := by decide +kernel
theorem dX4_principalOf_5 : decode cX4_principalOf 5 = .ok (.isub, 1) := by decide +kernel
theorem dX4_principalOf_6 : decode cX4_principalOf 6 = .ok (.iconst 1, 1) := by decide +kernel
theorem dX4_principalOf_7 : decode cX4_principalOf 7 = .ok (.iadd, 1) := by decide +kernel
theorem dX4_principalOf_8 : decode cX4_principalOf 8 = .ok (.istore 6, 2) := by decide +kernel
theorem dX4_principalOf_10 : decode cX4_principalOf 10 = .ok (.iload 6, 2) := by decide +kernel
theorem dX4_principalOf_12 : decode cX4_principalOf 12 = .ok (.iconst 1, 1) := by decide +kernel
theorem dX4_principalOf_13 : decode cX4_principalOf 13 = .ok (.if_icmp .gt 5, 3) := by decide +kernel
theorem dX4_principalOf_16 : decode cX4_principalOf 16 = .ok (.lload_n 2, 1) := by decide +kernel
theorem dX4_principalOf_17 : decode cX4_principalOf 17 = .ok (.lreturn, 1) := by decide +kernel
theorem dX4_principalOf_18 : decode cX4_principalOf 18 = .ok (.aload_n 0, 1) := by decide +kernel
theorem dX4_principalOf_19 : decode cX4_principalOf 19 = .ok (.getfield 61, 3) := by decide +kernel
theorem dX4_principalOf_22 : decode cX4_principalOf 22 = .ok (.lookupswitch 43 #[(0, 26), (1, 37)], 26) := by decide +kernel
theorem dX4_principalOf_48 : decode cX4_principalOf 48 = .ok (.aload_n 0, 1) := by decide +kernel
theorem dX4_principalOf_49 : decode cX4_principalOf 49 = .ok (.getfield 39, 3) := by decide +kernel
theorem dX4_principalOf_52 : decode cX4_principalOf 52 = .ok (.lload_n 2, 1) := by decide +kernel
theorem dX4_principalOf_53 : decode cX4_principalOf 53 = .ok (.lload 4, 2) := by decide +kernel
theorem dX4_principalOf_55 : decode cX4_principalOf 55 = .ok (.invokestatic 108, 3) := by decide +kernel
theorem dX4_principalOf_58 : decode cX4_principalOf 58 = .ok (.lreturn, 1) := by decide +kernel
theorem dX4_principalOf_59 : decode cX4_principalOf 59 = .ok (.lload_n 2, 1) := by decide +kernel
theorem dX4_principalOf_60 : decode cX4_principalOf 60 = .ok (.iload 6, 2) := by decide +kernel
theorem dX4_principalOf_62 : decode cX4_principalOf 62 = .ok (.i2l, 1) := by decide +kernel
theorem dX4_principalOf_63 : decode cX4_principalOf 63 = .ok (.ldiv, 1) := by decide +kernel
theorem dX4_principalOf_64 : decode cX4_principalOf 64 = .ok (.lreturn, 1) := by decide +kernel
theorem dX4_principalOf_65 : decode cX4_principalOf 65 = .ok (.lconst 0, 1) := by decide +kernel
theorem dX4_principalOf_66 : decode cX4_principalOf 66 = .ok (.lreturn, 1) := by decide +kernel
theorem dX4_repaidBy_0 : decode cX4_repaidBy 0 = .ok (.lload_n 2, 1) := by decide +kernel
theorem dX4_repaidBy_1 : decode cX4_repaidBy 1 = .ok (.lconst 0, 1) := by decide +kernel
theorem dX4_repaidBy_2 : decode cX4_repaidBy 2 = .ok (.lload_n 0, 1) := by decide +kernel
theorem dX4_repaidBy_3 : decode cX4_repaidBy 3 = .ok (.lload 4, 2) := by decide +kernel
theorem dX4_repaidBy_5 : decode cX4_repaidBy 5 = .ok (.lsub, 1) := by decide +kernel
theorem dX4_repaidBy_6 : decode cX4_repaidBy 6 = .ok (.invokestatic 112, 3) := by decide +kernel
theorem dX4_repaidBy_9 : decode cX4_repaidBy 9 = .ok (.invokestatic 116, 3) := by decide +kernel
theorem dX4_repaidBy_12 : decode cX4_repaidBy 12 = .ok (.lreturn, 1) := by decide +kernel
theorem dX4_findLevel_0 : decode cX4_findLevel 0 = .ok (.aload_n 0, 1) := by decide +kernel
theorem dX4_findLevel_1 : decode cX4_findLevel 1 = .ok (.getfield 61, 3) := by decide +kernel
theorem dX4_findLevel_4 : decode cX4_findLevel 4 = .ok (.ifCond .ne 12, 3) := by decide +kernel
theorem dX4_findLevel_7 : decode cX4_findLevel 7 = .ok (.aload_n 0, 1) := by decide +kernel
theorem dX4_findLevel_8 : decode cX4_findLevel 8 = .ok (.getfield 36, 3) := by decide +kernel
theorem dX4_findLevel_11 : decode cX4_findLevel 11 = .ok (.lconst 0, 1) := by decide +kernel
theorem dX4_findLevel_12 : decode cX4_findLevel 12 = .ok (.lcmp, 1) := by decide +kernel
theorem dX4_findLevel_13 : decode cX4_findLevel 13 = .ok (.ifCond .ne 4, 3) := by decide +kernel
theorem dX4_findLevel_16 : decode cX4_findLevel 16 = .ok (.return_, 1) := by decide +kernel
theorem dX4_findLevel_17 : decode cX4_findLevel 17 = .ok (.lconst 0, 1) := by decide +kernel
theorem dX4_findLevel_18 : decode cX4_findLevel 18 = .ok (.lstore_n 1, 1) := by decide +kernel
theorem dX4_findLevel_19 : decode cX4_findLevel 19 = .ok (.ldc2_w 118, 3) := by decide +kernel
theorem dX4_findLevel_22 : decode cX4_findLevel 22 = .ok (.lstore_n 3, 1) := by decide +kernel
theorem dX4_findLevel_23 : decode cX4_findLevel 23 = .ok (.iconst 0, 1) := by decide +kernel
theorem dX4_findLevel_24 : decode cX4_findLevel 24 = .ok (.istore 5, 2) := by decide +kernel
theorem dX4_findLevel_26 : decode cX4_findLevel 26 = .ok (.iload 5, 2) := by decide +kernel
theorem dX4_findLevel_28 : decode cX4_findLevel 28 = .ok (.bipush 28, 2) := by decide +kernel
theorem dX4_findLevel_30 : decode cX4_findLevel 30 = .ok (.if_icmp .ge 44, 3) := by decide +kernel
theorem dX4_findLevel_33 : decode cX4_findLevel 33 = .ok (.lload_n 1, 1) := by decide +kernel
theorem dX4_findLevel_34 : decode cX4_findLevel 34 = .ok (.lload_n 3, 1) := by decide +kernel
theorem dX4_findLevel_35 : decode cX4_findLevel 35 = .ok (.lcmp, 1) := by decide +kernel
theorem dX4_findLevel_36 : decode cX4_findLevel 36 = .ok (.ifCond .ge 38, 3) := by decide +kernel
theorem dX4_findLevel_39 : decode cX4_findLevel 39 = .ok (.lload_n 1, 1) := by decide +kernel
theorem dX4_findLevel_40 : decode cX4_findLevel 40 = .ok (.lload_n 3, 1) := by decide +kernel
theorem dX4_findLevel_41 : decode cX4_findLevel 41 = .ok (.ladd, 1) := by decide +kernel
theorem dX4_findLevel_42 : decode cX4_findLevel 42 = .ok (.ldc2_w 120, 3) := by decide +kernel
theorem dX4_findLevel_45 : decode cX4_findLevel 45 = .ok (.ldiv, 1) := by decide +kernel
theorem dX4_findLevel_46 : decode cX4_findLevel 46 = .ok (.lstore 6, 2) := by decide +kernel
theorem dX4_findLevel_48 : decode cX4_findLevel 48 = .ok (.aload_n 0, 1) := by decide +kernel
theorem dX4_findLevel_49 : decode cX4_findLevel 49 = .ok (.lload 6, 2) := by decide +kernel
theorem dX4_findLevel_51 : decode cX4_findLevel 51 = .ok (.invokevirtual 122, 3) := by decide +kernel
theorem dX4_findLevel_54 : decode cX4_findLevel 54 = .ok (.ifCond .eq 9, 3) := by decide +kernel
theorem dX4_findLevel_57 : decode cX4_findLevel 57 = .ok (.lload 6, 2) := by decide +kernel
theorem dX4_findLevel_59 : decode cX4_findLevel 59 = .ok (.lstore_n 3, 1) := by decide +kernel
theorem dX4_findLevel_60 : decode cX4_findLevel 60 = .ok (.goto 8, 3) := by decide +kernel
theorem dX4_findLevel_63 : decode cX4_findLevel 63 = .ok (.lload 6, 2) := by decide +kernel
theorem dX4_findLevel_65 : decode cX4_findLevel 65 = .ok (.lconst 1, 1) := by decide +kernel
theorem dX4_findLevel_66 : decode cX4_findLevel 66 = .ok (.ladd, 1) := by decide +kernel
theorem dX4_findLevel_67 : decode cX4_findLevel 67 = .ok (.lstore_n 1, 1) := by decide +kernel
theorem dX4_findLevel_68 : decode cX4_findLevel 68 = .ok (.iinc 5 1, 3) := by decide +kernel
theorem dX4_findLevel_71 : decode cX4_findLevel 71 = .ok (.goto (-45), 3) := by decide +kernel
theorem dX4_findLevel_74 : decode cX4_findLevel 74 = .ok (.aload_n 0, 1) := by decide +kernel
theorem dX4_findLevel_75 : decode cX4_findLevel 75 = .ok (.lload_n 1, 1) := by decide +kernel
theorem dX4_findLevel_76 : decode cX4_findLevel 76 = .ok (.putfield 39, 3) := by decide +kernel
theorem dX4_findLevel_79 : decode cX4_findLevel 79 = .ok (.return_, 1) := by decide +kernel
theorem dX4_isRepaidBy_0 : decode cX4_isRepaidBy 0 = .ok (.aload_n 0, 1) := by decide +kernel
theorem dX4_isRepaidBy_1 : decode cX4_isRepaidBy 1 = .ok (.getfield 36, 3) := by decide +kernel
theorem dX4_isRepaidBy_4 : decode cX4_isRepaidBy 4 = .ok (.lstore_n 3, 1) := by decide +kernel
theorem dX4_isRepaidBy_5 : decode cX4_isRepaidBy 5 = .ok (.aload_n 0, 1) := by decide +kernel
theorem dX4_isRepaidBy_6 : decode cX4_isRepaidBy 6 = .ok (.getfield 70, 3) := by decide +kernel
theorem dX4_isRepaidBy_9 : decode cX4_isRepaidBy 9 = .ok (.iconst 1, 1) := by decide +kernel
theorem dX4_isRepaidBy_10 : decode cX4_isRepaidBy 10 = .ok (.iadd, 1) := by decide +kernel
theorem dX4_isRepaidBy_11 : decode cX4_isRepaidBy 11 = .ok (.istore 5, 2) := by decide +kernel
theorem dX4_isRepaidBy_13 : decode cX4_isRepaidBy 13 = .ok (.iload 5, 2) := by decide +kernel
theorem dX4_isRepaidBy_15 : decode cX4_isRepaidBy 15 = .ok (.aload_n 0, 1) := by decide +kernel
theorem dX4_isRepaidBy_16 : decode cX4_isRepaidBy 16 = .ok (.getfield 67, 3) := by decide +kernel
theorem dX4_isRepaidBy_19 : decode cX4_isRepaidBy 19 = .ok (.if_icmp .gt 30, 3) := by decide +kernel
theorem dX4_isRepaidBy_22 : decode cX4_isRepaidBy 22 = .ok (.lload_n 3, 1) := by decide +kernel
theorem dX4_isRepaidBy_23 : decode cX4_isRepaidBy 23 = .ok (.lconst 0, 1) := by decide +kernel
theorem dX4_isRepaidBy_24 : decode cX4_isRepaidBy 24 = .ok (.lcmp, 1) := by decide +kernel
theorem dX4_isRepaidBy_25 : decode cX4_isRepaidBy 25 = .ok (.ifCond .le 24, 3) := by decide +kernel
theorem dX4_isRepaidBy_28 : decode cX4_isRepaidBy 28 = .ok (.lload_n 3, 1) := by decide +kernel
theorem dX4_isRepaidBy_29 : decode cX4_isRepaidBy 29 = .ok (.lload_n 1, 1) := by decide +kernel
theorem dX4_isRepaidBy_30 : decode cX4_isRepaidBy 30 = .ok (.lload_n 3, 1) := by decide +kernel
theorem dX4_isRepaidBy_31 : decode cX4_isRepaidBy 31 = .ok (.aload_n 0, 1) := by decide +kernel
theorem dX4_isRepaidBy_32 : decode cX4_isRepaidBy 32 = .ok (.iload 5, 2) := by decide +kernel
theorem dX4_isRepaidBy_34 : decode cX4_isRepaidBy 34 = .ok (.lload_n 3, 1) := by decide +kernel
theorem dX4_isRepaidBy_35 : decode cX4_isRepaidBy 35 = .ok (.invokevirtual 126, 3) := by decide +kernel
theorem dX4_isRepaidBy_38 : decode cX4_isRepaidBy 38 = .ok (.invokestatic 108, 3) := by decide +kernel
theorem dX4_isRepaidBy_41 : decode cX4_isRepaidBy 41 = .ok (.lsub, 1) := by decide +kernel
theorem dX4_isRepaidBy_42 : decode cX4_isRepaidBy 42 = .ok (.lstore_n 3, 1) := by decide +kernel
theorem dX4_isRepaidBy_43 : decode cX4_isRepaidBy 43 = .ok (.iinc 5 1, 3) := by decide +kernel
theorem dX4_isRepaidBy_46 : decode cX4_isRepaidBy 46 = .ok (.goto (-33), 3) := by decide +kernel
theorem dX4_isRepaidBy_49 : decode cX4_isRepaidBy 49 = .ok (.lload_n 3, 1) := by decide +kernel
theorem dX4_isRepaidBy_50 : decode cX4_isRepaidBy 50 = .ok (.lconst 0, 1) := by decide +kernel
theorem dX4_isRepaidBy_51 : decode cX4_isRepaidBy 51 = .ok (.lcmp, 1) := by decide +kernel
theorem dX4_isRepaidBy_52 : decode cX4_isRepaidBy 52 = .ok (.ifCond .ne 7, 3) := by decide +kernel
theorem dX4_isRepaidBy_55 : decode cX4_isRepaidBy 55 = .ok (.iconst 1, 1) := by decide +kernel
theorem dX4_isRepaidBy_56 : decode cX4_isRepaidBy 56 = .ok (.goto 4, 3) := by decide +kernel
theorem dX4_isRepaidBy_59 : decode cX4_isRepaidBy 59 = .ok (.iconst 0, 1) := by decide +kernel
theorem dX4_isRepaidBy_60 : decode cX4_isRepaidBy 60 = .ok (.ireturn, 1) := by decide +kernel
theorem dX4_endPeriods_0 : decode cX4_endPeriods 0 = .ok (.iconst 0, 1) := by decide +kernel
theorem dX4_endPeriods_1 : decode cX4_endPeriods 1 = .ok (.istore_n 2, 1) := by decide +kernel
theorem dX4_endPeriods_2 : decode cX4_endPeriods 2 = .ok (.aload_n 0, 1) := by decide +kernel
theorem dX4_endPeriods_3 : decode cX4_endPeriods 3 = .ok (.getfield 70, 3) := by decide +kernel
theorem dX4_endPeriods_6 : decode cX4_endPeriods 6 = .ok (.iconst 1, 1) := by decide +kernel
theorem dX4_endPeriods_7 : decode cX4_endPeriods 7 = .ok (.iadd, 1) := by decide +kernel
theorem dX4_endPeriods_8 : decode cX4_endPeriods 8 = .ok (.istore_n 3, 1) := by decide +kernel
theorem dX4_endPeriods_9 : decode cX4_endPeriods 9 = .ok (.iload_n 3, 1) := by decide +kernel
theorem dX4_endPeriods_10 : decode cX4_endPeriods 10 = .ok (.aload_n 0, 1) := by decide +kernel
theorem dX4_endPeriods_11 : decode cX4_endPeriods 11 = .ok (.getfield 67, 3) := by decide +kernel
theorem dX4_endPeriods_14 : decode cX4_endPeriods 14 = .ok (.if_icmp .gt 88, 3) := by decide +kernel
theorem dX4_endPeriods_17 : decode cX4_endPeriods 17 = .ok (.aload_n 0, 1) := by decide +kernel
theorem dX4_endPeriods_18 : decode cX4_endPeriods 18 = .ok (.getfield 9, 3) := by decide +kernel
theorem dX4_endPeriods_21 : decode cX4_endPeriods 21 = .ok (.iload_n 3, 1) := by decide +kernel
theorem dX4_endPeriods_22 : decode cX4_endPeriods 22 = .ok (.iaload, 1) := by decide +kernel
theorem dX4_endPeriods_23 : decode cX4_endPeriods 23 = .ok (.iload_n 1, 1) := by decide +kernel
theorem dX4_endPeriods_24 : decode cX4_endPeriods 24 = .ok (.if_icmp .gt 78, 3) := by decide +kernel
theorem dX4_endPeriods_27 : decode cX4_endPeriods 27 = .ok (.aload_n 0, 1) := by decide +kernel
theorem dX4_endPeriods_28 : decode cX4_endPeriods 28 = .ok (.getfield 22, 3) := by decide +kernel
theorem dX4_endPeriods_31 : decode cX4_endPeriods 31 = .ok (.iload_n 3, 1) := by decide +kernel
theorem dX4_endPeriods_32 : decode cX4_endPeriods 32 = .ok (.aload_n 0, 1) := by decide +kernel
theorem dX4_endPeriods_33 : decode cX4_endPeriods 33 = .ok (.iload_n 3, 1) := by decide +kernel
theorem dX4_endPeriods_34 : decode cX4_endPeriods 34 = .ok (.aload_n 0, 1) := by decide +kernel
theorem dX4_endPeriods_35 : decode cX4_endPeriods 35 = .ok (.getfield 36, 3) := by decide +kernel
theorem dX4_endPeriods_38 : decode cX4_endPeriods 38 = .ok (.invokevirtual 126, 3) := by decide +kernel
theorem dX4_endPeriods_41 : decode cX4_endPeriods 41 = .ok (.lastore, 1) := by decide +kernel
theorem dX4_endPeriods_42 : decode cX4_endPeriods 42 = .ok (.aload_n 0, 1) := by decide +kernel
theorem dX4_endPeriods_43 : decode cX4_endPeriods 43 = .ok (.getfield 25, 3) := by decide +kernel
theorem dX4_endPeriods_46 : decode cX4_endPeriods 46 = .ok (.iload_n 3, 1) := by decide +kernel
theorem dX4_endPeriods_47 : decode cX4_endPeriods 47 = .ok (.aload_n 0, 1) := by decide +kernel
theorem dX4_endPeriods_48 : decode cX4_endPeriods 48 = .ok (.iload_n 3, 1) := by decide +kernel
theorem dX4_endPeriods_49 : decode cX4_endPeriods 49 = .ok (.aload_n 0, 1) := by decide +kernel
theorem dX4_endPeriods_50 : decode cX4_endPeriods 50 = .ok (.getfield 36, 3) := by decide +kernel
theorem dX4_endPeriods_53 : decode cX4_endPeriods 53 = .ok (.aload_n 0, 1) := by decide +kernel
theorem dX4_endPeriods_54 : decode cX4_endPeriods 54 = .ok (.getfield 22, 3) := by decide +kernel
theorem dX4_endPeriods_57 : decode cX4_endPeriods 57 = .ok (.iload_n 3, 1) := by decide +kernel
theorem dX4_endPeriods_58 : decode cX4_endPeriods 58 = .ok (.laload, 1) := by decide +kernel
theorem dX4_endPeriods_59 : decode cX4_endPeriods 59 = .ok (.invokevirtual 130, 3) := by decide +kernel
theorem dX4_endPeriods_62 : decode cX4_endPeriods 62 = .ok (.lastore, 1) := by decide +kernel
theorem dX4_endPeriods_63 : decode cX4_endPeriods 63 = .ok (.aload_n 0, 1) := by decide +kernel
theorem dX4_endPeriods_64 : decode cX4_endPeriods 64 = .ok (.dup, 1) := by decide +kernel
theorem dX4_endPeriods_65 : decode cX4_endPeriods 65 = .ok (.getfield 36, 3) := by decide +kernel
theorem dX4_endPeriods_68 : decode cX4_endPeriods 68 = .ok (.aload_n 0, 1) := by decide +kernel
theorem dX4_endPeriods_69 : decode cX4_endPeriods 69 = .ok (.getfield 25, 3) := by decide +kernel
theorem dX4_endPeriods_72 : decode cX4_endPeriods 72 = .ok (.iload_n 3, 1) := by decide +kernel
theorem dX4_endPeriods_73 : decode cX4_endPeriods 73 = .ok (.laload, 1) := by decide +kernel
theorem dX4_endPeriods_74 : decode cX4_endPeriods 74 = .ok (.lsub, 1) := by decide +kernel
theorem dX4_endPeriods_75 : decode cX4_endPeriods 75 = .ok (.putfield 36, 3) := by decide +kernel
theorem dX4_endPeriods_78 : decode cX4_endPeriods 78 = .ok (.aload_n 0, 1) := by decide +kernel
theorem dX4_endPeriods_79 : decode cX4_endPeriods 79 = .ok (.iload_n 3, 1) := by decide +kernel
theorem dX4_endPeriods_80 : decode cX4_endPeriods 80 = .ok (.putfield 70, 3) := by decide +kernel
theorem dX4_endPeriods_83 : decode cX4_endPeriods 83 = .ok (.aload_n 0, 1) := by decide +kernel
theorem dX4_endPeriods_84 : decode cX4_endPeriods 84 = .ok (.iload_n 3, 1) := by decide +kernel
theorem dX4_endPeriods_85 : decode cX4_endPeriods 85 = .ok (.invokevirtual 134, 3) := by decide +kernel
theorem dX4_endPeriods_88 : decode cX4_endPeriods 88 = .ok (.lconst 0, 1) := by decide +kernel
theorem dX4_endPeriods_89 : decode cX4_endPeriods 89 = .ok (.lcmp, 1) := by decide +kernel
theorem dX4_endPeriods_90 : decode cX4_endPeriods 90 = .ok (.ifCond .le 6, 3) := by decide +kernel
theorem dX4_endPeriods_93 : decode cX4_endPeriods 93 = .ok (.iinc 2 1, 3) := by decide +kernel
theorem dX4_endPeriods_96 : decode cX4_endPeriods 96 = .ok (.iinc 3 1, 3) := by decide +kernel
theorem dX4_endPeriods_99 : decode cX4_endPeriods 99 = .ok (.goto (-90), 3) := by decide +kernel
theorem dX4_endPeriods_102 : decode cX4_endPeriods 102 = .ok (.iload_n 2, 1) := by decide +kernel
theorem dX4_endPeriods_103 : decode cX4_endPeriods 103 = .ok (.ireturn, 1) := by decide +kernel
theorem dX4_chargeLate_0 : decode cX4_chargeLate 0 = .ok (.iconst 1, 1) := by decide +kernel
theorem dX4_chargeLate_1 : decode cX4_chargeLate 1 = .ok (.istore 5, 2) := by decide +kernel
theorem dX4_chargeLate_3 : decode cX4_chargeLate 3 = .ok (.iload 5, 2) := by decide +kernel
theorem dX4_chargeLate_5 : decode cX4_chargeLate 5 = .ok (.aload_n 0, 1) := by decide +kernel
theorem dX4_chargeLate_6 : decode cX4_chargeLate 6 = .ok (.getfield 70, 3) := by decide +kernel
theorem dX4_chargeLate_9 : decode cX4_chargeLate 9 = .ok (.if_icmp .gt 71, 3) := by decide +kernel
theorem dX4_chargeLate_12 : decode cX4_chargeLate 12 = .ok (.aload_n 0, 1) := by decide +kernel
theorem dX4_chargeLate_13 : decode cX4_chargeLate 13 = .ok (.getfield 9, 3) := by decide +kernel
theorem dX4_chargeLate_16 : decode cX4_chargeLate 16 = .ok (.iload 5, 2) := by decide +kernel
theorem dX4_chargeLate_18 : decode cX4_chargeLate 18 = .ok (.iaload, 1) := by decide +kernel
theorem dX4_chargeLate_19 : decode cX4_chargeLate 19 = .ok (.iload_n 3, 1) := by decide +kernel
theorem dX4_chargeLate_20 : decode cX4_chargeLate 20 = .ok (.iadd, 1) := by decide +kernel
theorem dX4_chargeLate_21 : decode cX4_chargeLate 21 = .ok (.istore 6, 2) := by decide +kernel
theorem dX4_chargeLate_23 : decode cX4_chargeLate 23 = .ok (.aload_n 0, 1) := by decide +kernel
theorem dX4_chargeLate_24 : decode cX4_chargeLate 24 = .ok (.iload 5, 2) := by decide +kernel
theorem dX4_chargeLate_26 : decode cX4_chargeLate 26 = .ok (.invokevirtual 134, 3) := by decide +kernel
theorem dX4_chargeLate_29 : decode cX4_chargeLate 29 = .ok (.lconst 0, 1) := by decide +kernel
theorem dX4_chargeLate_30 : decode cX4_chargeLate 30 = .ok (.lcmp, 1) := by decide +kernel
theorem dX4_chargeLate_31 : decode cX4_chargeLate 31 = .ok (.ifCond .le 43, 3) := by decide +kernel
theorem dX4_chargeLate_34 : decode cX4_chargeLate 34 = .ok (.aload_n 0, 1) := by decide +kernel
theorem dX4_chargeLate_35 : decode cX4_chargeLate 35 = .ok (.getfield 28, 3) := by decide +kernel
theorem dX4_chargeLate_38 : decode cX4_chargeLate 38 = .ok (.iload 5, 2) := by decide +kernel
theorem dX4_chargeLate_40 : decode cX4_chargeLate 40 = .ok (.baload, 1) := by decide +kernel
theorem dX4_chargeLate_41 : decode cX4_chargeLate 41 = .ok (.ifCond .ne 33, 3) := by decide +kernel
theorem dX4_chargeLate_44 : decode cX4_chargeLate 44 = .ok (.iload 6, 2) := by decide +kernel
theorem dX4_chargeLate_46 : decode cX4_chargeLate 46 = .ok (.iload_n 1, 1) := by decide +kernel
theorem dX4_chargeLate_47 : decode cX4_chargeLate 47 = .ok (.if_icmp .lt 27, 3) := by decide +kernel
theorem dX4_chargeLate_50 : decode cX4_chargeLate 50 = .ok (.iload 6, 2) := by decide +kernel
theorem dX4_chargeLate_52 : decode cX4_chargeLate 52 = .ok (.iload_n 2, 1) := by decide +kernel
theorem dX4_chargeLate_53 : decode cX4_chargeLate 53 = .ok (.if_icmp .gt 21, 3) := by decide +kernel
theorem dX4_chargeLate_56 : decode cX4_chargeLate 56 = .ok (.aload_n 0, 1) := by decide +kernel
theorem dX4_chargeLate_57 : decode cX4_chargeLate 57 = .ok (.getfield 19, 3) := by decide +kernel
theorem dX4_chargeLate_60 : decode cX4_chargeLate 60 = .ok (.iload 5, 2) := by decide +kernel
theorem dX4_chargeLate_62 : decode cX4_chargeLate 62 = .ok (.iload 4, 2) := by decide +kernel
theorem dX4_chargeLate_64 : decode cX4_chargeLate 64 = .ok (.i2l, 1) := by decide +kernel
theorem dX4_chargeLate_65 : decode cX4_chargeLate 65 = .ok (.lastore, 1) := by decide +kernel
theorem dX4_chargeLate_66 : decode cX4_chargeLate 66 = .ok (.aload_n 0, 1) := by decide +kernel
theorem dX4_chargeLate_67 : decode cX4_chargeLate 67 = .ok (.getfield 28, 3) := by decide +kernel
theorem dX4_chargeLate_70 : decode cX4_chargeLate 70 = .ok (.iload 5, 2) := by decide +kernel
theorem dX4_chargeLate_72 : decode cX4_chargeLate 72 = .ok (.iconst 1, 1) := by decide +kernel
theorem dX4_chargeLate_73 : decode cX4_chargeLate 73 = .ok (.bastore, 1) := by decide +kernel
theorem dX4_chargeLate_74 : decode cX4_chargeLate 74 = .ok (.iinc 5 1, 3) := by decide +kernel
theorem dX4_chargeLate_77 : decode cX4_chargeLate 77 = .ok (.goto (-74), 3) := by decide +kernel
theorem dX4_chargeLate_80 : decode cX4_chargeLate 80 = .ok (.return_, 1) := by decide +kernel
theorem dX4_receive_0 : decode cX4_receive 0 = .ok (.lload_n 1, 1) := by decide +kernel
theorem dX4_receive_1 : decode cX4_receive 1 = .ok (.lstore_n 3, 1) := by decide +kernel
theorem dX4_receive_2 : decode cX4_receive 2 = .ok (.iconst 1, 1) := by decide +kernel
theorem dX4_receive_3 : decode cX4_receive 3 = .ok (.istore 5, 2) := by decide +kernel
theorem dX4_receive_5 : decode cX4_receive 5 = .ok (.iload 5, 2) := by decide +kernel
theorem dX4_receive_7 : decode cX4_receive 7 = .ok (.aload_n 0, 1) := by decide +kernel
theorem dX4_receive_8 : decode cX4_receive 8 = .ok (.getfield 70, 3) := by decide +kernel
theorem dX4_receive_11 : decode cX4_receive 11 = .ok (.if_icmp .gt 23, 3) := by decide +kernel
theorem dX4_receive_14 : decode cX4_receive 14 = .ok (.lload_n 3, 1) := by decide +kernel
theorem dX4_receive_15 : decode cX4_receive 15 = .ok (.lconst 0, 1) := by decide +kernel
theorem dX4_receive_16 : decode cX4_receive 16 = .ok (.lcmp, 1) := by decide +kernel
theorem dX4_receive_17 : decode cX4_receive 17 = .ok (.ifCond .le 17, 3) := by decide +kernel
theorem dX4_receive_20 : decode cX4_receive 20 = .ok (.aload_n 0, 1) := by decide +kernel
theorem dX4_receive_21 : decode cX4_receive 21 = .ok (.iload 5, 2) := by decide +kernel
theorem dX4_receive_23 : decode cX4_receive 23 = .ok (.lload_n 3, 1) := by decide +kernel
theorem dX4_receive_24 : decode cX4_receive 24 = .ok (.invokevirtual 138, 3) := by decide +kernel
theorem dX4_receive_27 : decode cX4_receive 27 = .ok (.lstore_n 3, 1) := by decide +kernel
theorem dX4_receive_28 : decode cX4_receive 28 = .ok (.iinc 5 1, 3) := by decide +kernel
theorem dX4_receive_31 : decode cX4_receive 31 = .ok (.goto (-26), 3) := by decide +kernel
theorem dX4_receive_34 : decode cX4_receive 34 = .ok (.lload_n 3, 1) := by decide +kernel
theorem dX4_receive_35 : decode cX4_receive 35 = .ok (.aload_n 0, 1) := by decide +kernel
theorem dX4_receive_36 : decode cX4_receive 36 = .ok (.getfield 36, 3) := by decide +kernel
theorem dX4_receive_39 : decode cX4_receive 39 = .ok (.invokestatic 116, 3) := by decide +kernel
theorem dX4_receive_42 : decode cX4_receive 42 = .ok (.lstore 5, 2) := by decide +kernel
theorem dX4_receive_44 : decode cX4_receive 44 = .ok (.aload_n 0, 1) := by decide +kernel
theorem dX4_receive_45 : decode cX4_receive 45 = .ok (.dup, 1) := by decide +kernel
theorem dX4_receive_46 : decode cX4_receive 46 = .ok (.getfield 36, 3) := by decide +kernel
theorem dX4_receive_49 : decode cX4_receive 49 = .ok (.lload 5, 2) := by decide +kernel
theorem dX4_receive_51 : decode cX4_receive 51 = .ok (.lsub, 1) := by decide +kernel
theorem dX4_receive_52 : decode cX4_receive 52 = .ok (.putfield 36, 3) := by decide +kernel
theorem dX4_receive_55 : decode cX4_receive 55 = .ok (.aload_n 0, 1) := by decide +kernel
theorem dX4_receive_56 : decode cX4_receive 56 = .ok (.dup, 1) := by decide +kernel
theorem dX4_receive_57 : decode cX4_receive 57 = .ok (.getfield 48, 3) := by decide +kernel
theorem dX4_receive_60 : decode cX4_receive 60 = .ok (.lload 5, 2) := by decide +kernel
theorem dX4_receive_62 : decode cX4_receive 62 = .ok (.ladd, 1) := by decide +kernel
theorem dX4_receive_63 : decode cX4_receive 63 = .ok (.putfield 48, 3) := by decide +kernel
theorem dX4_receive_66 : decode cX4_receive 66 = .ok (.lload 5, 2) := by decide +kernel
theorem dX4_receive_68 : decode cX4_receive 68 = .ok (.lconst 0, 1) := by decide +kernel
theorem dX4_receive_69 : decode cX4_receive 69 = .ok (.lcmp, 1) := by decide +kernel
theorem dX4_receive_70 : decode cX4_receive 70 = .ok (.ifCond .le 15, 3) := by decide +kernel
theorem dX4_receive_73 : decode cX4_receive 73 = .ok (.aload_n 0, 1) := by decide +kernel
theorem dX4_receive_74 : decode cX4_receive 74 = .ok (.getfield 64, 3) := by decide +kernel
theorem dX4_receive_77 : decode cX4_receive 77 = .ok (.iconst 1, 1) := by decide +kernel
theorem dX4_receive_78 : decode cX4_receive 78 = .ok (.if_icmp .ne 7, 3) := by decide +kernel
theorem dX4_receive_81 : decode cX4_receive 81 = .ok (.aload_n 0, 1) := by decide +kernel
theorem dX4_receive_82 : decode cX4_receive 82 = .ok (.invokevirtual 141, 3) := by decide +kernel
theorem dX4_receive_85 : decode cX4_receive 85 = .ok (.lload_n 3, 1) := by decide +kernel
theorem dX4_receive_86 : decode cX4_receive 86 = .ok (.lload 5, 2) := by decide +kernel
theorem dX4_receive_88 : decode cX4_receive 88 = .ok (.lsub, 1) := by decide +kernel
theorem dX4_receive_89 : decode cX4_receive 89 = .ok (.lreturn, 1) := by decide +kernel
theorem dX4_payBill_0 : decode cX4_payBill 0 = .ok (.lload_n 2, 1) := by decide +kernel
theorem dX4_payBill_1 : decode cX4_payBill 1 = .ok (.aload_n 0, 1) := by decide +kernel
theorem dX4_payBill_2 : decode cX4_payBill 2 = .ok (.getfield 19, 3) := by decide +kernel
theorem dX4_payBill_5 : decode cX4_payBill 5 = .ok (.iload_n 1, 1) := by decide +kernel
theorem dX4_payBill_6 : decode cX4_payBill 6 = .ok (.laload, 1) := by decide +kernel
theorem dX4_payBill_7 : decode cX4_payBill 7 = .ok (.invokestatic 116, 3) := by decide +kernel
theorem dX4_payBill_10 : decode cX4_payBill 10 = .ok (.lstore 4, 2) := by decide +kernel
theorem dX4_payBill_12 : decode cX4_payBill 12 = .ok (.lload_n 2, 1) := by decide +kernel
theorem dX4_payBill_13 : decode cX4_payBill 13 = .ok (.lload 4, 2) := by decide +kernel
theorem dX4_payBill_15 : decode cX4_payBill 15 = .ok (.lsub, 1) := by decide +kernel
theorem dX4_payBill_16 : decode cX4_payBill 16 = .ok (.aload_n 0, 1) := by decide +kernel
theorem dX4_payBill_17 : decode cX4_payBill 17 = .ok (.getfield 22, 3) := by decide +kernel
theorem dX4_payBill_20 : decode cX4_payBill 20 = .ok (.iload_n 1, 1) := by decide +kernel
theorem dX4_payBill_21 : decode cX4_payBill 21 = .ok (.laload, 1) := by decide +kernel
theorem dX4_payBill_22 : decode cX4_payBill 22 = .ok (.invokestatic 116, 3) := by decide +kernel
theorem dX4_payBill_25 : decode cX4_payBill 25 = .ok (.lstore 6, 2) := by decide +kernel
theorem dX4_payBill_27 : decode cX4_payBill 27 = .ok (.lload_n 2, 1) := by decide +kernel
theorem dX4_payBill_28 : decode cX4_payBill 28 = .ok (.lload 4, 2) := by decide +kernel
theorem dX4_payBill_30 : decode cX4_payBill 30 = .ok (.lsub, 1) := by decide +kernel
theorem dX4_payBill_31 : decode cX4_payBill 31 = .ok (.lload 6, 2) := by decide +kernel
theorem dX4_payBill_33 : decode cX4_payBill 33 = .ok (.lsub, 1) := by decide +kernel
theorem dX4_payBill_34 : decode cX4_payBill 34 = .ok (.aload_n 0, 1) := by decide +kernel
theorem dX4_payBill_35 : decode cX4_payBill 35 = .ok (.getfield 25, 3) := by decide +kernel
theorem dX4_payBill_38 : decode cX4_payBill 38 = .ok (.iload_n 1, 1) := by decide +kernel
theorem dX4_payBill_39 : decode cX4_payBill 39 = .ok (.laload, 1) := by decide +kernel
theorem dX4_payBill_40 : decode cX4_payBill 40 = .ok (.invokestatic 116, 3) := by decide +kernel
theorem dX4_payBill_43 : decode cX4_payBill 43 = .ok (.lstore 8, 2) := by decide +kernel
theorem dX4_payBill_45 : decode cX4_payBill 45 = .ok (.aload_n 0, 1) := by decide +kernel
theorem dX4_payBill_46 : decode cX4_payBill 46 = .ok (.getfield 19, 3) := by decide +kernel
theorem dX4_payBill_49 : decode cX4_payBill 49 = .ok (.iload_n 1, 1) := by decide +kernel
theorem dX4_payBill_50 : decode cX4_payBill 50 = .ok (.dup2, 1) := by decide +kernel
theorem dX4_payBill_51 : decode cX4_payBill 51 = .ok (.laload, 1) := by decide +kernel
theorem dX4_payBill_52 : decode cX4_payBill 52 = .ok (.lload 4, 2) := by decide +kernel
theorem dX4_payBill_54 : decode cX4_payBill 54 = .ok (.lsub, 1) := by decide +kernel
theorem dX4_payBill_55 : decode cX4_payBill 55 = .ok (.lastore, 1) := by decide +kernel
theorem dX4_payBill_56 : decode cX4_payBill 56 = .ok (.aload_n 0, 1) := by decide +kernel
theorem dX4_payBill_57 : decode cX4_payBill 57 = .ok (.getfield 22, 3) := by decide +kernel
theorem dX4_payBill_60 : decode cX4_payBill 60 = .ok (.iload_n 1, 1) := by decide +kernel
theorem dX4_payBill_61 : decode cX4_payBill 61 = .ok (.dup2, 1) := by decide +kernel
theorem dX4_payBill_62 : decode cX4_payBill 62 = .ok (.laload, 1) := by decide +kernel
theorem dX4_payBill_63 : decode cX4_payBill 63 = .ok (.lload 6, 2) := by decide +kernel
theorem dX4_payBill_65 : decode cX4_payBill 65 = .ok (.lsub, 1) := by decide +kernel
theorem dX4_payBill_66 : decode cX4_payBill 66 = .ok (.lastore, 1) := by decide +kernel
theorem dX4_payBill_67 : decode cX4_payBill 67 = .ok (.aload_n 0, 1) := by decide +kernel
theorem dX4_payBill_68 : decode cX4_payBill 68 = .ok (.getfield 25, 3) := by decide +kernel
theorem dX4_payBill_71 : decode cX4_payBill 71 = .ok (.iload_n 1, 1) := by decide +kernel
theorem dX4_payBill_72 : decode cX4_payBill 72 = .ok (.dup2, 1) := by decide +kernel
theorem dX4_payBill_73 : decode cX4_payBill 73 = .ok (.laload, 1) := by decide +kernel
theorem dX4_payBill_74 : decode cX4_payBill 74 = .ok (.lload 8, 2) := by decide +kernel
theorem dX4_payBill_76 : decode cX4_payBill 76 = .ok (.lsub, 1) := by decide +kernel
theorem dX4_payBill_77 : decode cX4_payBill 77 = .ok (.lastore, 1) := by decide +kernel
theorem dX4_payBill_78 : decode cX4_payBill 78 = .ok (.aload_n 0, 1) := by decide +kernel
theorem dX4_payBill_79 : decode cX4_payBill 79 = .ok (.dup, 1) := by decide +kernel
theorem dX4_payBill_80 : decode cX4_payBill 80 = .ok (.getfield 42, 3) := by decide +kernel
theorem dX4_payBill_83 : decode cX4_payBill 83 = .ok (.lload 4, 2) := by decide +kernel
theorem dX4_payBill_85 : decode cX4_payBill 85 = .ok (.ladd, 1) := by decide +kernel
theorem dX4_payBill_86 : decode cX4_payBill 86 = .ok (.putfield 42, 3) := by decide +kernel
theorem dX4_payBill_89 : decode cX4_payBill 89 = .ok (.aload_n 0, 1) := by decide +kernel
theorem dX4_payBill_90 : decode cX4_payBill 90 = .ok (.dup, 1) := by decide +kernel
theorem dX4_payBill_91 : decode cX4_payBill 91 = .ok (.getfield 45, 3) := by decide +kernel
theorem dX4_payBill_94 : decode cX4_payBill 94 = .ok (.lload 6, 2) := by decide +kernel
theorem dX4_payBill_96 : decode cX4_payBill 96 = .ok (.ladd, 1) := by decide +kernel
theorem dX4_payBill_97 : decode cX4_payBill 97 = .ok (.putfield 45, 3) := by decide +kernel
theorem dX4_payBill_100 : decode cX4_payBill 100 = .ok (.aload_n 0, 1) := by decide +kernel
theorem dX4_payBill_101 : decode cX4_payBill 101 = .ok (.dup, 1) := by decide +kernel
theorem dX4_payBill_102 : decode cX4_payBill 102 = .ok (.getfield 48, 3) := by decide +kernel
theorem dX4_payBill_105 : decode cX4_payBill 105 = .ok (.lload 8, 2) := by decide +kernel
theorem dX4_payBill_107 : decode cX4_payBill 107 = .ok (.ladd, 1) := by decide +kernel
theorem dX4_payBill_108 : decode cX4_payBill 108 = .ok (.putfield 48, 3) := by decide +kernel
theorem dX4_payBill_111 : decode cX4_payBill 111 = .ok (.lload_n 2, 1) := by decide +kernel
theorem dX4_payBill_112 : decode cX4_payBill 112 = .ok (.lload 4, 2) := by decide +kernel
theorem dX4_payBill_114 : decode cX4_payBill 114 = .ok (.lsub, 1) := by decide +kernel
theorem dX4_payBill_115 : decode cX4_payBill 115 = .ok (.lload 6, 2) := by decide +kernel
theorem dX4_payBill_117 : decode cX4_payBill 117 = .ok (.lsub, 1) := by decide +kernel
theorem dX4_payBill_118 : decode cX4_payBill 118 = .ok (.lload 8, 2) := by decide +kernel
theorem dX4_payBill_120 : decode cX4_payBill 120 = .ok (.lsub, 1) := by decide +kernel
theorem dX4_payBill_121 : decode cX4_payBill 121 = .ok (.lreturn, 1) := by decide +kernel
theorem dX4_giveUp_0 : decode cX4_giveUp 0 = .ok (.aload_n 0, 1) := by decide +kernel
theorem dX4_giveUp_1 : decode cX4_giveUp 1 = .ok (.getfield 36, 3) := by decide +kernel
theorem dX4_giveUp_4 : decode cX4_giveUp 4 = .ok (.lstore_n 1, 1) := by decide +kernel
theorem dX4_giveUp_5 : decode cX4_giveUp 5 = .ok (.iconst 1, 1) := by decide +kernel
theorem dX4_giveUp_6 : decode cX4_giveUp 6 = .ok (.istore_n 3, 1) := by decide +kernel
theorem dX4_giveUp_7 : decode cX4_giveUp 7 = .ok (.iload_n 3, 1) := by decide +kernel
theorem dX4_giveUp_8 : decode cX4_giveUp 8 = .ok (.aload_n 0, 1) := by decide +kernel
theorem dX4_giveUp_9 : decode cX4_giveUp 9 = .ok (.getfield 70, 3) := by decide +kernel
theorem dX4_giveUp_12 : decode cX4_giveUp 12 = .ok (.if_icmp .gt 18, 3) := by decide +kernel
theorem dX4_giveUp_15 : decode cX4_giveUp 15 = .ok (.lload_n 1, 1) := by decide +kernel
theorem dX4_giveUp_16 : decode cX4_giveUp 16 = .ok (.aload_n 0, 1) := by decide +kernel
theorem dX4_giveUp_17 : decode cX4_giveUp 17 = .ok (.getfield 25, 3) := by decide +kernel
theorem dX4_giveUp_20 : decode cX4_giveUp 20 = .ok (.iload_n 3, 1) := by decide +kernel
theorem dX4_giveUp_21 : decode cX4_giveUp 21 = .ok (.laload, 1) := by decide +kernel
theorem dX4_giveUp_22 : decode cX4_giveUp 22 = .ok (.ladd, 1) := by decide +kernel
theorem dX4_giveUp_23 : decode cX4_giveUp 23 = .ok (.lstore_n 1, 1) := by decide +kernel
theorem dX4_giveUp_24 : decode cX4_giveUp 24 = .ok (.iinc 3 1, 3) := by decide +kernel
theorem dX4_giveUp_27 : decode cX4_giveUp 27 = .ok (.goto (-20), 3) := by decide +kernel
theorem dX4_giveUp_30 : decode cX4_giveUp 30 = .ok (.aload_n 0, 1) := by decide +kernel
theorem dX4_giveUp_31 : decode cX4_giveUp 31 = .ok (.lconst 0, 1) := by decide +kernel
theorem dX4_giveUp_32 : decode cX4_giveUp 32 = .ok (.putfield 36, 3) := by decide +kernel
theorem dX4_giveUp_35 : decode cX4_giveUp 35 = .ok (.aload_n 0, 1) := by decide +kernel
theorem dX4_giveUp_36 : decode cX4_giveUp 36 = .ok (.invokevirtual 79, 3) := by decide +kernel
theorem dX4_giveUp_39 : decode cX4_giveUp 39 = .ok (.aload_n 0, 1) := by decide +kernel
theorem dX4_giveUp_40 : decode cX4_giveUp 40 = .ok (.dup, 1) := by decide +kernel
theorem dX4_giveUp_41 : decode cX4_giveUp 41 = .ok (.getfield 51, 3) := by decide +kernel
theorem dX4_giveUp_44 : decode cX4_giveUp 44 = .ok (.lload_n 1, 1) := by decide +kernel
theorem dX4_giveUp_45 : decode cX4_giveUp 45 = .ok (.ladd, 1) := by decide +kernel
theorem dX4_giveUp_46 : decode cX4_giveUp 46 = .ok (.putfield 51, 3) := by decide +kernel
theorem dX4_giveUp_49 : decode cX4_giveUp 49 = .ok (.lload_n 1, 1) := by decide +kernel
theorem dX4_giveUp_50 : decode cX4_giveUp 50 = .ok (.lreturn, 1) := by decide +kernel
theorem dX4_asks_0 : decode cX4_asks 0 = .ok (.aload_n 0, 1) := by decide +kernel
theorem dX4_asks_1 : decode cX4_asks 1 = .ok (.getfield 19, 3) := by decide +kernel
theorem dX4_asks_4 : decode cX4_asks 4 = .ok (.iload_n 1, 1) := by decide +kernel
theorem dX4_asks_5 : decode cX4_asks 5 = .ok (.laload, 1) := by decide +kernel
theorem dX4_asks_6 : decode cX4_asks 6 = .ok (.aload_n 0, 1) := by decide +kernel
theorem dX4_asks_7 : decode cX4_asks 7 = .ok (.getfield 22, 3) := by decide +kernel
theorem dX4_asks_10 : decode cX4_asks 10 = .ok (.iload_n 1, 1) := by decide +kernel
theorem dX4_asks_11 : decode cX4_asks 11 = .ok (.laload, 1) := by decide +kernel
theorem dX4_asks_12 : decode cX4_asks 12 = .ok (.ladd, 1) := by decide +kernel
theorem dX4_asks_13 : decode cX4_asks 13 = .ok (.aload_n 0, 1) := by decide +kernel
theorem dX4_asks_14 : decode cX4_asks 14 = .ok (.getfield 25, 3) := by decide +kernel
theorem dX4_asks_17 : decode cX4_asks 17 = .ok (.iload_n 1, 1) := by decide +kernel
theorem dX4_asks_18 : decode cX4_asks 18 = .ok (.laload, 1) := by decide +kernel
theorem dX4_asks_19 : decode cX4_asks 19 = .ok (.ladd, 1) := by decide +kernel
theorem dX4_asks_20 : decode cX4_asks 20 = .ok (.lreturn, 1) := by decide +kernel
theorem dX4_owed_0 : decode cX4_owed 0 = .ok (.lconst 0, 1) := by decide +kernel
theorem dX4_owed_1 : decode cX4_owed 1 = .ok (.lstore_n 1, 1) := by decide +kernel
theorem dX4_owed_2 : decode cX4_owed 2 = .ok (.iconst 1, 1) := by decide +kernel
theorem dX4_owed_3 : decode cX4_owed 3 = .ok (.istore_n 3, 1) := by decide +kernel
theorem dX4_owed_4 : decode cX4_owed 4 = .ok (.iload_n 3, 1) := by decide +kernel
theorem dX4_owed_5 : decode cX4_owed 5 = .ok (.aload_n 0, 1) := by decide +kernel
theorem dX4_owed_6 : decode cX4_owed 6 = .ok (.getfield 70, 3) := by decide +kernel
theorem dX4_owed_9 : decode cX4_owed 9 = .ok (.if_icmp .gt 17, 3) := by decide +kernel
theorem dX4_owed_12 : decode cX4_owed 12 = .ok (.lload_n 1, 1) := by decide +kernel
theorem dX4_owed_13 : decode cX4_owed 13 = .ok (.aload_n 0, 1) := by decide +kernel
theorem dX4_owed_14 : decode cX4_owed 14 = .ok (.iload_n 3, 1) := by decide +kernel
theorem dX4_owed_15 : decode cX4_owed 15 = .ok (.invokevirtual 134, 3) := by decide +kernel
theorem dX4_owed_18 : decode cX4_owed 18 = .ok (.ladd, 1) := by decide +kernel
theorem dX4_owed_19 : decode cX4_owed 19 = .ok (.lstore_n 1, 1) := by decide +kernel
theorem dX4_owed_20 : decode cX4_owed 20 = .ok (.iinc 3 1, 3) := by decide +kernel
theorem dX4_owed_23 : decode cX4_owed 23 = .ok (.goto (-19), 3) := by decide +kernel
theorem dX4_owed_26 : decode cX4_owed 26 = .ok (.lload_n 1, 1) := by decide +kernel
theorem dX4_owed_27 : decode cX4_owed 27 = .ok (.lreturn, 1) := by decide +kernel
theorem dX4_isSettled_0 : decode cX4_isSettled 0 = .ok (.aload_n 0, 1) := by decide +kernel
theorem dX4_isSettled_1 : decode cX4_isSettled 1 = .ok (.getfield 36, 3) := by decide +kernel
theorem dX4_isSettled_4 : decode cX4_isSettled 4 = .ok (.lconst 0, 1) := by decide +kernel
theorem dX4_isSettled_5 : decode cX4_isSettled 5 = .ok (.lcmp, 1) := by decide +kernel
theorem dX4_isSettled_6 : decode cX4_isSettled 6 = .ok (.ifCond .ne 16, 3) := by decide +kernel
theorem dX4_isSettled_9 : decode cX4_isSettled 9 = .ok (.aload_n 0, 1) := by decide +kernel
theorem dX4_isSettled_10 : decode cX4_isSettled 10 = .ok (.invokevirtual 144, 3) := by decide +kernel
theorem dX4_isSettled_13 : decode cX4_isSettled 13 = .ok (.lconst 0, 1) := by decide +kernel
theorem dX4_isSettled_14 : decode cX4_isSettled 14 = .ok (.lcmp, 1) := by decide +kernel
theorem dX4_isSettled_15 : decode cX4_isSettled 15 = .ok (.ifCond .ne 7, 3) := by decide +kernel
theorem dX4_isSettled_18 : decode cX4_isSettled 18 = .ok (.iconst 1, 1) := by decide +kernel
theorem dX4_isSettled_19 : decode cX4_isSettled 19 = .ok (.goto 4, 3) := by decide +kernel
theorem dX4_isSettled_22 : decode cX4_isSettled 22 = .ok (.iconst 0, 1) := by decide +kernel
theorem dX4_isSettled_23 : decode cX4_isSettled 23 = .ok (.ireturn, 1) := by decide +kernel
theorem dX4_billsInArrears_0 : decode cX4_billsInArrears 0 = .ok (.iconst 0, 1) := by decide +kernel
theorem dX4_billsInArrears_1 : decode cX4_billsInArrears 1 = .ok (.istore_n 1, 1) := by decide +kernel
theorem dX4_billsInArrears_2 : decode cX4_billsInArrears 2 = .ok (.iconst 1, 1) := by decide +kernel
theorem dX4_billsInArrears_3 : decode cX4_billsInArrears 3 = .ok (.istore_n 2, 1) := by decide +kernel
theorem dX4_billsInArrears_4 : decode cX4_billsInArrears 4 = .ok (.iload_n 2, 1) := by decide +kernel
theorem dX4_billsInArrears_5 : decode cX4_billsInArrears 5 = .ok (.aload_n 0, 1) := by decide +kernel
theorem dX4_billsInArrears_6 : decode cX4_billsInArrears 6 = .ok (.getfield 70, 3) := by decide +kernel
theorem dX4_billsInArrears_9 : decode cX4_billsInArrears 9 = .ok (.if_icmp .gt 22, 3) := by decide +kernel
theorem dX4_billsInArrears_12 : decode cX4_billsInArrears 12 = .ok (.aload_n 0, 1) := by decide +kernel
theorem dX4_billsInArrears_13 : decode cX4_billsInArrears 13 = .ok (.iload_n 2, 1) := by decide +kernel
theorem dX4_billsInArrears_14 : decode cX4_billsInArrears 14 = .ok (.invokevirtual 134, 3) := by decide +kernel
theorem dX4_billsInArrears_17 : decode cX4_billsInArrears 17 = .ok (.lconst 0, 1) := by decide +kernel
theorem dX4_billsInArrears_18 : decode cX4_billsInArrears 18 = .ok (.lcmp, 1) := by decide +kernel
theorem dX4_billsInArrears_19 : decode cX4_billsInArrears 19 = .ok (.ifCond .le 6, 3) := by decide +kernel
theorem dX4_billsInArrears_22 : decode cX4_billsInArrears 22 = .ok (.iinc 1 1, 3) := by decide +kernel
theorem dX4_billsInArrears_25 : decode cX4_billsInArrears 25 = .ok (.iinc 2 1, 3) := by decide +kernel
theorem dX4_billsInArrears_28 : decode cX4_billsInArrears 28 = .ok (.goto (-24), 3) := by decide +kernel
theorem dX4_billsInArrears_31 : decode cX4_billsInArrears 31 = .ok (.iload_n 1, 1) := by decide +kernel
theorem dX4_billsInArrears_32 : decode cX4_billsInArrears 32 = .ok (.ireturn, 1) := by decide +kernel
theorem dX4_periodOfBill_0 : decode cX4_periodOfBill 0 = .ok (.iconst 0, 1) := by decide +kernel
theorem dX4_periodOfBill_1 : decode cX4_periodOfBill 1 = .ok (.istore_n 2, 1) := by decide +kernel
theorem dX4_periodOfBill_2 : decode cX4_periodOfBill 2 = .ok (.iconst 1, 1) := by decide +kernel
theorem dX4_periodOfBill_3 : decode cX4_periodOfBill 3 = .ok (.istore_n 3, 1) := by decide +kernel
theorem dX4_periodOfBill_4 : decode cX4_periodOfBill 4 = .ok (.iload_n 3, 1) := by decide +kernel
theorem dX4_periodOfBill_5 : decode cX4_periodOfBill 5 = .ok (.aload_n 0, 1) := by decide +kernel
theorem dX4_periodOfBill_6 : decode cX4_periodOfBill 6 = .ok (.getfield 70, 3) := by decide +kernel
theorem dX4_periodOfBill_9 : decode cX4_periodOfBill 9 = .ok (.if_icmp .gt 29, 3) := by decide +kernel
theorem dX4_periodOfBill_12 : decode cX4_periodOfBill 12 = .ok (.aload_n 0, 1) := by decide +kernel
theorem dX4_periodOfBill_13 : decode cX4_periodOfBill 13 = .ok (.iload_n 3, 1) := by decide +kernel
theorem dX4_periodOfBill_14 : decode cX4_periodOfBill 14 = .ok (.invokevirtual 134, 3) := by decide +kernel
theorem dX4_periodOfBill_17 : decode cX4_periodOfBill 17 = .ok (.lconst 0, 1) := by decide +kernel
theorem dX4_periodOfBill_18 : decode cX4_periodOfBill 18 = .ok (.lcmp, 1) := by decide +kernel
theorem dX4_periodOfBill_19 : decode cX4_periodOfBill 19 = .ok (.ifCond .le 13, 3) := by decide +kernel
theorem dX4_periodOfBill_22 : decode cX4_periodOfBill 22 = .ok (.iload_n 2, 1) := by decide +kernel
theorem dX4_periodOfBill_23 : decode cX4_periodOfBill 23 = .ok (.iload_n 1, 1) := by decide +kernel
theorem dX4_periodOfBill_24 : decode cX4_periodOfBill 24 = .ok (.if_icmp .ne 5, 3) := by decide +kernel
theorem dX4_periodOfBill_27 : decode cX4_periodOfBill 27 = .ok (.iload_n 3, 1) := by decide +kernel
theorem dX4_periodOfBill_28 : decode cX4_periodOfBill 28 = .ok (.ireturn, 1) := by decide +kernel
theorem dX4_periodOfBill_29 : decode cX4_periodOfBill 29 = .ok (.iinc 2 1, 3) := by decide +kernel
theorem dX4_periodOfBill_32 : decode cX4_periodOfBill 32 = .ok (.iinc 3 1, 3) := by decide +kernel
theorem dX4_periodOfBill_35 : decode cX4_periodOfBill 35 = .ok (.goto (-31), 3) := by decide +kernel
theorem dX4_periodOfBill_38 : decode cX4_periodOfBill 38 = .ok (.iconst 0, 1) := by decide +kernel
theorem dX4_periodOfBill_39 : decode cX4_periodOfBill 39 = .ok (.ireturn, 1) := by decide +kernel
theorem dX4_daysLate_0 : decode cX4_daysLate 0 = .ok (.aload_n 0, 1) := by decide +kernel
theorem dX4_daysLate_1 : decode cX4_daysLate 1 = .ok (.iconst 0, 1) := by decide +kernel
theorem dX4_daysLate_2 : decode cX4_daysLate 2 = .ok (.invokevirtual 148, 3) := by decide +kernel
theorem dX4_daysLate_5 : decode cX4_daysLate 5 = .ok (.istore_n 2, 1) := by decide +kernel
theorem dX4_daysLate_6 : decode cX4_daysLate 6 = .ok (.iload_n 2, 1) := by decide +kernel
theorem dX4_daysLate_7 : decode cX4_daysLate 7 = .ok (.ifCond .ne 7, 3) := by decide +kernel
theorem dX4_daysLate_10 : decode cX4_daysLate 10 = .ok (.iconst 0, 1) := by decide +kernel
theorem dX4_daysLate_11 : decode cX4_daysLate 11 = .ok (.goto 11, 3) := by decide +kernel
theorem dX4_daysLate_14 : decode cX4_daysLate 14 = .ok (.iload_n 1, 1) := by decide +kernel
theorem dX4_daysLate_15 : decode cX4_daysLate 15 = .ok (.aload_n 0, 1) := by decide +kernel
theorem dX4_daysLate_16 : decode cX4_daysLate 16 = .ok (.getfield 9, 3) := by decide +kernel
theorem dX4_daysLate_19 : decode cX4_daysLate 19 = .ok (.iload_n 2, 1) := by decide +kernel
theorem dX4_daysLate_20 : decode cX4_daysLate 20 = .ok (.iaload, 1) := by decide +kernel
theorem dX4_daysLate_21 : decode cX4_daysLate 21 = .ok (.isub, 1) := by decide +kernel
theorem dX4_daysLate_22 : decode cX4_daysLate 22 = .ok (.ireturn, 1) := by decide +kernel
