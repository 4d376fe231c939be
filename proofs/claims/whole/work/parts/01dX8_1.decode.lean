theorem dX8_days_163 : decode cX8_days 163 = .ok (.aload_n 0, 1) := by decide +kernel
theorem dX8_days_164 : decode cX8_days 164 = .ok (.iload 4, 2) := by decide +kernel
theorem dX8_days_166 : decode cX8_days 166 = .ok (.invokevirtual 184, 3) := by decide +kernel
theorem dX8_days_169 : decode cX8_days 169 = .ok (.iinc 4 1, 3) := by decide +kernel
theorem dX8_days_172 : decode cX8_days 172 = .ok (.goto (-24), 3) := by decide +kernel
theorem dX8_days_175 : decode cX8_days 175 = .ok (.iinc 3 1, 3) := by decide +kernel
theorem dX8_days_178 : decode cX8_days 178 = .ok (.goto (-139), 3) := by decide +kernel
theorem dX8_days_181 : decode cX8_days 181 = .ok (.iload_n 2, 1) := by decide +kernel
theorem dX8_days_182 : decode cX8_days 182 = .ok (.ireturn, 1) := by decide +kernel
theorem dX8_paidOff_0 : decode cX8_paidOff 0 = .ok (.aload_n 0, 1) := by decide +kernel
theorem dX8_paidOff_1 : decode cX8_paidOff 1 = .ok (.iload_n 1, 1) := by decide +kernel
theorem dX8_paidOff_2 : decode cX8_paidOff 2 = .ok (.iload_n 2, 1) := by decide +kernel
theorem dX8_paidOff_3 : decode cX8_paidOff 3 = .ok (.invokevirtual 136, 3) := by decide +kernel
theorem dX8_paidOff_6 : decode cX8_paidOff 6 = .ok (.lload_n 3, 1) := by decide +kernel
theorem dX8_paidOff_7 : decode cX8_paidOff 7 = .ok (.lcmp, 1) := by decide +kernel
theorem dX8_paidOff_8 : decode cX8_paidOff 8 = .ok (.ifCond .ge 12, 3) := by decide +kernel
theorem dX8_paidOff_11 : decode cX8_paidOff 11 = .ok (.aload_n 0, 1) := by decide +kernel
theorem dX8_paidOff_12 : decode cX8_paidOff 12 = .ok (.iload_n 1, 1) := by decide +kernel
theorem dX8_paidOff_13 : decode cX8_paidOff 13 = .ok (.iload_n 2, 1) := by decide +kernel
theorem dX8_paidOff_14 : decode cX8_paidOff 14 = .ok (.invokevirtual 136, 3) := by decide +kernel
theorem dX8_paidOff_17 : decode cX8_paidOff 17 = .ok (.goto 4, 3) := by decide +kernel
theorem dX8_paidOff_20 : decode cX8_paidOff 20 = .ok (.lload_n 3, 1) := by decide +kernel
theorem dX8_paidOff_21 : decode cX8_paidOff 21 = .ok (.lstore 5, 2) := by decide +kernel
theorem dX8_paidOff_23 : decode cX8_paidOff 23 = .ok (.aload_n 0, 1) := by decide +kernel
theorem dX8_paidOff_24 : decode cX8_paidOff 24 = .ok (.iload_n 1, 1) := by decide +kernel
theorem dX8_paidOff_25 : decode cX8_paidOff 25 = .ok (.iload_n 2, 1) := by decide +kernel
theorem dX8_paidOff_26 : decode cX8_paidOff 26 = .ok (.aload_n 0, 1) := by decide +kernel
theorem dX8_paidOff_27 : decode cX8_paidOff 27 = .ok (.iload_n 1, 1) := by decide +kernel
theorem dX8_paidOff_28 : decode cX8_paidOff 28 = .ok (.iload_n 2, 1) := by decide +kernel
theorem dX8_paidOff_29 : decode cX8_paidOff 29 = .ok (.invokevirtual 136, 3) := by decide +kernel
theorem dX8_paidOff_32 : decode cX8_paidOff 32 = .ok (.lload 5, 2) := by decide +kernel
theorem dX8_paidOff_34 : decode cX8_paidOff 34 = .ok (.lsub, 1) := by decide +kernel
theorem dX8_paidOff_35 : decode cX8_paidOff 35 = .ok (.invokevirtual 160, 3) := by decide +kernel
theorem dX8_paidOff_38 : decode cX8_paidOff 38 = .ok (.lload 5, 2) := by decide +kernel
theorem dX8_paidOff_40 : decode cX8_paidOff 40 = .ok (.lreturn, 1) := by decide +kernel
theorem dX8_firstGoes_0 : decode cX8_firstGoes 0 = .ok (.aload_n 0, 1) := by decide +kernel
theorem dX8_firstGoes_1 : decode cX8_firstGoes 1 = .ok (.iload_n 1, 1) := by decide +kernel
theorem dX8_firstGoes_2 : decode cX8_firstGoes 2 = .ok (.bipush 14, 2) := by decide +kernel
theorem dX8_firstGoes_4 : decode cX8_firstGoes 4 = .ok (.invokevirtual 136, 3) := by decide +kernel
theorem dX8_firstGoes_7 : decode cX8_firstGoes 7 = .ok (.l2i, 1) := by decide +kernel
theorem dX8_firstGoes_8 : decode cX8_firstGoes 8 = .ok (.iconst 1, 1) := by decide +kernel
theorem dX8_firstGoes_9 : decode cX8_firstGoes 9 = .ok (.isub, 1) := by decide +kernel
theorem dX8_firstGoes_10 : decode cX8_firstGoes 10 = .ok (.istore_n 2, 1) := by decide +kernel
theorem dX8_firstGoes_11 : decode cX8_firstGoes 11 = .ok (.iconst 0, 1) := by decide +kernel
theorem dX8_firstGoes_12 : decode cX8_firstGoes 12 = .ok (.istore_n 3, 1) := by decide +kernel
theorem dX8_firstGoes_13 : decode cX8_firstGoes 13 = .ok (.iload_n 3, 1) := by decide +kernel
theorem dX8_firstGoes_14 : decode cX8_firstGoes 14 = .ok (.iconst 5, 1) := by decide +kernel
theorem dX8_firstGoes_15 : decode cX8_firstGoes 15 = .ok (.iload_n 2, 1) := by decide +kernel
theorem dX8_firstGoes_16 : decode cX8_firstGoes 16 = .ok (.imul, 1) := by decide +kernel
theorem dX8_firstGoes_17 : decode cX8_firstGoes 17 = .ok (.if_icmp .ge 29, 3) := by decide +kernel
theorem dX8_firstGoes_20 : decode cX8_firstGoes 20 = .ok (.aload_n 0, 1) := by decide +kernel
theorem dX8_firstGoes_21 : decode cX8_firstGoes 21 = .ok (.iload_n 1, 1) := by decide +kernel
theorem dX8_firstGoes_22 : decode cX8_firstGoes 22 = .ok (.bipush 15, 2) := by decide +kernel
theorem dX8_firstGoes_24 : decode cX8_firstGoes 24 = .ok (.iload_n 3, 1) := by decide +kernel
theorem dX8_firstGoes_25 : decode cX8_firstGoes 25 = .ok (.iadd, 1) := by decide +kernel
theorem dX8_firstGoes_26 : decode cX8_firstGoes 26 = .ok (.aload_n 0, 1) := by decide +kernel
theorem dX8_firstGoes_27 : decode cX8_firstGoes 27 = .ok (.iload_n 1, 1) := by decide +kernel
theorem dX8_firstGoes_28 : decode cX8_firstGoes 28 = .ok (.bipush 15, 2) := by decide +kernel
theorem dX8_firstGoes_30 : decode cX8_firstGoes 30 = .ok (.iload_n 3, 1) := by decide +kernel
theorem dX8_firstGoes_31 : decode cX8_firstGoes 31 = .ok (.iadd, 1) := by decide +kernel
theorem dX8_firstGoes_32 : decode cX8_firstGoes 32 = .ok (.iconst 5, 1) := by decide +kernel
theorem dX8_firstGoes_33 : decode cX8_firstGoes 33 = .ok (.iadd, 1) := by decide +kernel
theorem dX8_firstGoes_34 : decode cX8_firstGoes 34 = .ok (.invokevirtual 136, 3) := by decide +kernel
theorem dX8_firstGoes_37 : decode cX8_firstGoes 37 = .ok (.invokevirtual 160, 3) := by decide +kernel
theorem dX8_firstGoes_40 : decode cX8_firstGoes 40 = .ok (.iinc 3 1, 3) := by decide +kernel
theorem dX8_firstGoes_43 : decode cX8_firstGoes 43 = .ok (.goto (-30), 3) := by decide +kernel
theorem dX8_firstGoes_46 : decode cX8_firstGoes 46 = .ok (.aload_n 0, 1) := by decide +kernel
theorem dX8_firstGoes_47 : decode cX8_firstGoes 47 = .ok (.iload_n 1, 1) := by decide +kernel
theorem dX8_firstGoes_48 : decode cX8_firstGoes 48 = .ok (.bipush 14, 2) := by decide +kernel
theorem dX8_firstGoes_50 : decode cX8_firstGoes 50 = .ok (.iload_n 2, 1) := by decide +kernel
theorem dX8_firstGoes_51 : decode cX8_firstGoes 51 = .ok (.i2l, 1) := by decide +kernel
theorem dX8_firstGoes_52 : decode cX8_firstGoes 52 = .ok (.invokevirtual 160, 3) := by decide +kernel
theorem dX8_firstGoes_55 : decode cX8_firstGoes 55 = .ok (.return_, 1) := by decide +kernel
theorem dX8_pays_0 : decode cX8_pays 0 = .ok (.lload_n 2, 1) := by decide +kernel
theorem dX8_pays_1 : decode cX8_pays 1 = .ok (.lstore 4, 2) := by decide +kernel
theorem dX8_pays_3 : decode cX8_pays 3 = .ok (.iconst 0, 1) := by decide +kernel
theorem dX8_pays_4 : decode cX8_pays 4 = .ok (.istore 6, 2) := by decide +kernel
theorem dX8_pays_6 : decode cX8_pays 6 = .ok (.iload 6, 2) := by decide +kernel
theorem dX8_pays_8 : decode cX8_pays 8 = .ok (.bipush 6, 2) := by decide +kernel
theorem dX8_pays_10 : decode cX8_pays 10 = .ok (.if_icmp .ge 17, 3) := by decide +kernel
theorem dX8_pays_13 : decode cX8_pays 13 = .ok (.aload_n 0, 1) := by decide +kernel
theorem dX8_pays_14 : decode cX8_pays 14 = .ok (.getfield 35, 3) := by decide +kernel
theorem dX8_pays_17 : decode cX8_pays 17 = .ok (.iload 6, 2) := by decide +kernel
theorem dX8_pays_19 : decode cX8_pays 19 = .ok (.lconst 0, 1) := by decide +kernel
theorem dX8_pays_20 : decode cX8_pays 20 = .ok (.lastore, 1) := by decide +kernel
theorem dX8_pays_21 : decode cX8_pays 21 = .ok (.iinc 6 1, 3) := by decide +kernel
theorem dX8_pays_24 : decode cX8_pays 24 = .ok (.goto (-18), 3) := by decide +kernel
theorem dX8_pays_27 : decode cX8_pays 27 = .ok (.lload 4, 2) := by decide +kernel
theorem dX8_pays_29 : decode cX8_pays 29 = .ok (.lconst 0, 1) := by decide +kernel
theorem dX8_pays_30 : decode cX8_pays 30 = .ok (.lcmp, 1) := by decide +kernel
theorem dX8_pays_31 : decode cX8_pays 31 = .ok (.ifCond .le 94, 3) := by decide +kernel
theorem dX8_pays_34 : decode cX8_pays 34 = .ok (.aload_n 0, 1) := by decide +kernel
theorem dX8_pays_35 : decode cX8_pays 35 = .ok (.iload_n 1, 1) := by decide +kernel
theorem dX8_pays_36 : decode cX8_pays 36 = .ok (.bipush 14, 2) := by decide +kernel
theorem dX8_pays_38 : decode cX8_pays 38 = .ok (.invokevirtual 136, 3) := by decide +kernel
theorem dX8_pays_41 : decode cX8_pays 41 = .ok (.lconst 0, 1) := by decide +kernel
theorem dX8_pays_42 : decode cX8_pays 42 = .ok (.lcmp, 1) := by decide +kernel
theorem dX8_pays_43 : decode cX8_pays 43 = .ok (.ifCond .le 82, 3) := by decide +kernel
theorem dX8_pays_46 : decode cX8_pays 46 = .ok (.iconst 0, 1) := by decide +kernel
theorem dX8_pays_47 : decode cX8_pays 47 = .ok (.istore 6, 2) := by decide +kernel
theorem dX8_pays_49 : decode cX8_pays 49 = .ok (.iload 6, 2) := by decide +kernel
theorem dX8_pays_51 : decode cX8_pays 51 = .ok (.iconst 3, 1) := by decide +kernel
theorem dX8_pays_52 : decode cX8_pays 52 = .ok (.if_icmp .ge 51, 3) := by decide +kernel
theorem dX8_pays_55 : decode cX8_pays 55 = .ok (.aload_n 0, 1) := by decide +kernel
theorem dX8_pays_56 : decode cX8_pays 56 = .ok (.iload_n 1, 1) := by decide +kernel
theorem dX8_pays_57 : decode cX8_pays 57 = .ok (.bipush 15, 2) := by decide +kernel
theorem dX8_pays_59 : decode cX8_pays 59 = .ok (.iload 6, 2) := by decide +kernel
theorem dX8_pays_61 : decode cX8_pays 61 = .ok (.ifCond .ne 7, 3) := by decide +kernel
theorem dX8_pays_64 : decode cX8_pays 64 = .ok (.iconst 3, 1) := by decide +kernel
theorem dX8_pays_65 : decode cX8_pays 65 = .ok (.goto 5, 3) := by decide +kernel
theorem dX8_pays_68 : decode cX8_pays 68 = .ok (.iload 6, 2) := by decide +kernel
theorem dX8_pays_70 : decode cX8_pays 70 = .ok (.iadd, 1) := by decide +kernel
theorem dX8_pays_71 : decode cX8_pays 71 = .ok (.lload 4, 2) := by decide +kernel
theorem dX8_pays_73 : decode cX8_pays 73 = .ok (.invokevirtual 187, 3) := by decide +kernel
theorem dX8_pays_76 : decode cX8_pays 76 = .ok (.lstore 7, 2) := by decide +kernel
theorem dX8_pays_78 : decode cX8_pays 78 = .ok (.aload_n 0, 1) := by decide +kernel
theorem dX8_pays_79 : decode cX8_pays 79 = .ok (.getfield 35, 3) := by decide +kernel
theorem dX8_pays_82 : decode cX8_pays 82 = .ok (.iload 6, 2) := by decide +kernel
theorem dX8_pays_84 : decode cX8_pays 84 = .ok (.dup2, 1) := by decide +kernel
theorem dX8_pays_85 : decode cX8_pays 85 = .ok (.laload, 1) := by decide +kernel
theorem dX8_pays_86 : decode cX8_pays 86 = .ok (.lload 7, 2) := by decide +kernel
theorem dX8_pays_88 : decode cX8_pays 88 = .ok (.ladd, 1) := by decide +kernel
theorem dX8_pays_89 : decode cX8_pays 89 = .ok (.lastore, 1) := by decide +kernel
theorem dX8_pays_90 : decode cX8_pays 90 = .ok (.lload 4, 2) := by decide +kernel
theorem dX8_pays_92 : decode cX8_pays 92 = .ok (.lload 7, 2) := by decide +kernel
theorem dX8_pays_94 : decode cX8_pays 94 = .ok (.lsub, 1) := by decide +kernel
theorem dX8_pays_95 : decode cX8_pays 95 = .ok (.lstore 4, 2) := by decide +kernel
theorem dX8_pays_97 : decode cX8_pays 97 = .ok (.iinc 6 1, 3) := by decide +kernel
theorem dX8_pays_100 : decode cX8_pays 100 = .ok (.goto (-51), 3) := by decide +kernel
theorem dX8_pays_103 : decode cX8_pays 103 = .ok (.aload_n 0, 1) := by decide +kernel
theorem dX8_pays_104 : decode cX8_pays 104 = .ok (.iload_n 1, 1) := by decide +kernel
theorem dX8_pays_105 : decode cX8_pays 105 = .ok (.iconst 0, 1) := by decide +kernel
theorem dX8_pays_106 : decode cX8_pays 106 = .ok (.invokevirtual 191, 3) := by decide +kernel
theorem dX8_pays_109 : decode cX8_pays 109 = .ok (.lconst 0, 1) := by decide +kernel
theorem dX8_pays_110 : decode cX8_pays 110 = .ok (.lcmp, 1) := by decide +kernel
theorem dX8_pays_111 : decode cX8_pays 111 = .ok (.ifCond .le 6, 3) := by decide +kernel
theorem dX8_pays_114 : decode cX8_pays 114 = .ok (.goto 11, 3) := by decide +kernel
theorem dX8_pays_117 : decode cX8_pays 117 = .ok (.aload_n 0, 1) := by decide +kernel
theorem dX8_pays_118 : decode cX8_pays 118 = .ok (.iload_n 1, 1) := by decide +kernel
theorem dX8_pays_119 : decode cX8_pays 119 = .ok (.invokevirtual 194, 3) := by decide +kernel
theorem dX8_pays_122 : decode cX8_pays 122 = .ok (.goto (-95), 3) := by decide +kernel
theorem dX8_pays_125 : decode cX8_pays 125 = .ok (.aload_n 0, 1) := by decide +kernel
theorem dX8_pays_126 : decode cX8_pays 126 = .ok (.getfield 35, 3) := by decide +kernel
theorem dX8_pays_129 : decode cX8_pays 129 = .ok (.iconst 3, 1) := by decide +kernel
theorem dX8_pays_130 : decode cX8_pays 130 = .ok (.aload_n 0, 1) := by decide +kernel
theorem dX8_pays_131 : decode cX8_pays 131 = .ok (.iload_n 1, 1) := by decide +kernel
theorem dX8_pays_132 : decode cX8_pays 132 = .ok (.bipush 8, 2) := by decide +kernel
theorem dX8_pays_134 : decode cX8_pays 134 = .ok (.lload 4, 2) := by decide +kernel
theorem dX8_pays_136 : decode cX8_pays 136 = .ok (.invokevirtual 187, 3) := by decide +kernel
theorem dX8_pays_139 : decode cX8_pays 139 = .ok (.lastore, 1) := by decide +kernel
theorem dX8_pays_140 : decode cX8_pays 140 = .ok (.aload_n 0, 1) := by decide +kernel
theorem dX8_pays_141 : decode cX8_pays 141 = .ok (.getfield 35, 3) := by decide +kernel
theorem dX8_pays_144 : decode cX8_pays 144 = .ok (.iconst 4, 1) := by decide +kernel
theorem dX8_pays_145 : decode cX8_pays 145 = .ok (.lload 4, 2) := by decide +kernel
theorem dX8_pays_147 : decode cX8_pays 147 = .ok (.aload_n 0, 1) := by decide +kernel
theorem dX8_pays_148 : decode cX8_pays 148 = .ok (.getfield 35, 3) := by decide +kernel
theorem dX8_pays_151 : decode cX8_pays 151 = .ok (.iconst 3, 1) := by decide +kernel
theorem dX8_pays_152 : decode cX8_pays 152 = .ok (.laload, 1) := by decide +kernel
theorem dX8_pays_153 : decode cX8_pays 153 = .ok (.lsub, 1) := by decide +kernel
theorem dX8_pays_154 : decode cX8_pays 154 = .ok (.lastore, 1) := by decide +kernel
theorem dX8_pays_155 : decode cX8_pays 155 = .ok (.iconst 0, 1) := by decide +kernel
theorem dX8_pays_156 : decode cX8_pays 156 = .ok (.istore 6, 2) := by decide +kernel
theorem dX8_pays_158 : decode cX8_pays 158 = .ok (.iload 6, 2) := by decide +kernel
theorem dX8_pays_160 : decode cX8_pays 160 = .ok (.iconst 3, 1) := by decide +kernel
theorem dX8_pays_161 : decode cX8_pays 161 = .ok (.if_icmp .ge 37, 3) := by decide +kernel
theorem dX8_pays_164 : decode cX8_pays 164 = .ok (.aload_n 0, 1) := by decide +kernel
theorem dX8_pays_165 : decode cX8_pays 165 = .ok (.iload_n 1, 1) := by decide +kernel
theorem dX8_pays_166 : decode cX8_pays 166 = .ok (.bipush 10, 2) := by decide +kernel
theorem dX8_pays_168 : decode cX8_pays 168 = .ok (.iload 6, 2) := by decide +kernel
theorem dX8_pays_170 : decode cX8_pays 170 = .ok (.iadd, 1) := by decide +kernel
theorem dX8_pays_171 : decode cX8_pays 171 = .ok (.aload_n 0, 1) := by decide +kernel
theorem dX8_pays_172 : decode cX8_pays 172 = .ok (.iload_n 1, 1) := by decide +kernel
theorem dX8_pays_173 : decode cX8_pays 173 = .ok (.bipush 10, 2) := by decide +kernel
theorem dX8_pays_175 : decode cX8_pays 175 = .ok (.iload 6, 2) := by decide +kernel
theorem dX8_pays_177 : decode cX8_pays 177 = .ok (.iadd, 1) := by decide +kernel
theorem dX8_pays_178 : decode cX8_pays 178 = .ok (.invokevirtual 136, 3) := by decide +kernel
theorem dX8_pays_181 : decode cX8_pays 181 = .ok (.aload_n 0, 1) := by decide +kernel
theorem dX8_pays_182 : decode cX8_pays 182 = .ok (.getfield 35, 3) := by decide +kernel
theorem dX8_pays_185 : decode cX8_pays 185 = .ok (.iload 6, 2) := by decide +kernel
theorem dX8_pays_187 : decode cX8_pays 187 = .ok (.laload, 1) := by decide +kernel
theorem dX8_pays_188 : decode cX8_pays 188 = .ok (.ladd, 1) := by decide +kernel
theorem dX8_pays_189 : decode cX8_pays 189 = .ok (.invokevirtual 160, 3) := by decide +kernel
theorem dX8_pays_192 : decode cX8_pays 192 = .ok (.iinc 6 1, 3) := by decide +kernel
theorem dX8_pays_195 : decode cX8_pays 195 = .ok (.goto (-37), 3) := by decide +kernel
theorem dX8_pays_198 : decode cX8_pays 198 = .ok (.aload_n 0, 1) := by decide +kernel
theorem dX8_pays_199 : decode cX8_pays 199 = .ok (.iload_n 1, 1) := by decide +kernel
theorem dX8_pays_200 : decode cX8_pays 200 = .ok (.bipush 12, 2) := by decide +kernel
theorem dX8_pays_202 : decode cX8_pays 202 = .ok (.aload_n 0, 1) := by decide +kernel
theorem dX8_pays_203 : decode cX8_pays 203 = .ok (.iload_n 1, 1) := by decide +kernel
theorem dX8_pays_204 : decode cX8_pays 204 = .ok (.bipush 12, 2) := by decide +kernel
theorem dX8_pays_206 : decode cX8_pays 206 = .ok (.invokevirtual 136, 3) := by decide +kernel
theorem dX8_pays_209 : decode cX8_pays 209 = .ok (.aload_n 0, 1) := by decide +kernel
theorem dX8_pays_210 : decode cX8_pays 210 = .ok (.getfield 35, 3) := by decide +kernel
theorem dX8_pays_213 : decode cX8_pays 213 = .ok (.iconst 3, 1) := by decide +kernel
theorem dX8_pays_214 : decode cX8_pays 214 = .ok (.laload, 1) := by decide +kernel
theorem dX8_pays_215 : decode cX8_pays 215 = .ok (.ladd, 1) := by decide +kernel
theorem dX8_pays_216 : decode cX8_pays 216 = .ok (.invokevirtual 160, 3) := by decide +kernel
theorem dX8_pays_219 : decode cX8_pays 219 = .ok (.aload_n 0, 1) := by decide +kernel
theorem dX8_pays_220 : decode cX8_pays 220 = .ok (.getfield 35, 3) := by decide +kernel
theorem dX8_pays_223 : decode cX8_pays 223 = .ok (.iconst 3, 1) := by decide +kernel
theorem dX8_pays_224 : decode cX8_pays 224 = .ok (.laload, 1) := by decide +kernel
theorem dX8_pays_225 : decode cX8_pays 225 = .ok (.lconst 0, 1) := by decide +kernel
theorem dX8_pays_226 : decode cX8_pays 226 = .ok (.lcmp, 1) := by decide +kernel
theorem dX8_pays_227 : decode cX8_pays 227 = .ok (.ifCond .le 19, 3) := by decide +kernel
theorem dX8_pays_230 : decode cX8_pays 230 = .ok (.aload_n 0, 1) := by decide +kernel
theorem dX8_pays_231 : decode cX8_pays 231 = .ok (.iload_n 1, 1) := by decide +kernel
theorem dX8_pays_232 : decode cX8_pays 232 = .ok (.iconst 5, 1) := by decide +kernel
theorem dX8_pays_233 : decode cX8_pays 233 = .ok (.invokevirtual 136, 3) := by decide +kernel
theorem dX8_pays_236 : decode cX8_pays 236 = .ok (.lconst 1, 1) := by decide +kernel
theorem dX8_pays_237 : decode cX8_pays 237 = .ok (.lcmp, 1) := by decide +kernel
theorem dX8_pays_238 : decode cX8_pays 238 = .ok (.ifCond .ne 8, 3) := by decide +kernel
theorem dX8_pays_241 : decode cX8_pays 241 = .ok (.aload_n 0, 1) := by decide +kernel
theorem dX8_pays_242 : decode cX8_pays 242 = .ok (.iload_n 1, 1) := by decide +kernel
theorem dX8_pays_243 : decode cX8_pays 243 = .ok (.invokevirtual 171, 3) := by decide +kernel
theorem dX8_pays_246 : decode cX8_pays 246 = .ok (.aload_n 0, 1) := by decide +kernel
theorem dX8_pays_247 : decode cX8_pays 247 = .ok (.getfield 35, 3) := by decide +kernel
theorem dX8_pays_250 : decode cX8_pays 250 = .ok (.iconst 5, 1) := by decide +kernel
theorem dX8_pays_251 : decode cX8_pays 251 = .ok (.aload_n 0, 1) := by decide +kernel
theorem dX8_pays_252 : decode cX8_pays 252 = .ok (.iload_n 1, 1) := by decide +kernel
theorem dX8_pays_253 : decode cX8_pays 253 = .ok (.bipush 9, 2) := by decide +kernel
theorem dX8_pays_255 : decode cX8_pays 255 = .ok (.invokevirtual 136, 3) := by decide +kernel
theorem dX8_pays_258 : decode cX8_pays 258 = .ok (.lastore, 1) := by decide +kernel
theorem dX8_pays_259 : decode cX8_pays 259 = .ok (.return_, 1) := by decide +kernel
theorem dX8_asks_0 : decode cX8_asks 0 = .ok (.bipush 15, 2) := by decide +kernel
theorem dX8_asks_2 : decode cX8_asks 2 = .ok (.iconst 5, 1) := by decide +kernel
theorem dX8_asks_3 : decode cX8_asks 3 = .ok (.iload_n 2, 1) := by decide +kernel
theorem dX8_asks_4 : decode cX8_asks 4 = .ok (.imul, 1) := by decide +kernel
theorem dX8_asks_5 : decode cX8_asks 5 = .ok (.iadd, 1) := by decide +kernel
theorem dX8_asks_6 : decode cX8_asks 6 = .ok (.istore_n 3, 1) := by decide +kernel
theorem dX8_asks_7 : decode cX8_asks 7 = .ok (.aload_n 0, 1) := by decide +kernel
theorem dX8_asks_8 : decode cX8_asks 8 = .ok (.iload_n 1, 1) := by decide +kernel
theorem dX8_asks_9 : decode cX8_asks 9 = .ok (.iload_n 3, 1) := by decide +kernel
theorem dX8_asks_10 : decode cX8_asks 10 = .ok (.iconst 1, 1) := by decide +kernel
theorem dX8_asks_11 : decode cX8_asks 11 = .ok (.iadd, 1) := by decide +kernel
theorem dX8_asks_12 : decode cX8_asks 12 = .ok (.invokevirtual 136, 3) := by decide +kernel
theorem dX8_asks_15 : decode cX8_asks 15 = .ok (.aload_n 0, 1) := by decide +kernel
theorem dX8_asks_16 : decode cX8_asks 16 = .ok (.iload_n 1, 1) := by decide +kernel
theorem dX8_asks_17 : decode cX8_asks 17 = .ok (.iload_n 3, 1) := by decide +kernel
theorem dX8_asks_18 : decode cX8_asks 18 = .ok (.iconst 2, 1) := by decide +kernel
theorem dX8_asks_19 : decode cX8_asks 19 = .ok (.iadd, 1) := by decide +kernel
theorem dX8_asks_20 : decode cX8_asks 20 = .ok (.invokevirtual 136, 3) := by decide +kernel
theorem dX8_asks_23 : decode cX8_asks 23 = .ok (.ladd, 1) := by decide +kernel
theorem dX8_asks_24 : decode cX8_asks 24 = .ok (.aload_n 0, 1) := by decide +kernel
theorem dX8_asks_25 : decode cX8_asks 25 = .ok (.iload_n 1, 1) := by decide +kernel
theorem dX8_asks_26 : decode cX8_asks 26 = .ok (.iload_n 3, 1) := by decide +kernel
theorem dX8_asks_27 : decode cX8_asks 27 = .ok (.iconst 3, 1) := by decide +kernel
theorem dX8_asks_28 : decode cX8_asks 28 = .ok (.iadd, 1) := by decide +kernel
theorem dX8_asks_29 : decode cX8_asks 29 = .ok (.invokevirtual 136, 3) := by decide +kernel
theorem dX8_asks_32 : decode cX8_asks 32 = .ok (.ladd, 1) := by decide +kernel
theorem dX8_asks_33 : decode cX8_asks 33 = .ok (.lreturn, 1) := by decide +kernel
theorem dX8_isPaid_0 : decode cX8_isPaid 0 = .ok (.aload_n 0, 1) := by decide +kernel
theorem dX8_isPaid_1 : decode cX8_isPaid 1 = .ok (.iload_n 1, 1) := by decide +kernel
theorem dX8_isPaid_2 : decode cX8_isPaid 2 = .ok (.invokevirtual 197, 3) := by decide +kernel
theorem dX8_isPaid_5 : decode cX8_isPaid 5 = .ok (.ifCond .eq 18, 3) := by decide +kernel
theorem dX8_isPaid_8 : decode cX8_isPaid 8 = .ok (.lload_n 2, 1) := by decide +kernel
theorem dX8_isPaid_9 : decode cX8_isPaid 9 = .ok (.lconst 1, 1) := by decide +kernel
theorem dX8_isPaid_10 : decode cX8_isPaid 10 = .ok (.ldc2_w 200, 3) := by decide +kernel
theorem dX8_isPaid_13 : decode cX8_isPaid 13 = .ok (.invokestatic 85, 3) := by decide +kernel
theorem dX8_isPaid_16 : decode cX8_isPaid 16 = .ok (.ifCond .eq 7, 3) := by decide +kernel
theorem dX8_isPaid_19 : decode cX8_isPaid 19 = .ok (.iconst 1, 1) := by decide +kernel
theorem dX8_isPaid_20 : decode cX8_isPaid 20 = .ok (.goto 4, 3) := by decide +kernel
theorem dX8_isPaid_23 : decode cX8_isPaid 23 = .ok (.iconst 0, 1) := by decide +kernel
theorem dX8_isPaid_24 : decode cX8_isPaid 24 = .ok (.ireturn, 1) := by decide +kernel
theorem dX8_pay_0 : decode cX8_pay 0 = .ok (.aload_n 0, 1) := by decide +kernel
theorem dX8_pay_1 : decode cX8_pay 1 = .ok (.iload_n 1, 1) := by decide +kernel
theorem dX8_pay_2 : decode cX8_pay 2 = .ok (.lload_n 2, 1) := by decide +kernel
theorem dX8_pay_3 : decode cX8_pay 3 = .ok (.invokevirtual 202, 3) := by decide +kernel
theorem dX8_pay_6 : decode cX8_pay 6 = .ok (.ifCond .ne 7, 3) := by decide +kernel
theorem dX8_pay_9 : decode cX8_pay 9 = .ok (.ldc2_w 134, 3) := by decide +kernel
theorem dX8_pay_12 : decode cX8_pay 12 = .ok (.lreturn, 1) := by decide +kernel
theorem dX8_pay_13 : decode cX8_pay 13 = .ok (.aload_n 0, 1) := by decide +kernel
theorem dX8_pay_14 : decode cX8_pay 14 = .ok (.iload_n 1, 1) := by decide +kernel
theorem dX8_pay_15 : decode cX8_pay 15 = .ok (.lload_n 2, 1) := by decide +kernel
theorem dX8_pay_16 : decode cX8_pay 16 = .ok (.invokevirtual 205, 3) := by decide +kernel
theorem dX8_pay_19 : decode cX8_pay 19 = .ok (.aload_n 0, 1) := by decide +kernel
theorem dX8_pay_20 : decode cX8_pay 20 = .ok (.getfield 35, 3) := by decide +kernel
theorem dX8_pay_23 : decode cX8_pay 23 = .ok (.iconst 4, 1) := by decide +kernel
theorem dX8_pay_24 : decode cX8_pay 24 = .ok (.laload, 1) := by decide +kernel
theorem dX8_pay_25 : decode cX8_pay 25 = .ok (.lreturn, 1) := by decide +kernel
theorem dX8_reset_0 : decode cX8_reset 0 = .ok (.aload_n 0, 1) := by decide +kernel
theorem dX8_reset_1 : decode cX8_reset 1 = .ok (.iload_n 1, 1) := by decide +kernel
theorem dX8_reset_2 : decode cX8_reset 2 = .ok (.invokevirtual 197, 3) := by decide +kernel
theorem dX8_reset_5 : decode cX8_reset 5 = .ok (.ifCond .eq 15, 3) := by decide +kernel
theorem dX8_reset_8 : decode cX8_reset 8 = .ok (.iload_n 2, 1) := by decide +kernel
theorem dX8_reset_9 : decode cX8_reset 9 = .ok (.i2l, 1) := by decide +kernel
theorem dX8_reset_10 : decode cX8_reset 10 = .ok (.lconst 0, 1) := by decide +kernel
theorem dX8_reset_11 : decode cX8_reset 11 = .ok (.ldc2_w 128, 3) := by decide +kernel
theorem dX8_reset_14 : decode cX8_reset 14 = .ok (.invokestatic 85, 3) := by decide +kernel
theorem dX8_reset_17 : decode cX8_reset 17 = .ok (.ifCond .ne 7, 3) := by decide +kernel
theorem dX8_reset_20 : decode cX8_reset 20 = .ok (.ldc2_w 134, 3) := by decide +kernel
theorem dX8_reset_23 : decode cX8_reset 23 = .ok (.lreturn, 1) := by decide +kernel
theorem dX8_reset_24 : decode cX8_reset 24 = .ok (.aload_n 0, 1) := by decide +kernel
theorem dX8_reset_25 : decode cX8_reset 25 = .ok (.iload_n 1, 1) := by decide +kernel
theorem dX8_reset_26 : decode cX8_reset 26 = .ok (.iconst 1, 1) := by decide +kernel
theorem dX8_reset_27 : decode cX8_reset 27 = .ok (.iload_n 2, 1) := by decide +kernel
theorem dX8_reset_28 : decode cX8_reset 28 = .ok (.i2l, 1) := by decide +kernel
theorem dX8_reset_29 : decode cX8_reset 29 = .ok (.invokevirtual 160, 3) := by decide +kernel
theorem dX8_reset_32 : decode cX8_reset 32 = .ok (.aload_n 0, 1) := by decide +kernel
theorem dX8_reset_33 : decode cX8_reset 33 = .ok (.iload_n 1, 1) := by decide +kernel
theorem dX8_reset_34 : decode cX8_reset 34 = .ok (.invokevirtual 171, 3) := by decide +kernel
theorem dX8_reset_37 : decode cX8_reset 37 = .ok (.aload_n 0, 1) := by decide +kernel
theorem dX8_reset_38 : decode cX8_reset 38 = .ok (.iload_n 1, 1) := by decide +kernel
theorem dX8_reset_39 : decode cX8_reset 39 = .ok (.bipush 9, 2) := by decide +kernel
theorem dX8_reset_41 : decode cX8_reset 41 = .ok (.invokevirtual 136, 3) := by decide +kernel
theorem dX8_reset_44 : decode cX8_reset 44 = .ok (.lreturn, 1) := by decide +kernel
theorem dX8_writeOff_0 : decode cX8_writeOff 0 = .ok (.aload_n 0, 1) := by decide +kernel
theorem dX8_writeOff_1 : decode cX8_writeOff 1 = .ok (.iload_n 1, 1) := by decide +kernel
theorem dX8_writeOff_2 : decode cX8_writeOff 2 = .ok (.invokevirtual 197, 3) := by decide +kernel
theorem dX8_writeOff_5 : decode cX8_writeOff 5 = .ok (.ifCond .ne 7, 3) := by decide +kernel
theorem dX8_writeOff_8 : decode cX8_writeOff 8 = .ok (.ldc2_w 134, 3) := by decide +kernel
theorem dX8_writeOff_11 : decode cX8_writeOff 11 = .ok (.lreturn, 1) := by decide +kernel
theorem dX8_writeOff_12 : decode cX8_writeOff 12 = .ok (.aload_n 0, 1) := by decide +kernel
theorem dX8_writeOff_13 : decode cX8_writeOff 13 = .ok (.iload_n 1, 1) := by decide +kernel
theorem dX8_writeOff_14 : decode cX8_writeOff 14 = .ok (.bipush 8, 2) := by decide +kernel
theorem dX8_writeOff_16 : decode cX8_writeOff 16 = .ok (.invokevirtual 136, 3) := by decide +kernel
theorem dX8_writeOff_19 : decode cX8_writeOff 19 = .ok (.lconst 0, 1) := by decide +kernel
theorem dX8_writeOff_20 : decode cX8_writeOff 20 = .ok (.lcmp, 1) := by decide +kernel
theorem dX8_writeOff_21 : decode cX8_writeOff 21 = .ok (.ifCond .ne 19, 3) := by decide +kernel
theorem dX8_writeOff_24 : decode cX8_writeOff 24 = .ok (.aload_n 0, 1) := by decide +kernel
theorem dX8_writeOff_25 : decode cX8_writeOff 25 = .ok (.iload_n 1, 1) := by decide +kernel
theorem dX8_writeOff_26 : decode cX8_writeOff 26 = .ok (.bipush 14, 2) := by decide +kernel
theorem dX8_writeOff_28 : decode cX8_writeOff 28 = .ok (.invokevirtual 136, 3) := by decide +kernel
theorem dX8_writeOff_31 : decode cX8_writeOff 31 = .ok (.lconst 0, 1) := by decide +kernel
theorem dX8_writeOff_32 : decode cX8_writeOff 32 = .ok (.lcmp, 1) := by decide +kernel
theorem dX8_writeOff_33 : decode cX8_writeOff 33 = .ok (.ifCond .ne 7, 3) := by decide +kernel
theorem dX8_writeOff_36 : decode cX8_writeOff 36 = .ok (.ldc2_w 209, 3) := by decide +kernel
theorem dX8_writeOff_39 : decode cX8_writeOff 39 = .ok (.lreturn, 1) := by decide +kernel
theorem dX8_writeOff_40 : decode cX8_writeOff 40 = .ok (.aload_n 0, 1) := by decide +kernel
theorem dX8_writeOff_41 : decode cX8_writeOff 41 = .ok (.iload_n 1, 1) := by decide +kernel
theorem dX8_writeOff_42 : decode cX8_writeOff 42 = .ok (.bipush 8, 2) := by decide +kernel
theorem dX8_writeOff_44 : decode cX8_writeOff 44 = .ok (.invokevirtual 136, 3) := by decide +kernel
theorem dX8_writeOff_47 : decode cX8_writeOff 47 = .ok (.lstore_n 2, 1) := by decide +kernel
theorem dX8_writeOff_48 : decode cX8_writeOff 48 = .ok (.iconst 0, 1) := by decide +kernel
theorem dX8_writeOff_49 : decode cX8_writeOff 49 = .ok (.istore 4, 2) := by decide +kernel
theorem dX8_writeOff_51 : decode cX8_writeOff 51 = .ok (.iload 4, 2) := by decide +kernel
theorem dX8_writeOff_53 : decode cX8_writeOff 53 = .ok (.i2l, 1) := by decide +kernel
theorem dX8_writeOff_54 : decode cX8_writeOff 54 = .ok (.aload_n 0, 1) := by decide +kernel
theorem dX8_writeOff_55 : decode cX8_writeOff 55 = .ok (.iload_n 1, 1) := by decide +kernel
theorem dX8_writeOff_56 : decode cX8_writeOff 56 = .ok (.bipush 14, 2) := by decide +kernel
theorem dX8_writeOff_58 : decode cX8_writeOff 58 = .ok (.invokevirtual 136, 3) := by decide +kernel
theorem dX8_writeOff_61 : decode cX8_writeOff 61 = .ok (.lcmp, 1) := by decide +kernel
theorem dX8_writeOff_62 : decode cX8_writeOff 62 = .ok (.ifCond .ge 26, 3) := by decide +kernel
theorem dX8_writeOff_65 : decode cX8_writeOff 65 = .ok (.lload_n 2, 1) := by decide +kernel
theorem dX8_writeOff_66 : decode cX8_writeOff 66 = .ok (.aload_n 0, 1) := by decide +kernel
theorem dX8_writeOff_67 : decode cX8_writeOff 67 = .ok (.iload_n 1, 1) := by decide +kernel
theorem dX8_writeOff_68 : decode cX8_writeOff 68 = .ok (.bipush 15, 2) := by decide +kernel
theorem dX8_writeOff_70 : decode cX8_writeOff 70 = .ok (.iconst 5, 1) := by decide +kernel
theorem dX8_writeOff_71 : decode cX8_writeOff 71 = .ok (.iload 4, 2) := by decide +kernel
theorem dX8_writeOff_73 : decode cX8_writeOff 73 = .ok (.imul, 1) := by decide +kernel
theorem dX8_writeOff_74 : decode cX8_writeOff 74 = .ok (.iadd, 1) := by decide +kernel
theorem dX8_writeOff_75 : decode cX8_writeOff 75 = .ok (.iconst 2, 1) := by decide +kernel
theorem dX8_writeOff_76 : decode cX8_writeOff 76 = .ok (.iadd, 1) := by decide +kernel
theorem dX8_writeOff_77 : decode cX8_writeOff 77 = .ok (.invokevirtual 136, 3) := by decide +kernel
theorem dX8_writeOff_80 : decode cX8_writeOff 80 = .ok (.ladd, 1) := by decide +kernel
theorem dX8_writeOff_81 : decode cX8_writeOff 81 = .ok (.lstore_n 2, 1) := by decide +kernel
theorem dX8_writeOff_82 : decode cX8_writeOff 82 = .ok (.iinc 4 1, 3) := by decide +kernel
theorem dX8_writeOff_85 : decode cX8_writeOff 85 = .ok (.goto (-34), 3) := by decide +kernel
theorem dX8_writeOff_88 : decode cX8_writeOff 88 = .ok (.aload_n 0, 1) := by decide +kernel
theorem dX8_writeOff_89 : decode cX8_writeOff 89 = .ok (.iload_n 1, 1) := by decide +kernel
theorem dX8_writeOff_90 : decode cX8_writeOff 90 = .ok (.bipush 8, 2) := by decide +kernel
theorem dX8_writeOff_92 : decode cX8_writeOff 92 = .ok (.lconst 0, 1) := by decide +kernel
theorem dX8_writeOff_93 : decode cX8_writeOff 93 = .ok (.invokevirtual 160, 3) := by decide +kernel
theorem dX8_writeOff_96 : decode cX8_writeOff 96 = .ok (.aload_n 0, 1) := by decide +kernel
theorem dX8_writeOff_97 : decode cX8_writeOff 97 = .ok (.iload_n 1, 1) := by decide +kernel
theorem dX8_writeOff_98 : decode cX8_writeOff 98 = .ok (.bipush 14, 2) := by decide +kernel
theorem dX8_writeOff_100 : decode cX8_writeOff 100 = .ok (.lconst 0, 1) := by decide +kernel
theorem dX8_writeOff_101 : decode cX8_writeOff 101 = .ok (.invokevirtual 160, 3) := by decide +kernel
theorem dX8_writeOff_104 : decode cX8_writeOff 104 = .ok (.aload_n 0, 1) := by decide +kernel
theorem dX8_writeOff_105 : decode cX8_writeOff 105 = .ok (.iload_n 1, 1) := by decide +kernel
theorem dX8_writeOff_106 : decode cX8_writeOff 106 = .ok (.bipush 13, 2) := by decide +kernel
theorem dX8_writeOff_108 : decode cX8_writeOff 108 = .ok (.aload_n 0, 1) := by decide +kernel
theorem dX8_writeOff_109 : decode cX8_writeOff 109 = .ok (.iload_n 1, 1) := by decide +kernel
theorem dX8_writeOff_110 : decode cX8_writeOff 110 = .ok (.bipush 13, 2) := by decide +kernel
theorem dX8_writeOff_112 : decode cX8_writeOff 112 = .ok (.invokevirtual 136, 3) := by decide +kernel
theorem dX8_writeOff_115 : decode cX8_writeOff 115 = .ok (.lload_n 2, 1) := by decide +kernel
theorem dX8_writeOff_116 : decode cX8_writeOff 116 = .ok (.ladd, 1) := by decide +kernel
theorem dX8_writeOff_117 : decode cX8_writeOff 117 = .ok (.invokevirtual 160, 3) := by decide +kernel
theorem dX8_writeOff_120 : decode cX8_writeOff 120 = .ok (.lload_n 2, 1) := by decide +kernel
theorem dX8_writeOff_121 : decode cX8_writeOff 121 = .ok (.lreturn, 1) := by decide +kernel
theorem dX8_rule_0 : decode cX8_rule 0 = .ok (.iload_n 1, 1) := by decide +kernel
theorem dX8_rule_1 : decode cX8_rule 1 = .ok (.i2l, 1) := by decide +kernel
theorem dX8_rule_2 : decode cX8_rule 2 = .ok (.lconst 0, 1) := by decide +kernel
theorem dX8_rule_3 : decode cX8_rule 3 = .ok (.lconst 1, 1) := by decide +kernel
theorem dX8_rule_4 : decode cX8_rule 4 = .ok (.invokestatic 85, 3) := by decide +kernel
theorem dX8_rule_7 : decode cX8_rule 7 = .ok (.ifCond .eq 25, 3) := by decide +kernel
theorem dX8_rule_10 : decode cX8_rule 10 = .ok (.iload_n 2, 1) := by decide +kernel
theorem dX8_rule_11 : decode cX8_rule 11 = .ok (.i2l, 1) := by decide +kernel
theorem dX8_rule_12 : decode cX8_rule 12 = .ok (.lconst 0, 1) := by decide +kernel
theorem dX8_rule_13 : decode cX8_rule 13 = .ok (.iload_n 1, 1) := by decide +kernel
theorem dX8_rule_14 : decode cX8_rule 14 = .ok (.ifCond .ne 9, 3) := by decide +kernel
theorem dX8_rule_17 : decode cX8_rule 17 = .ok (.ldc2_w 211, 3) := by decide +kernel
theorem dX8_rule_20 : decode cX8_rule 20 = .ok (.goto 6, 3) := by decide +kernel
theorem dX8_rule_23 : decode cX8_rule 23 = .ok (.ldc2_w 122, 3) := by decide +kernel
theorem dX8_rule_26 : decode cX8_rule 26 = .ok (.invokestatic 85, 3) := by decide +kernel
theorem dX8_rule_29 : decode cX8_rule 29 = .ok (.ifCond .ne 5, 3) := by decide +kernel
theorem dX8_rule_32 : decode cX8_rule 32 = .ok (.iconst (-1), 1) := by decide +kernel
theorem dX8_rule_33 : decode cX8_rule 33 = .ok (.ireturn, 1) := by decide +kernel
theorem dX8_rule_34 : decode cX8_rule 34 = .ok (.aload_n 0, 1) := by decide +kernel
theorem dX8_rule_35 : decode cX8_rule 35 = .ok (.getfield 9, 3) := by decide +kernel
theorem dX8_rule_38 : decode cX8_rule 38 = .ok (.sipush 2522, 3) := by decide +kernel
theorem dX8_rule_41 : decode cX8_rule 41 = .ok (.iload_n 1, 1) := by decide +kernel
theorem dX8_rule_42 : decode cX8_rule 42 = .ok (.iadd, 1) := by decide +kernel
theorem dX8_rule_43 : decode cX8_rule 43 = .ok (.laload, 1) := by decide +kernel
theorem dX8_rule_44 : decode cX8_rule 44 = .ok (.l2i, 1) := by decide +kernel
theorem dX8_rule_45 : decode cX8_rule 45 = .ok (.istore_n 3, 1) := by decide +kernel
theorem dX8_rule_46 : decode cX8_rule 46 = .ok (.aload_n 0, 1) := by decide +kernel
theorem dX8_rule_47 : decode cX8_rule 47 = .ok (.getfield 9, 3) := by decide +kernel
theorem dX8_rule_50 : decode cX8_rule 50 = .ok (.sipush 2522, 3) := by decide +kernel
theorem dX8_rule_53 : decode cX8_rule 53 = .ok (.iload_n 1, 1) := by decide +kernel
theorem dX8_rule_54 : decode cX8_rule 54 = .ok (.iadd, 1) := by decide +kernel
theorem dX8_rule_55 : decode cX8_rule 55 = .ok (.iload_n 2, 1) := by decide +kernel
theorem dX8_rule_56 : decode cX8_rule 56 = .ok (.i2l, 1) := by decide +kernel
theorem dX8_rule_57 : decode cX8_rule 57 = .ok (.lastore, 1) := by decide +kernel
theorem dX8_rule_58 : decode cX8_rule 58 = .ok (.iload_n 3, 1) := by decide +kernel
theorem dX8_rule_59 : decode cX8_rule 59 = .ok (.ireturn, 1) := by decide +kernel
theorem dX8_of_0 : decode cX8_of 0 = .ok (.aload_n 0, 1) := by decide +kernel
theorem dX8_of_1 : decode cX8_of 1 = .ok (.iload_n 1, 1) := by decide +kernel
theorem dX8_of_2 : decode cX8_of 2 = .ok (.invokevirtual 197, 3) := by decide +kernel
theorem dX8_of_5 : decode cX8_of 5 = .ok (.ifCond .eq 15, 3) := by decide +kernel
theorem dX8_of_8 : decode cX8_of 8 = .ok (.iload_n 2, 1) := by decide +kernel
theorem dX8_of_9 : decode cX8_of 9 = .ok (.i2l, 1) := by decide +kernel
theorem dX8_of_10 : decode cX8_of 10 = .ok (.lconst 0, 1) := by decide +kernel
theorem dX8_of_11 : decode cX8_of 11 = .ok (.ldc2_w 213, 3) := by decide +kernel
theorem dX8_of_14 : decode cX8_of 14 = .ok (.invokestatic 85, 3) := by decide +kernel
theorem dX8_of_17 : decode cX8_of 17 = .ok (.ifCond .ne 5, 3) := by decide +kernel
theorem dX8_of_20 : decode cX8_of 20 = .ok (.iconst (-1), 1) := by decide +kernel
theorem dX8_of_21 : decode cX8_of 21 = .ok (.ireturn, 1) := by decide +kernel
theorem dX8_of_22 : decode cX8_of 22 = .ok (.aload_n 0, 1) := by decide +kernel
theorem dX8_of_23 : decode cX8_of 23 = .ok (.iload_n 1, 1) := by decide +kernel
theorem dX8_of_24 : decode cX8_of 24 = .ok (.bipush 14, 2) := by decide +kernel
theorem dX8_of_26 : decode cX8_of 26 = .ok (.invokevirtual 136, 3) := by decide +kernel
theorem dX8_of_29 : decode cX8_of 29 = .ok (.l2i, 1) := by decide +kernel
theorem dX8_of_30 : decode cX8_of 30 = .ok (.istore_n 3, 1) := by decide +kernel
theorem dX8_of_31 : decode cX8_of 31 = .ok (.aload_n 0, 1) := by decide +kernel
theorem dX8_of_32 : decode cX8_of 32 = .ok (.iload_n 1, 1) := by decide +kernel
theorem dX8_of_33 : decode cX8_of 33 = .ok (.bipush 7, 2) := by decide +kernel
theorem dX8_of_35 : decode cX8_of 35 = .ok (.invokevirtual 136, 3) := by decide +kernel
theorem dX8_of_38 : decode cX8_of 38 = .ok (.l2i, 1) := by decide +kernel
theorem dX8_of_39 : decode cX8_of 39 = .ok (.istore 4, 2) := by decide +kernel
theorem dX8_of_41 : decode cX8_of 41 = .ok (.iload_n 2, 1) := by decide +kernel
theorem dX8_of_42 : decode cX8_of 42 = .ok (.tableswitch 130 0 8 #[50, 58, 66, 74, 82, 90, 99, 102, 104], 50) := by decide +kernel
theorem dX8_of_92 : decode cX8_of 92 = .ok (.aload_n 0, 1) := by decide +kernel
theorem dX8_of_93 : decode cX8_of 93 = .ok (.iload_n 1, 1) := by decide +kernel
theorem dX8_of_94 : decode cX8_of 94 = .ok (.iconst 1, 1) := by decide +kernel
theorem dX8_of_95 : decode cX8_of 95 = .ok (.invokevirtual 136, 3) := by decide +kernel
theorem dX8_of_98 : decode cX8_of 98 = .ok (.l2i, 1) := by decide +kernel
theorem dX8_of_99 : decode cX8_of 99 = .ok (.ireturn, 1) := by decide +kernel
theorem dX8_of_100 : decode cX8_of 100 = .ok (.aload_n 0, 1) := by decide +kernel
theorem dX8_of_101 : decode cX8_of 101 = .ok (.iload_n 1, 1) := by decide +kernel
theorem dX8_of_102 : decode cX8_of 102 = .ok (.iconst 2, 1) := by decide +kernel
theorem dX8_of_103 : decode cX8_of 103 = .ok (.invokevirtual 136, 3) := by decide +kernel
theorem dX8_of_106 : decode cX8_of 106 = .ok (.l2i, 1) := by decide +kernel
theorem dX8_of_107 : decode cX8_of 107 = .ok (.ireturn, 1) := by decide +kernel
theorem dX8_of_108 : decode cX8_of 108 = .ok (.aload_n 0, 1) := by decide +kernel
theorem dX8_of_109 : decode cX8_of 109 = .ok (.iload_n 1, 1) := by decide +kernel
theorem dX8_of_110 : decode cX8_of 110 = .ok (.iconst 3, 1) := by decide +kernel
theorem dX8_of_111 : decode cX8_of 111 = .ok (.invokevirtual 136, 3) := by decide +kernel
theorem dX8_of_114 : decode cX8_of 114 = .ok (.l2i, 1) := by decide +kernel
theorem dX8_of_115 : decode cX8_of 115 = .ok (.ireturn, 1) := by decide +kernel
theorem dX8_of_116 : decode cX8_of 116 = .ok (.aload_n 0, 1) := by decide +kernel
theorem dX8_of_117 : decode cX8_of 117 = .ok (.iload_n 1, 1) := by decide +kernel
theorem dX8_of_118 : decode cX8_of 118 = .ok (.iconst 4, 1) := by decide +kernel
theorem dX8_of_119 : decode cX8_of 119 = .ok (.invokevirtual 136, 3) := by decide +kernel
theorem dX8_of_122 : decode cX8_of 122 = .ok (.l2i, 1) := by decide +kernel
theorem dX8_of_123 : decode cX8_of 123 = .ok (.ireturn, 1) := by decide +kernel
theorem dX8_of_124 : decode cX8_of 124 = .ok (.aload_n 0, 1) := by decide +kernel
theorem dX8_of_125 : decode cX8_of 125 = .ok (.iload_n 1, 1) := by decide +kernel
theorem dX8_of_126 : decode cX8_of 126 = .ok (.iconst 5, 1) := by decide +kernel
theorem dX8_of_127 : decode cX8_of 127 = .ok (.invokevirtual 136, 3) := by decide +kernel
theorem dX8_of_130 : decode cX8_of 130 = .ok (.l2i, 1) := by decide +kernel
theorem dX8_of_131 : decode cX8_of 131 = .ok (.ireturn, 1) := by decide +kernel
theorem dX8_of_132 : decode cX8_of 132 = .ok (.aload_n 0, 1) := by decide +kernel
theorem dX8_of_133 : decode cX8_of 133 = .ok (.iload_n 1, 1) := by decide +kernel
theorem dX8_of_134 : decode cX8_of 134 = .ok (.bipush 6, 2) := by decide +kernel
theorem dX8_of_136 : decode cX8_of 136 = .ok (.invokevirtual 136, 3) := by decide +kernel
theorem dX8_of_139 : decode cX8_of 139 = .ok (.l2i, 1) := by decide +kernel
theorem dX8_of_140 : decode cX8_of 140 = .ok (.ireturn, 1) := by decide +kernel
theorem dX8_of_141 : decode cX8_of 141 = .ok (.iload 4, 2) := by decide +kernel
theorem dX8_of_143 : decode cX8_of 143 = .ok (.ireturn, 1) := by decide +kernel
theorem dX8_of_144 : decode cX8_of 144 = .ok (.iload_n 3, 1) := by decide +kernel
theorem dX8_of_145 : decode cX8_of 145 = .ok (.ireturn, 1) := by decide +kernel
theorem dX8_of_146 : decode cX8_of 146 = .ok (.iload_n 3, 1) := by decide +kernel
theorem dX8_of_147 : decode cX8_of 147 = .ok (.ifCond .ne 7, 3) := by decide +kernel
theorem dX8_of_150 : decode cX8_of 150 = .ok (.iconst 0, 1) := by decide +kernel
theorem dX8_of_151 : decode cX8_of 151 = .ok (.goto 20, 3) := by decide +kernel
theorem dX8_of_154 : decode cX8_of 154 = .ok (.aload_n 0, 1) := by decide +kernel
theorem dX8_of_155 : decode cX8_of 155 = .ok (.getfield 9, 3) := by decide +kernel
theorem dX8_of_158 : decode cX8_of 158 = .ok (.sipush 2521, 3) := by decide +kernel
theorem dX8_of_161 : decode cX8_of 161 = .ok (.laload, 1) := by decide +kernel
theorem dX8_of_162 : decode cX8_of 162 = .ok (.aload_n 0, 1) := by decide +kernel
theorem dX8_of_163 : decode cX8_of 163 = .ok (.iload_n 1, 1) := by decide +kernel
theorem dX8_of_164 : decode cX8_of 164 = .ok (.bipush 15, 2) := by decide +kernel
theorem dX8_of_166 : decode cX8_of 166 = .ok (.invokevirtual 136, 3) := by decide +kernel
theorem dX8_of_169 : decode cX8_of 169 = .ok (.lsub, 1) := by decide +kernel
theorem dX8_of_170 : decode cX8_of 170 = .ok (.l2i, 1) := by decide +kernel
theorem dX8_of_171 : decode cX8_of 171 = .ok (.ireturn, 1) := by decide +kernel
theorem dX8_of_172 : decode cX8_of 172 = .ok (.iload 4, 2) := by decide +kernel
theorem dX8_of_174 : decode cX8_of 174 = .ok (.i2l, 1) := by decide +kernel
theorem dX8_of_175 : decode cX8_of 175 = .ok (.aload_n 0, 1) := by decide +kernel
theorem dX8_of_176 : decode cX8_of 176 = .ok (.iload_n 1, 1) := by decide +kernel
theorem dX8_of_177 : decode cX8_of 177 = .ok (.iconst 4, 1) := by decide +kernel
theorem dX8_of_178 : decode cX8_of 178 = .ok (.invokevirtual 136, 3) := by decide +kernel
theorem dX8_of_181 : decode cX8_of 181 = .ok (.lcmp, 1) := by decide +kernel
theorem dX8_of_182 : decode cX8_of 182 = .ok (.ifCond .ne 8, 3) := by decide +kernel
theorem dX8_of_185 : decode cX8_of 185 = .ok (.bipush (-2), 2) := by decide +kernel
theorem dX8_of_187 : decode cX8_of 187 = .ok (.goto 12, 3) := by decide +kernel
theorem dX8_of_190 : decode cX8_of 190 = .ok (.aload_n 0, 1) := by decide +kernel
theorem dX8_of_191 : decode cX8_of 191 = .ok (.iload_n 1, 1) := by decide +kernel
theorem dX8_of_192 : decode cX8_of 192 = .ok (.iload 4, 2) := by decide +kernel
theorem dX8_of_194 : decode cX8_of 194 = .ok (.iconst 1, 1) := by decide +kernel
theorem dX8_of_195 : decode cX8_of 195 = .ok (.iadd, 1) := by decide +kernel
theorem dX8_of_196 : decode cX8_of 196 = .ok (.invokevirtual 143, 3) := by decide +kernel
theorem dX8_of_199 : decode cX8_of 199 = .ok (.ireturn, 1) := by decide +kernel
theorem dX8_owed_0 : decode cX8_owed 0 = .ok (.lconst 0, 1) := by decide +kernel
theorem dX8_owed_1 : decode cX8_owed 1 = .ok (.lstore_n 2, 1) := by decide +kernel
theorem dX8_owed_2 : decode cX8_owed 2 = .ok (.iconst 0, 1) := by decide +kernel
theorem dX8_owed_3 : decode cX8_owed 3 = .ok (.istore 4, 2) := by decide +kernel
theorem dX8_owed_5 : decode cX8_owed 5 = .ok (.iload 4, 2) := by decide +kernel
theorem dX8_owed_7 : decode cX8_owed 7 = .ok (.i2l, 1) := by decide +kernel
theorem dX8_owed_8 : decode cX8_owed 8 = .ok (.aload_n 0, 1) := by decide +kernel
theorem dX8_owed_9 : decode cX8_owed 9 = .ok (.iload_n 1, 1) := by decide +kernel
theorem dX8_owed_10 : decode cX8_owed 10 = .ok (.bipush 14, 2) := by decide +kernel
theorem dX8_owed_12 : decode cX8_owed 12 = .ok (.invokevirtual 136, 3) := by decide +kernel
theorem dX8_owed_15 : decode cX8_owed 15 = .ok (.lcmp, 1) := by decide +kernel
theorem dX8_owed_16 : decode cX8_owed 16 = .ok (.ifCond .ge 19, 3) := by decide +kernel
theorem dX8_owed_19 : decode cX8_owed 19 = .ok (.lload_n 2, 1) := by decide +kernel
theorem dX8_owed_20 : decode cX8_owed 20 = .ok (.aload_n 0, 1) := by decide +kernel
theorem dX8_owed_21 : decode cX8_owed 21 = .ok (.iload_n 1, 1) := by decide +kernel
theorem dX8_owed_22 : decode cX8_owed 22 = .ok (.iload 4, 2) := by decide +kernel
theorem dX8_owed_24 : decode cX8_owed 24 = .ok (.invokevirtual 191, 3) := by decide +kernel
theorem dX8_owed_27 : decode cX8_owed 27 = .ok (.ladd, 1) := by decide +kernel
theorem dX8_owed_28 : decode cX8_owed 28 = .ok (.lstore_n 2, 1) := by decide +kernel
theorem dX8_owed_29 : decode cX8_owed 29 = .ok (.iinc 4 1, 3) := by decide +kernel
theorem dX8_owed_32 : decode cX8_owed 32 = .ok (.goto (-27), 3) := by decide +kernel
theorem dX8_owed_35 : decode cX8_owed 35 = .ok (.lload_n 2, 1) := by decide +kernel
theorem dX8_owed_36 : decode cX8_owed 36 = .ok (.lreturn, 1) := by decide +kernel
theorem dX8_sum_0 : decode cX8_sum 0 = .ok (.aload_n 0, 1) := by decide +kernel
theorem dX8_sum_1 : decode cX8_sum 1 = .ok (.iload_n 1, 1) := by decide +kernel
theorem dX8_sum_2 : decode cX8_sum 2 = .ok (.invokevirtual 197, 3) := by decide +kernel
theorem dX8_sum_5 : decode cX8_sum 5 = .ok (.ifCond .eq 15, 3) := by decide +kernel
theorem dX8_sum_8 : decode cX8_sum 8 = .ok (.iload_n 2, 1) := by decide +kernel
theorem dX8_sum_9 : decode cX8_sum 9 = .ok (.i2l, 1) := by decide +kernel
theorem dX8_sum_10 : decode cX8_sum 10 = .ok (.lconst 0, 1) := by decide +kernel
theorem dX8_sum_11 : decode cX8_sum 11 = .ok (.ldc2_w 169, 3) := by decide +kernel
theorem dX8_sum_14 : decode cX8_sum 14 = .ok (.invokestatic 85, 3) := by decide +kernel
theorem dX8_sum_17 : decode cX8_sum 17 = .ok (.ifCond .ne 7, 3) := by decide +kernel
theorem dX8_sum_20 : decode cX8_sum 20 = .ok (.ldc2_w 134, 3) := by decide +kernel
theorem dX8_sum_23 : decode cX8_sum 23 = .ok (.lreturn, 1) := by decide +kernel
theorem dX8_sum_24 : decode cX8_sum 24 = .ok (.iload_n 2, 1) := by decide +kernel
theorem dX8_sum_25 : decode cX8_sum 25 = .ok (.tableswitch 96 0 7 #[47, 54, 62, 70, 76, 76, 76, 88], 47) := by decide +kernel
theorem dX8_sum_72 : decode cX8_sum 72 = .ok (.aload_n 0, 1) := by decide +kernel
theorem dX8_sum_73 : decode cX8_sum 73 = .ok (.iload_n 1, 1) := by decide +kernel
theorem dX8_sum_74 : decode cX8_sum 74 = .ok (.iconst 0, 1) := by decide +kernel
theorem dX8_sum_75 : decode cX8_sum 75 = .ok (.invokevirtual 136, 3) := by decide +kernel
theorem dX8_sum_78 : decode cX8_sum 78 = .ok (.lreturn, 1) := by decide +kernel
theorem dX8_sum_79 : decode cX8_sum 79 = .ok (.aload_n 0, 1) := by decide +kernel
theorem dX8_sum_80 : decode cX8_sum 80 = .ok (.iload_n 1, 1) := by decide +kernel
theorem dX8_sum_81 : decode cX8_sum 81 = .ok (.bipush 8, 2) := by decide +kernel
theorem dX8_sum_83 : decode cX8_sum 83 = .ok (.invokevirtual 136, 3) := by decide +kernel
theorem dX8_sum_86 : decode cX8_sum 86 = .ok (.lreturn, 1) := by decide +kernel
theorem dX8_sum_87 : decode cX8_sum 87 = .ok (.aload_n 0, 1) := by decide +kernel
theorem dX8_sum_88 : decode cX8_sum 88 = .ok (.iload_n 1, 1) := by decide +kernel
theorem dX8_sum_89 : decode cX8_sum 89 = .ok (.bipush 9, 2) := by decide +kernel
theorem dX8_sum_91 : decode cX8_sum 91 = .ok (.invokevirtual 136, 3) := by decide +kernel
theorem dX8_sum_94 : decode cX8_sum 94 = .ok (.lreturn, 1) := by decide +kernel
theorem dX8_sum_95 : decode cX8_sum 95 = .ok (.aload_n 0, 1) := by decide +kernel
theorem dX8_sum_96 : decode cX8_sum 96 = .ok (.iload_n 1, 1) := by decide +kernel
theorem dX8_sum_97 : decode cX8_sum 97 = .ok (.invokevirtual 215, 3) := by decide +kernel
theorem dX8_sum_100 : decode cX8_sum 100 = .ok (.lreturn, 1) := by decide +kernel
theorem dX8_sum_101 : decode cX8_sum 101 = .ok (.aload_n 0, 1) := by decide +kernel
theorem dX8_sum_102 : decode cX8_sum 102 = .ok (.iload_n 1, 1) := by decide +kernel
theorem dX8_sum_103 : decode cX8_sum 103 = .ok (.bipush 10, 2) := by decide +kernel
theorem dX8_sum_105 : decode cX8_sum 105 = .ok (.iload_n 2, 1) := by decide +kernel
theorem dX8_sum_106 : decode cX8_sum 106 = .ok (.iadd, 1) := by decide +kernel
theorem dX8_sum_107 : decode cX8_sum 107 = .ok (.iconst 4, 1) := by decide +kernel
theorem dX8_sum_108 : decode cX8_sum 108 = .ok (.isub, 1) := by decide +kernel
theorem dX8_sum_109 : decode cX8_sum 109 = .ok (.invokevirtual 136, 3) := by decide +kernel
theorem dX8_sum_112 : decode cX8_sum 112 = .ok (.lreturn, 1) := by decide +kernel
theorem dX8_sum_113 : decode cX8_sum 113 = .ok (.aload_n 0, 1) := by decide +kernel
theorem dX8_sum_114 : decode cX8_sum 114 = .ok (.iload_n 1, 1) := by decide +kernel
theorem dX8_sum_115 : decode cX8_sum 115 = .ok (.bipush 13, 2) := by decide +kernel
theorem dX8_sum_117 : decode cX8_sum 117 = .ok (.invokevirtual 136, 3) := by decide +kernel
theorem dX8_sum_120 : decode cX8_sum 120 = .ok (.lreturn, 1) := by decide +kernel
theorem dX8_sum_121 : decode cX8_sum 121 = .ok (.aload_n 0, 1) := by decide +kernel
theorem dX8_sum_122 : decode cX8_sum 122 = .ok (.iload_n 1, 1) := by decide +kernel
theorem dX8_sum_123 : decode cX8_sum 123 = .ok (.invokevirtual 219, 3) := by decide +kernel
theorem dX8_sum_126 : decode cX8_sum 126 = .ok (.lconst 0, 1) := by decide +kernel
theorem dX8_sum_127 : decode cX8_sum 127 = .ok (.lstore_n 3, 1) := by decide +kernel
theorem dX8_sum_128 : decode cX8_sum 128 = .ok (.iconst 0, 1) := by decide +kernel
theorem dX8_sum_129 : decode cX8_sum 129 = .ok (.istore 5, 2) := by decide +kernel
theorem dX8_sum_131 : decode cX8_sum 131 = .ok (.iload 5, 2) := by decide +kernel
theorem dX8_sum_133 : decode cX8_sum 133 = .ok (.aload_n 0, 1) := by decide +kernel
theorem dX8_sum_134 : decode cX8_sum 134 = .ok (.getfield 222, 3) := by decide +kernel
theorem dX8_sum_137 : decode cX8_sum 137 = .ok (.if_icmp .ge 19, 3) := by decide +kernel
theorem dX8_sum_140 : decode cX8_sum 140 = .ok (.lload_n 3, 1) := by decide +kernel
theorem dX8_sum_141 : decode cX8_sum 141 = .ok (.aload_n 0, 1) := by decide +kernel
theorem dX8_sum_142 : decode cX8_sum 142 = .ok (.getfield 26, 3) := by decide +kernel
theorem dX8_sum_145 : decode cX8_sum 145 = .ok (.iload 5, 2) := by decide +kernel
theorem dX8_sum_147 : decode cX8_sum 147 = .ok (.laload, 1) := by decide +kernel
theorem dX8_sum_148 : decode cX8_sum 148 = .ok (.ladd, 1) := by decide +kernel
theorem dX8_sum_149 : decode cX8_sum 149 = .ok (.lstore_n 3, 1) := by decide +kernel
theorem dX8_sum_150 : decode cX8_sum 150 = .ok (.iinc 5 1, 3) := by decide +kernel
theorem dX8_sum_153 : decode cX8_sum 153 = .ok (.goto (-22), 3) := by decide +kernel
theorem dX8_sum_156 : decode cX8_sum 156 = .ok (.lload_n 3, 1) := by decide +kernel
theorem dX8_sum_157 : decode cX8_sum 157 = .ok (.lreturn, 1) := by decide +kernel
theorem dX8_bill_0 : decode cX8_bill 0 = .ok (.aload_n 0, 1) := by decide +kernel
theorem dX8_bill_1 : decode cX8_bill 1 = .ok (.iload_n 1, 1) := by decide +kernel
theorem dX8_bill_2 : decode cX8_bill 2 = .ok (.invokevirtual 197, 3) := by decide +kernel
theorem dX8_bill_5 : decode cX8_bill 5 = .ok (.ifCond .eq 19, 3) := by decide +kernel
theorem dX8_bill_8 : decode cX8_bill 8 = .ok (.iload_n 2, 1) := by decide +kernel
theorem dX8_bill_9 : decode cX8_bill 9 = .ok (.ifCond .lt 15, 3) := by decide +kernel
theorem dX8_bill_12 : decode cX8_bill 12 = .ok (.iload_n 3, 1) := by decide +kernel
theorem dX8_bill_13 : decode cX8_bill 13 = .ok (.i2l, 1) := by decide +kernel
theorem dX8_bill_14 : decode cX8_bill 14 = .ok (.lconst 0, 1) := by decide +kernel
theorem dX8_bill_15 : decode cX8_bill 15 = .ok (.ldc2_w 92, 3) := by decide +kernel
theorem dX8_bill_18 : decode cX8_bill 18 = .ok (.invokestatic 85, 3) := by decide +kernel
theorem dX8_bill_21 : decode cX8_bill 21 = .ok (.ifCond .ne 7, 3) := by decide +kernel
theorem dX8_bill_24 : decode cX8_bill 24 = .ok (.ldc2_w 134, 3) := by decide +kernel
theorem dX8_bill_27 : decode cX8_bill 27 = .ok (.lreturn, 1) := by decide +kernel
theorem dX8_bill_28 : decode cX8_bill 28 = .ok (.iload_n 2, 1) := by decide +kernel
theorem dX8_bill_29 : decode cX8_bill 29 = .ok (.i2l, 1) := by decide +kernel
theorem dX8_bill_30 : decode cX8_bill 30 = .ok (.aload_n 0, 1) := by decide +kernel
theorem dX8_bill_31 : decode cX8_bill 31 = .ok (.iload_n 1, 1) := by decide +kernel
theorem dX8_bill_32 : decode cX8_bill 32 = .ok (.bipush 14, 2) := by decide +kernel
theorem dX8_bill_34 : decode cX8_bill 34 = .ok (.invokevirtual 136, 3) := by decide +kernel
theorem dX8_bill_37 : decode cX8_bill 37 = .ok (.lcmp, 1) := by decide +kernel
theorem dX8_bill_38 : decode cX8_bill 38 = .ok (.ifCond .ge 19, 3) := by decide +kernel
theorem dX8_bill_41 : decode cX8_bill 41 = .ok (.aload_n 0, 1) := by decide +kernel
theorem dX8_bill_42 : decode cX8_bill 42 = .ok (.iload_n 1, 1) := by decide +kernel
theorem dX8_bill_43 : decode cX8_bill 43 = .ok (.bipush 15, 2) := by decide +kernel
theorem dX8_bill_45 : decode cX8_bill 45 = .ok (.iconst 5, 1) := by decide +kernel
theorem dX8_bill_46 : decode cX8_bill 46 = .ok (.iload_n 2, 1) := by decide +kernel
theorem dX8_bill_47 : decode cX8_bill 47 = .ok (.imul, 1) := by decide +kernel
theorem dX8_bill_48 : decode cX8_bill 48 = .ok (.iadd, 1) := by decide +kernel
theorem dX8_bill_49 : decode cX8_bill 49 = .ok (.iload_n 3, 1) := by decide +kernel
theorem dX8_bill_50 : decode cX8_bill 50 = .ok (.iadd, 1) := by decide +kernel
theorem dX8_bill_51 : decode cX8_bill 51 = .ok (.invokevirtual 136, 3) := by decide +kernel
theorem dX8_bill_54 : decode cX8_bill 54 = .ok (.goto 6, 3) := by decide +kernel
theorem dX8_bill_57 : decode cX8_bill 57 = .ok (.ldc2_w 226, 3) := by decide +kernel
theorem dX8_bill_60 : decode cX8_bill 60 = .ok (.lreturn, 1) := by decide +kernel
theorem dX8_comes_0 : decode cX8_comes 0 = .ok (.aload_n 0, 1) := by decide +kernel
theorem dX8_comes_1 : decode cX8_comes 1 = .ok (.iload_n 1, 1) := by decide +kernel
theorem dX8_comes_2 : decode cX8_comes 2 = .ok (.bipush 7, 2) := by decide +kernel
theorem dX8_comes_4 : decode cX8_comes 4 = .ok (.invokevirtual 136, 3) := by decide +kernel
theorem dX8_comes_7 : decode cX8_comes 7 = .ok (.l2i, 1) := by decide +kernel
theorem dX8_comes_8 : decode cX8_comes 8 = .ok (.istore_n 2, 1) := by decide +kernel
theorem dX8_comes_9 : decode cX8_comes 9 = .ok (.aload_n 0, 1) := by decide +kernel
theorem dX8_comes_10 : decode cX8_comes 10 = .ok (.aload_n 0, 1) := by decide +kernel
theorem dX8_comes_11 : decode cX8_comes 11 = .ok (.iload_n 1, 1) := by decide +kernel
theorem dX8_comes_12 : decode cX8_comes 12 = .ok (.iconst 4, 1) := by decide +kernel
theorem dX8_comes_13 : decode cX8_comes 13 = .ok (.invokevirtual 136, 3) := by decide +kernel
theorem dX8_comes_16 : decode cX8_comes 16 = .ok (.l2i, 1) := by decide +kernel
theorem dX8_comes_17 : decode cX8_comes 17 = .ok (.iload_n 2, 1) := by decide +kernel
theorem dX8_comes_18 : decode cX8_comes 18 = .ok (.isub, 1) := by decide +kernel
theorem dX8_comes_19 : decode cX8_comes 19 = .ok (.putfield 222, 3) := by decide +kernel
theorem dX8_comes_22 : decode cX8_comes 22 = .ok (.aload_n 0, 1) := by decide +kernel
theorem dX8_comes_23 : decode cX8_comes 23 = .ok (.iload_n 1, 1) := by decide +kernel
theorem dX8_comes_24 : decode cX8_comes 24 = .ok (.bipush 8, 2) := by decide +kernel
theorem dX8_comes_26 : decode cX8_comes 26 = .ok (.invokevirtual 136, 3) := by decide +kernel
theorem dX8_comes_29 : decode cX8_comes 29 = .ok (.lstore_n 3, 1) := by decide +kernel
theorem dX8_comes_30 : decode cX8_comes 30 = .ok (.iconst 0, 1) := by decide +kernel
theorem dX8_comes_31 : decode cX8_comes 31 = .ok (.istore 5, 2) := by decide +kernel
theorem dX8_comes_33 : decode cX8_comes 33 = .ok (.iload 5, 2) := by decide +kernel
theorem dX8_comes_35 : decode cX8_comes 35 = .ok (.aload_n 0, 1) := by decide +kernel
theorem dX8_comes_36 : decode cX8_comes 36 = .ok (.getfield 222, 3) := by decide +kernel
theorem dX8_comes_39 : decode cX8_comes 39 = .ok (.if_icmp .ge 86, 3) := by decide +kernel
theorem dX8_comes_42 : decode cX8_comes 42 = .ok (.aload_n 0, 1) := by decide +kernel
theorem dX8_comes_43 : decode cX8_comes 43 = .ok (.getfield 22, 3) := by decide +kernel
theorem dX8_comes_46 : decode cX8_comes 46 = .ok (.iload 5, 2) := by decide +kernel
theorem dX8_comes_48 : decode cX8_comes 48 = .ok (.aload_n 0, 1) := by decide +kernel
theorem dX8_comes_49 : decode cX8_comes 49 = .ok (.iload_n 1, 1) := by decide +kernel
theorem dX8_comes_50 : decode cX8_comes 50 = .ok (.iload_n 2, 1) := by decide +kernel
theorem dX8_comes_51 : decode cX8_comes 51 = .ok (.iload 5, 2) := by decide +kernel
theorem dX8_comes_53 : decode cX8_comes 53 = .ok (.iadd, 1) := by decide +kernel
theorem dX8_comes_54 : decode cX8_comes 54 = .ok (.iconst 1, 1) := by decide +kernel
theorem dX8_comes_55 : decode cX8_comes 55 = .ok (.iadd, 1) := by decide +kernel
theorem dX8_comes_56 : decode cX8_comes 56 = .ok (.invokevirtual 143, 3) := by decide +kernel
theorem dX8_comes_59 : decode cX8_comes 59 = .ok (.iastore, 1) := by decide +kernel
theorem dX8_comes_60 : decode cX8_comes 60 = .ok (.aload_n 0, 1) := by decide +kernel
theorem dX8_comes_61 : decode cX8_comes 61 = .ok (.getfield 26, 3) := by decide +kernel
theorem dX8_comes_64 : decode cX8_comes 64 = .ok (.iload 5, 2) := by decide +kernel
theorem dX8_comes_66 : decode cX8_comes 66 = .ok (.aload_n 0, 1) := by decide +kernel
theorem dX8_comes_67 : decode cX8_comes 67 = .ok (.iload_n 1, 1) := by decide +kernel
theorem dX8_comes_68 : decode cX8_comes 68 = .ok (.lload_n 3, 1) := by decide +kernel
theorem dX8_comes_69 : decode cX8_comes 69 = .ok (.iload_n 2, 1) := by decide +kernel
theorem dX8_comes_70 : decode cX8_comes 70 = .ok (.iload 5, 2) := by decide +kernel
theorem dX8_comes_72 : decode cX8_comes 72 = .ok (.iadd, 1) := by decide +kernel
theorem dX8_comes_73 : decode cX8_comes 73 = .ok (.invokevirtual 146, 3) := by decide +kernel
theorem dX8_comes_76 : decode cX8_comes 76 = .ok (.lastore, 1) := by decide +kernel
theorem dX8_comes_77 : decode cX8_comes 77 = .ok (.aload_n 0, 1) := by decide +kernel
theorem dX8_comes_78 : decode cX8_comes 78 = .ok (.getfield 29, 3) := by decide +kernel
theorem dX8_comes_81 : decode cX8_comes 81 = .ok (.iload 5, 2) := by decide +kernel
theorem dX8_comes_83 : decode cX8_comes 83 = .ok (.aload_n 0, 1) := by decide +kernel
theorem dX8_comes_84 : decode cX8_comes 84 = .ok (.iload_n 1, 1) := by decide +kernel
theorem dX8_comes_85 : decode cX8_comes 85 = .ok (.lload_n 3, 1) := by decide +kernel
theorem dX8_comes_86 : decode cX8_comes 86 = .ok (.aload_n 0, 1) := by decide +kernel
theorem dX8_comes_87 : decode cX8_comes 87 = .ok (.getfield 26, 3) := by decide +kernel
theorem dX8_comes_90 : decode cX8_comes 90 = .ok (.iload 5, 2) := by decide +kernel
theorem dX8_comes_92 : decode cX8_comes 92 = .ok (.laload, 1) := by decide +kernel
theorem dX8_comes_93 : decode cX8_comes 93 = .ok (.iload_n 2, 1) := by decide +kernel
theorem dX8_comes_94 : decode cX8_comes 94 = .ok (.iload 5, 2) := by decide +kernel
theorem dX8_comes_96 : decode cX8_comes 96 = .ok (.iadd, 1) := by decide +kernel
theorem dX8_comes_97 : decode cX8_comes 97 = .ok (.invokevirtual 175, 3) := by decide +kernel
theorem dX8_comes_100 : decode cX8_comes 100 = .ok (.lastore, 1) := by decide +kernel
theorem dX8_comes_101 : decode cX8_comes 101 = .ok (.lload_n 3, 1) := by decide +kernel
theorem dX8_comes_102 : decode cX8_comes 102 = .ok (.aload_n 0, 1) := by decide +kernel
theorem dX8_comes_103 : decode cX8_comes 103 = .ok (.getfield 29, 3) := by decide +kernel
theorem dX8_comes_106 : decode cX8_comes 106 = .ok (.iload 5, 2) := by decide +kernel
theorem dX8_comes_108 : decode cX8_comes 108 = .ok (.laload, 1) := by decide +kernel
theorem dX8_comes_109 : decode cX8_comes 109 = .ok (.lsub, 1) := by decide +kernel
theorem dX8_comes_110 : decode cX8_comes 110 = .ok (.lstore_n 3, 1) := by decide +kernel
theorem dX8_comes_111 : decode cX8_comes 111 = .ok (.aload_n 0, 1) := by decide +kernel
theorem dX8_comes_112 : decode cX8_comes 112 = .ok (.getfield 32, 3) := by decide +kernel
theorem dX8_comes_115 : decode cX8_comes 115 = .ok (.iload 5, 2) := by decide +kernel
theorem dX8_comes_117 : decode cX8_comes 117 = .ok (.lload_n 3, 1) := by decide +kernel
theorem dX8_comes_118 : decode cX8_comes 118 = .ok (.lastore, 1) := by decide +kernel
theorem dX8_comes_119 : decode cX8_comes 119 = .ok (.iinc 5 1, 3) := by decide +kernel
theorem dX8_comes_122 : decode cX8_comes 122 = .ok (.goto (-89), 3) := by decide +kernel
theorem dX8_comes_125 : decode cX8_comes 125 = .ok (.return_, 1) := by decide +kernel
theorem dX8_flow_0 : decode cX8_flow 0 = .ok (.aload_n 0, 1) := by decide +kernel
theorem dX8_flow_1 : decode cX8_flow 1 = .ok (.getfield 26, 3) := by decide +kernel
theorem dX8_flow_4 : decode cX8_flow 4 = .ok (.iload_n 1, 1) := by decide +kernel
theorem dX8_flow_5 : decode cX8_flow 5 = .ok (.laload, 1) := by decide +kernel
theorem dX8_flow_6 : decode cX8_flow 6 = .ok (.aload_n 0, 1) := by decide +kernel
theorem dX8_flow_7 : decode cX8_flow 7 = .ok (.getfield 29, 3) := by decide +kernel
theorem dX8_flow_10 : decode cX8_flow 10 = .ok (.iload_n 1, 1) := by decide +kernel
theorem dX8_flow_11 : decode cX8_flow 11 = .ok (.laload, 1) := by decide +kernel
theorem dX8_flow_12 : decode cX8_flow 12 = .ok (.ladd, 1) := by decide +kernel
theorem dX8_flow_13 : decode cX8_flow 13 = .ok (.lreturn, 1) := by decide +kernel
theorem dX8_nth_0 : decode cX8_nth 0 = .ok (.iconst 0, 1) := by decide +kernel
theorem dX8_nth_1 : decode cX8_nth 1 = .ok (.istore_n 2, 1) := by decide +kernel
theorem dX8_nth_2 : decode cX8_nth 2 = .ok (.iconst 0, 1) := by decide +kernel
theorem dX8_nth_3 : decode cX8_nth 3 = .ok (.istore_n 3, 1) := by decide +kernel
theorem dX8_nth_4 : decode cX8_nth 4 = .ok (.iload_n 3, 1) := by decide +kernel
theorem dX8_nth_5 : decode cX8_nth 5 = .ok (.aload_n 0, 1) := by decide +kernel
theorem dX8_nth_6 : decode cX8_nth 6 = .ok (.getfield 222, 3) := by decide +kernel
theorem dX8_nth_9 : decode cX8_nth 9 = .ok (.if_icmp .ge 29, 3) := by decide +kernel
theorem dX8_nth_12 : decode cX8_nth 12 = .ok (.aload_n 0, 1) := by decide +kernel
theorem dX8_nth_13 : decode cX8_nth 13 = .ok (.iload_n 3, 1) := by decide +kernel
theorem dX8_nth_14 : decode cX8_nth 14 = .ok (.invokevirtual 228, 3) := by decide +kernel
theorem dX8_nth_17 : decode cX8_nth 17 = .ok (.lconst 0, 1) := by decide +kernel
theorem dX8_nth_18 : decode cX8_nth 18 = .ok (.lcmp, 1) := by decide +kernel
theorem dX8_nth_19 : decode cX8_nth 19 = .ok (.ifCond .le 13, 3) := by decide +kernel
theorem dX8_nth_22 : decode cX8_nth 22 = .ok (.iload_n 2, 1) := by decide +kernel
theorem dX8_nth_23 : decode cX8_nth 23 = .ok (.iload_n 1, 1) := by decide +kernel
theorem dX8_nth_24 : decode cX8_nth 24 = .ok (.if_icmp .ne 5, 3) := by decide +kernel
theorem dX8_nth_27 : decode cX8_nth 27 = .ok (.iload_n 3, 1) := by decide +kernel
theorem dX8_nth_28 : decode cX8_nth 28 = .ok (.ireturn, 1) := by decide +kernel
theorem dX8_nth_29 : decode cX8_nth 29 = .ok (.iinc 2 1, 3) := by decide +kernel
theorem dX8_nth_32 : decode cX8_nth 32 = .ok (.iinc 3 1, 3) := by decide +kernel
theorem dX8_nth_35 : decode cX8_nth 35 = .ok (.goto (-31), 3) := by decide +kernel
theorem dX8_nth_38 : decode cX8_nth 38 = .ok (.bipush (-2), 2) := by decide +kernel
theorem dX8_nth_40 : decode cX8_nth 40 = .ok (.ireturn, 1) := by decide +kernel
theorem dX8_toCome_0 : decode cX8_toCome 0 = .ok (.aload_n 0, 1) := by decide +kernel
theorem dX8_toCome_1 : decode cX8_toCome 1 = .ok (.iload_n 1, 1) := by decide +kernel
theorem dX8_toCome_2 : decode cX8_toCome 2 = .ok (.invokevirtual 197, 3) := by decide +kernel
theorem dX8_toCome_5 : decode cX8_toCome 5 = .ok (.ifCond .eq 19, 3) := by decide +kernel
theorem dX8_toCome_8 : decode cX8_toCome 8 = .ok (.iload_n 2, 1) := by decide +kernel
theorem dX8_toCome_9 : decode cX8_toCome 9 = .ok (.ifCond .lt 15, 3) := by decide +kernel
theorem dX8_toCome_12 : decode cX8_toCome 12 = .ok (.iload_n 3, 1) := by decide +kernel
theorem dX8_toCome_13 : decode cX8_toCome 13 = .ok (.i2l, 1) := by decide +kernel
theorem dX8_toCome_14 : decode cX8_toCome 14 = .ok (.lconst 0, 1) := by decide +kernel
theorem dX8_toCome_15 : decode cX8_toCome 15 = .ok (.ldc2_w 92, 3) := by decide +kernel
theorem dX8_toCome_18 : decode cX8_toCome 18 = .ok (.invokestatic 85, 3) := by decide +kernel
theorem dX8_toCome_21 : decode cX8_toCome 21 = .ok (.ifCond .ne 7, 3) := by decide +kernel
theorem dX8_toCome_24 : decode cX8_toCome 24 = .ok (.ldc2_w 134, 3) := by decide +kernel
theorem dX8_toCome_27 : decode cX8_toCome 27 = .ok (.lreturn, 1) := by decide +kernel
theorem dX8_toCome_28 : decode cX8_toCome 28 = .ok (.aload_n 0, 1) := by decide +kernel
theorem dX8_toCome_29 : decode cX8_toCome 29 = .ok (.iload_n 1, 1) := by decide +kernel
theorem dX8_toCome_30 : decode cX8_toCome 30 = .ok (.invokevirtual 219, 3) := by decide +kernel
theorem dX8_toCome_33 : decode cX8_toCome 33 = .ok (.aload_n 0, 1) := by decide +kernel
theorem dX8_toCome_34 : decode cX8_toCome 34 = .ok (.iload_n 2, 1) := by decide +kernel
theorem dX8_toCome_35 : decode cX8_toCome 35 = .ok (.invokevirtual 231, 3) := by decide +kernel
theorem dX8_toCome_38 : decode cX8_toCome 38 = .ok (.istore 4, 2) := by decide +kernel
theorem dX8_toCome_40 : decode cX8_toCome 40 = .ok (.iload 4, 2) := by decide +kernel
theorem dX8_toCome_42 : decode cX8_toCome 42 = .ok (.ifCond .ge 7, 3) := by decide +kernel
theorem dX8_toCome_45 : decode cX8_toCome 45 = .ok (.ldc2_w 226, 3) := by decide +kernel
theorem dX8_toCome_48 : decode cX8_toCome 48 = .ok (.lreturn, 1) := by decide +kernel
theorem dX8_toCome_49 : decode cX8_toCome 49 = .ok (.iload_n 3, 1) := by decide +kernel
theorem dX8_toCome_50 : decode cX8_toCome 50 = .ok (.ifCond .ne 14, 3) := by decide +kernel
theorem dX8_toCome_53 : decode cX8_toCome 53 = .ok (.aload_n 0, 1) := by decide +kernel
theorem dX8_toCome_54 : decode cX8_toCome 54 = .ok (.getfield 22, 3) := by decide +kernel
theorem dX8_toCome_57 : decode cX8_toCome 57 = .ok (.iload 4, 2) := by decide +kernel
theorem dX8_toCome_59 : decode cX8_toCome 59 = .ok (.iaload, 1) := by decide +kernel
theorem dX8_toCome_60 : decode cX8_toCome 60 = .ok (.i2l, 1) := by decide +kernel
theorem dX8_toCome_61 : decode cX8_toCome 61 = .ok (.goto 40, 3) := by decide +kernel
theorem dX8_toCome_64 : decode cX8_toCome 64 = .ok (.iload_n 3, 1) := by decide +kernel
theorem dX8_toCome_65 : decode cX8_toCome 65 = .ok (.iconst 1, 1) := by decide +kernel
theorem dX8_toCome_66 : decode cX8_toCome 66 = .ok (.if_icmp .ne 13, 3) := by decide +kernel
theorem dX8_toCome_69 : decode cX8_toCome 69 = .ok (.aload_n 0, 1) := by decide +kernel
theorem dX8_toCome_70 : decode cX8_toCome 70 = .ok (.getfield 26, 3) := by decide +kernel
theorem dX8_toCome_73 : decode cX8_toCome 73 = .ok (.iload 4, 2) := by decide +kernel
theorem dX8_toCome_75 : decode cX8_toCome 75 = .ok (.laload, 1) := by decide +kernel
theorem dX8_toCome_76 : decode cX8_toCome 76 = .ok (.goto 25, 3) := by decide +kernel
theorem dX8_toCome_79 : decode cX8_toCome 79 = .ok (.iload_n 3, 1) := by decide +kernel
theorem dX8_toCome_80 : decode cX8_toCome 80 = .ok (.iconst 2, 1) := by decide +kernel
theorem dX8_toCome_81 : decode cX8_toCome 81 = .ok (.if_icmp .ne 13, 3) := by decide +kernel
theorem dX8_toCome_84 : decode cX8_toCome 84 = .ok (.aload_n 0, 1) := by decide +kernel
theorem dX8_toCome_85 : decode cX8_toCome 85 = .ok (.getfield 29, 3) := by decide +kernel
theorem dX8_toCome_88 : decode cX8_toCome 88 = .ok (.iload 4, 2) := by decide +kernel
theorem dX8_toCome_90 : decode cX8_toCome 90 = .ok (.laload, 1) := by decide +kernel
theorem dX8_toCome_91 : decode cX8_toCome 91 = .ok (.goto 10, 3) := by decide +kernel
theorem dX8_toCome_94 : decode cX8_toCome 94 = .ok (.aload_n 0, 1) := by decide +kernel
theorem dX8_toCome_95 : decode cX8_toCome 95 = .ok (.getfield 32, 3) := by decide +kernel
theorem dX8_toCome_98 : decode cX8_toCome 98 = .ok (.iload 4, 2) := by decide +kernel
theorem dX8_toCome_100 : decode cX8_toCome 100 = .ok (.laload, 1) := by decide +kernel
theorem dX8_toCome_101 : decode cX8_toCome 101 = .ok (.lreturn, 1) := by decide +kernel
theorem dX8_coming_0 : decode cX8_coming 0 = .ok (.aload_n 0, 1) := by decide +kernel
theorem dX8_coming_1 : decode cX8_coming 1 = .ok (.iload_n 1, 1) := by decide +kernel
theorem dX8_coming_2 : decode cX8_coming 2 = .ok (.invokevirtual 197, 3) := by decide +kernel
theorem dX8_coming_5 : decode cX8_coming 5 = .ok (.ifCond .eq 15, 3) := by decide +kernel
theorem dX8_coming_8 : decode cX8_coming 8 = .ok (.iload_n 2, 1) := by decide +kernel
theorem dX8_coming_9 : decode cX8_coming 9 = .ok (.i2l, 1) := by decide +kernel
theorem dX8_coming_10 : decode cX8_coming 10 = .ok (.lconst 0, 1) := by decide +kernel
theorem dX8_coming_11 : decode cX8_coming 11 = .ok (.ldc2_w 124, 3) := by decide +kernel
theorem dX8_coming_14 : decode cX8_coming 14 = .ok (.invokestatic 85, 3) := by decide +kernel
theorem dX8_coming_17 : decode cX8_coming 17 = .ok (.ifCond .ne 7, 3) := by decide +kernel
theorem dX8_coming_20 : decode cX8_coming 20 = .ok (.ldc2_w 134, 3) := by decide +kernel
theorem dX8_coming_23 : decode cX8_coming 23 = .ok (.lreturn, 1) := by decide +kernel
theorem dX8_coming_24 : decode cX8_coming 24 = .ok (.aload_n 0, 1) := by decide +kernel
theorem dX8_coming_25 : decode cX8_coming 25 = .ok (.iload_n 1, 1) := by decide +kernel
theorem dX8_coming_26 : decode cX8_coming 26 = .ok (.invokevirtual 219, 3) := by decide +kernel
theorem dX8_coming_29 : decode cX8_coming 29 = .ok (.iconst 0, 1) := by decide +kernel
theorem dX8_coming_30 : decode cX8_coming 30 = .ok (.istore_n 3, 1) := by decide +kernel
theorem dX8_coming_31 : decode cX8_coming 31 = .ok (.ldc2_w 226, 3) := by decide +kernel
theorem dX8_coming_34 : decode cX8_coming 34 = .ok (.lstore 4, 2) := by decide +kernel
theorem dX8_coming_36 : decode cX8_coming 36 = .ok (.lconst 0, 1) := by decide +kernel
theorem dX8_coming_37 : decode cX8_coming 37 = .ok (.lstore 6, 2) := by decide +kernel
theorem dX8_coming_39 : decode cX8_coming 39 = .ok (.iconst 0, 1) := by decide +kernel
theorem dX8_coming_40 : decode cX8_coming 40 = .ok (.istore 8, 2) := by decide +kernel
theorem dX8_coming_42 : decode cX8_coming 42 = .ok (.iload 8, 2) := by decide +kernel
theorem dX8_coming_44 : decode cX8_coming 44 = .ok (.aload_n 0, 1) := by decide +kernel
theorem dX8_coming_45 : decode cX8_coming 45 = .ok (.getfield 222, 3) := by decide +kernel
theorem dX8_coming_48 : decode cX8_coming 48 = .ok (.if_icmp .ge 58, 3) := by decide +kernel
theorem dX8_coming_51 : decode cX8_coming 51 = .ok (.aload_n 0, 1) := by decide +kernel
theorem dX8_coming_52 : decode cX8_coming 52 = .ok (.iload 8, 2) := by decide +kernel
theorem dX8_coming_54 : decode cX8_coming 54 = .ok (.invokevirtual 228, 3) := by decide +kernel
theorem dX8_coming_57 : decode cX8_coming 57 = .ok (.lconst 0, 1) := by decide +kernel
theorem dX8_coming_58 : decode cX8_coming 58 = .ok (.lcmp, 1) := by decide +kernel
theorem dX8_coming_59 : decode cX8_coming 59 = .ok (.ifCond .le 41, 3) := by decide +kernel
theorem dX8_coming_62 : decode cX8_coming 62 = .ok (.iinc 3 1, 3) := by decide +kernel
theorem dX8_coming_65 : decode cX8_coming 65 = .ok (.aload_n 0, 1) := by decide +kernel
theorem dX8_coming_66 : decode cX8_coming 66 = .ok (.getfield 22, 3) := by decide +kernel
theorem dX8_coming_69 : decode cX8_coming 69 = .ok (.iload 8, 2) := by decide +kernel
theorem dX8_coming_71 : decode cX8_coming 71 = .ok (.iaload, 1) := by decide +kernel
theorem dX8_coming_72 : decode cX8_coming 72 = .ok (.i2l, 1) := by decide +kernel
theorem dX8_coming_73 : decode cX8_coming 73 = .ok (.lstore 4, 2) := by decide +kernel
theorem dX8_coming_75 : decode cX8_coming 75 = .ok (.aload_n 0, 1) := by decide +kernel
theorem dX8_coming_76 : decode cX8_coming 76 = .ok (.iload 8, 2) := by decide +kernel
theorem dX8_coming_78 : decode cX8_coming 78 = .ok (.invokevirtual 228, 3) := by decide +kernel
theorem dX8_coming_81 : decode cX8_coming 81 = .ok (.lload 6, 2) := by decide +kernel
theorem dX8_coming_83 : decode cX8_coming 83 = .ok (.lcmp, 1) := by decide +kernel
theorem dX8_coming_84 : decode cX8_coming 84 = .ok (.ifCond .le 12, 3) := by decide +kernel
theorem dX8_coming_87 : decode cX8_coming 87 = .ok (.aload_n 0, 1) := by decide +kernel
theorem dX8_coming_88 : decode cX8_coming 88 = .ok (.iload 8, 2) := by decide +kernel
theorem dX8_coming_90 : decode cX8_coming 90 = .ok (.invokevirtual 228, 3) := by decide +kernel
theorem dX8_coming_93 : decode cX8_coming 93 = .ok (.goto 5, 3) := by decide +kernel
theorem dX8_coming_96 : decode cX8_coming 96 = .ok (.lload 6, 2) := by decide +kernel
theorem dX8_coming_98 : decode cX8_coming 98 = .ok (.lstore 6, 2) := by decide +kernel
theorem dX8_coming_100 : decode cX8_coming 100 = .ok (.iinc 8 1, 3) := by decide +kernel
theorem dX8_coming_103 : decode cX8_coming 103 = .ok (.goto (-61), 3) := by decide +kernel
theorem dX8_coming_106 : decode cX8_coming 106 = .ok (.iload_n 2, 1) := by decide +kernel
theorem dX8_coming_107 : decode cX8_coming 107 = .ok (.ifCond .ne 8, 3) := by decide +kernel
theorem dX8_coming_110 : decode cX8_coming 110 = .ok (.iload_n 3, 1) := by decide +kernel
theorem dX8_coming_111 : decode cX8_coming 111 = .ok (.i2l, 1) := by decide +kernel
theorem dX8_coming_112 : decode cX8_coming 112 = .ok (.goto 15, 3) := by decide +kernel
theorem dX8_coming_115 : decode cX8_coming 115 = .ok (.iload_n 2, 1) := by decide +kernel
theorem dX8_coming_116 : decode cX8_coming 116 = .ok (.iconst 1, 1) := by decide +kernel
theorem dX8_coming_117 : decode cX8_coming 117 = .ok (.if_icmp .ne 8, 3) := by decide +kernel
theorem dX8_coming_120 : decode cX8_coming 120 = .ok (.lload 4, 2) := by decide +kernel
theorem dX8_coming_122 : decode cX8_coming 122 = .ok (.goto 5, 3) := by decide +kernel
theorem dX8_coming_125 : decode cX8_coming 125 = .ok (.lload 6, 2) := by decide +kernel
theorem dX8_coming_127 : decode cX8_coming 127 = .ok (.lreturn, 1) := by decide +kernel
theorem dX8_valueOf_0 : decode cX8_valueOf 0 = .ok (.dconst 0, 1) := by decide +kernel
theorem dX8_valueOf_1 : decode cX8_valueOf 1 = .ok (.dstore 4, 2) := by decide +kernel
theorem dX8_valueOf_3 : decode cX8_valueOf 3 = .ok (.aload_n 0, 1) := by decide +kernel
theorem dX8_valueOf_4 : decode cX8_valueOf 4 = .ok (.getfield 222, 3) := by decide +kernel
theorem dX8_valueOf_7 : decode cX8_valueOf 7 = .ok (.iconst 1, 1) := by decide +kernel
theorem dX8_valueOf_8 : decode cX8_valueOf 8 = .ok (.isub, 1) := by decide +kernel
theorem dX8_valueOf_9 : decode cX8_valueOf 9 = .ok (.istore 6, 2) := by decide +kernel
theorem dX8_valueOf_11 : decode cX8_valueOf 11 = .ok (.iload 6, 2) := by decide +kernel
theorem dX8_valueOf_13 : decode cX8_valueOf 13 = .ok (.ifCond .lt 49, 3) := by decide +kernel
theorem dX8_valueOf_16 : decode cX8_valueOf 16 = .ok (.iload_n 3, 1) := by decide +kernel
theorem dX8_valueOf_17 : decode cX8_valueOf 17 = .ok (.ifCond .eq 19, 3) := by decide +kernel
theorem dX8_valueOf_20 : decode cX8_valueOf 20 = .ok (.aload_n 0, 1) := by decide +kernel
theorem dX8_valueOf_21 : decode cX8_valueOf 21 = .ok (.iload 6, 2) := by decide +kernel
theorem dX8_valueOf_23 : decode cX8_valueOf 23 = .ok (.invokevirtual 228, 3) := by decide +kernel
theorem dX8_valueOf_26 : decode cX8_valueOf 26 = .ok (.iload 6, 2) := by decide +kernel
theorem dX8_valueOf_28 : decode cX8_valueOf 28 = .ok (.iconst 1, 1) := by decide +kernel
theorem dX8_valueOf_29 : decode cX8_valueOf 29 = .ok (.iadd, 1) := by decide +kernel
theorem dX8_valueOf_30 : decode cX8_valueOf 30 = .ok (.i2l, 1) := by decide +kernel
theorem dX8_valueOf_31 : decode cX8_valueOf 31 = .ok (.lmul, 1) := by decide +kernel
theorem dX8_valueOf_32 : decode cX8_valueOf 32 = .ok (.l2d, 1) := by decide +kernel
theorem dX8_valueOf_33 : decode cX8_valueOf 33 = .ok (.goto 10, 3) := by decide +kernel
theorem dX8_valueOf_36 : decode cX8_valueOf 36 = .ok (.aload_n 0, 1) := by decide +kernel
theorem dX8_valueOf_37 : decode cX8_valueOf 37 = .ok (.iload 6, 2) := by decide +kernel
theorem dX8_valueOf_39 : decode cX8_valueOf 39 = .ok (.invokevirtual 228, 3) := by decide +kernel
theorem dX8_valueOf_42 : decode cX8_valueOf 42 = .ok (.l2d, 1) := by decide +kernel
theorem dX8_valueOf_43 : decode cX8_valueOf 43 = .ok (.dstore 7, 2) := by decide +kernel
theorem dX8_valueOf_45 : decode cX8_valueOf 45 = .ok (.dload 4, 2) := by decide +kernel
theorem dX8_valueOf_47 : decode cX8_valueOf 47 = .ok (.dload 7, 2) := by decide +kernel
theorem dX8_valueOf_49 : decode cX8_valueOf 49 = .ok (.dadd, 1) := by decide +kernel
theorem dX8_valueOf_50 : decode cX8_valueOf 50 = .ok (.dconst 1, 1) := by decide +kernel
theorem dX8_valueOf_51 : decode cX8_valueOf 51 = .ok (.dload_n 1, 1) := by decide +kernel
theorem dX8_valueOf_52 : decode cX8_valueOf 52 = .ok (.dadd, 1) := by decide +kernel
theorem dX8_valueOf_53 : decode cX8_valueOf 53 = .ok (.ddiv, 1) := by decide +kernel
theorem dX8_valueOf_54 : decode cX8_valueOf 54 = .ok (.dstore 4, 2) := by decide +kernel
theorem dX8_valueOf_56 : decode cX8_valueOf 56 = .ok (.iinc 6 (-1), 3) := by decide +kernel
theorem dX8_valueOf_59 : decode cX8_valueOf 59 = .ok (.goto (-48), 3) := by decide +kernel
theorem dX8_valueOf_62 : decode cX8_valueOf 62 = .ok (.dload 4, 2) := by decide +kernel
theorem dX8_valueOf_64 : decode cX8_valueOf 64 = .ok (.dreturn, 1) := by decide +kernel
theorem dX8_isRate_0 : decode cX8_isRate 0 = .ok (.dload_n 0, 1) := by decide +kernel
theorem dX8_isRate_1 : decode cX8_isRate 1 = .ok (.dconst 0, 1) := by decide +kernel
theorem dX8_isRate_2 : decode cX8_isRate 2 = .ok (.dcmp .l, 1) := by decide +kernel
theorem dX8_isRate_3 : decode cX8_isRate 3 = .ok (.ifCond .lt 15, 3) := by decide +kernel
theorem dX8_isRate_6 : decode cX8_isRate 6 = .ok (.dload_n 0, 1) := by decide +kernel
theorem dX8_isRate_7 : decode cX8_isRate 7 = .ok (.ldc2_w 234, 3) := by decide +kernel
theorem dX8_isRate_10 : decode cX8_isRate 10 = .ok (.dcmp .g, 1) := by decide +kernel
theorem dX8_isRate_11 : decode cX8_isRate 11 = .ok (.ifCond .gt 7, 3) := by decide +kernel
theorem dX8_isRate_14 : decode cX8_isRate 14 = .ok (.iconst 1, 1) := by decide +kernel
theorem dX8_isRate_15 : decode cX8_isRate 15 = .ok (.goto 4, 3) := by decide +kernel
theorem dX8_isRate_18 : decode cX8_isRate 18 = .ok (.iconst 0, 1) := by decide +kernel
theorem dX8_isRate_19 : decode cX8_isRate 19 = .ok (.ireturn, 1) := by decide +kernel
theorem dX8_value_0 : decode cX8_value 0 = .ok (.lload_n 2, 1) := by decide +kernel
theorem dX8_value_1 : decode cX8_value 1 = .ok (.invokestatic 236, 3) := by decide +kernel
theorem dX8_value_4 : decode cX8_value 4 = .ok (.dstore 4, 2) := by decide +kernel
theorem dX8_value_6 : decode cX8_value 6 = .ok (.aload_n 0, 1) := by decide +kernel
theorem dX8_value_7 : decode cX8_value 7 = .ok (.iload_n 1, 1) := by decide +kernel
theorem dX8_value_8 : decode cX8_value 8 = .ok (.invokevirtual 197, 3) := by decide +kernel
theorem dX8_value_11 : decode cX8_value 11 = .ok (.ifCond .eq 11, 3) := by decide +kernel
theorem dX8_value_14 : decode cX8_value 14 = .ok (.dload 4, 2) := by decide +kernel
theorem dX8_value_16 : decode cX8_value 16 = .ok (.invokestatic 242, 3) := by decide +kernel
theorem dX8_value_19 : decode cX8_value 19 = .ok (.ifCond .ne 5, 3) := by decide +kernel
theorem dX8_value_22 : decode cX8_value 22 = .ok (.lconst 0, 1) := by decide +kernel
theorem dX8_value_23 : decode cX8_value 23 = .ok (.lreturn, 1) := by decide +kernel
theorem dX8_value_24 : decode cX8_value 24 = .ok (.aload_n 0, 1) := by decide +kernel
theorem dX8_value_25 : decode cX8_value 25 = .ok (.iload_n 1, 1) := by decide +kernel
theorem dX8_value_26 : decode cX8_value 26 = .ok (.invokevirtual 219, 3) := by decide +kernel
theorem dX8_value_29 : decode cX8_value 29 = .ok (.aload_n 0, 1) := by decide +kernel
theorem dX8_value_30 : decode cX8_value 30 = .ok (.dload 4, 2) := by decide +kernel
theorem dX8_value_32 : decode cX8_value 32 = .ok (.iconst 0, 1) := by decide +kernel
theorem dX8_value_33 : decode cX8_value 33 = .ok (.invokevirtual 246, 3) := by decide +kernel
theorem dX8_value_36 : decode cX8_value 36 = .ok (.invokestatic 250, 3) := by decide +kernel
theorem dX8_value_39 : decode cX8_value 39 = .ok (.lreturn, 1) := by decide +kernel
theorem dX8_yields_0 : decode cX8_yields 0 = .ok (.dconst 0, 1) := by decide +kernel
theorem dX8_yields_1 : decode cX8_yields 1 = .ok (.dstore_n 3, 1) := by decide +kernel
theorem dX8_yields_2 : decode cX8_yields 2 = .ok (.dconst 1, 1) := by decide +kernel
theorem dX8_yields_3 : decode cX8_yields 3 = .ok (.dstore 5, 2) := by decide +kernel
theorem dX8_yields_5 : decode cX8_yields 5 = .ok (.iconst 0, 1) := by decide +kernel
theorem dX8_yields_6 : decode cX8_yields 6 = .ok (.istore 7, 2) := by decide +kernel
theorem dX8_yields_8 : decode cX8_yields 8 = .ok (.iload 7, 2) := by decide +kernel
theorem dX8_yields_10 : decode cX8_yields 10 = .ok (.bipush 50, 2) := by decide +kernel
theorem dX8_yields_12 : decode cX8_yields 12 = .ok (.if_icmp .ge 42, 3) := by decide +kernel
theorem dX8_yields_15 : decode cX8_yields 15 = .ok (.dload_n 3, 1) := by decide +kernel
theorem dX8_yields_16 : decode cX8_yields 16 = .ok (.dload 5, 2) := by decide +kernel
theorem dX8_yields_18 : decode cX8_yields 18 = .ok (.dadd, 1) := by decide +kernel
theorem dX8_yields_19 : decode cX8_yields 19 = .ok (.ldc2_w 254, 3) := by decide +kernel
theorem dX8_yields_22 : decode cX8_yields 22 = .ok (.ddiv, 1) := by decide +kernel
theorem dX8_yields_23 : decode cX8_yields 23 = .ok (.dstore 8, 2) := by decide +kernel
theorem dX8_yields_25 : decode cX8_yields 25 = .ok (.aload_n 0, 1) := by decide +kernel
theorem dX8_yields_26 : decode cX8_yields 26 = .ok (.dload 8, 2) := by decide +kernel
theorem dX8_yields_28 : decode cX8_yields 28 = .ok (.iconst 0, 1) := by decide +kernel
theorem dX8_yields_29 : decode cX8_yields 29 = .ok (.invokevirtual 246, 3) := by decide +kernel
theorem dX8_yields_32 : decode cX8_yields 32 = .ok (.lload_n 1, 1) := by decide +kernel
theorem dX8_yields_33 : decode cX8_yields 33 = .ok (.l2d, 1) := by decide +kernel
theorem dX8_yields_34 : decode cX8_yields 34 = .ok (.dcmp .l, 1) := by decide +kernel
theorem dX8_yields_35 : decode cX8_yields 35 = .ok (.ifCond .le 9, 3) := by decide +kernel
theorem dX8_yields_38 : decode cX8_yields 38 = .ok (.dload 8, 2) := by decide +kernel
theorem dX8_yields_40 : decode cX8_yields 40 = .ok (.dstore_n 3, 1) := by decide +kernel
theorem dX8_yields_41 : decode cX8_yields 41 = .ok (.goto 7, 3) := by decide +kernel
theorem dX8_yields_44 : decode cX8_yields 44 = .ok (.dload 8, 2) := by decide +kernel
theorem dX8_yields_46 : decode cX8_yields 46 = .ok (.dstore 5, 2) := by decide +kernel
theorem dX8_yields_48 : decode cX8_yields 48 = .ok (.iinc 7 1, 3) := by decide +kernel
theorem dX8_yields_51 : decode cX8_yields 51 = .ok (.goto (-43), 3) := by decide +kernel
theorem dX8_yields_54 : decode cX8_yields 54 = .ok (.dload_n 3, 1) := by decide +kernel
theorem dX8_yields_55 : decode cX8_yields 55 = .ok (.dreturn, 1) := by decide +kernel
theorem dX8_yieldOf_0 : decode cX8_yieldOf 0 = .ok (.aload_n 0, 1) := by decide +kernel
theorem dX8_yieldOf_1 : decode cX8_yieldOf 1 = .ok (.iload_n 1, 1) := by decide +kernel
theorem dX8_yieldOf_2 : decode cX8_yieldOf 2 = .ok (.invokevirtual 197, 3) := by decide +kernel
theorem dX8_yieldOf_5 : decode cX8_yieldOf 5 = .ok (.ifCond .eq 9, 3) := by decide +kernel
theorem dX8_yieldOf_8 : decode cX8_yieldOf 8 = .ok (.lload_n 2, 1) := by decide +kernel
theorem dX8_yieldOf_9 : decode cX8_yieldOf 9 = .ok (.lconst 1, 1) := by decide +kernel
theorem dX8_yieldOf_10 : decode cX8_yieldOf 10 = .ok (.lcmp, 1) := by decide +kernel
theorem dX8_yieldOf_11 : decode cX8_yieldOf 11 = .ok (.ifCond .ge 7, 3) := by decide +kernel
theorem dX8_yieldOf_14 : decode cX8_yieldOf 14 = .ok (.ldc2_w 134, 3) := by decide +kernel
theorem dX8_yieldOf_17 : decode cX8_yieldOf 17 = .ok (.lreturn, 1) := by decide +kernel
theorem dX8_yieldOf_18 : decode cX8_yieldOf 18 = .ok (.aload_n 0, 1) := by decide +kernel
theorem dX8_yieldOf_19 : decode cX8_yieldOf 19 = .ok (.iload_n 1, 1) := by decide +kernel
theorem dX8_yieldOf_20 : decode cX8_yieldOf 20 = .ok (.invokevirtual 219, 3) := by decide +kernel
theorem dX8_yieldOf_23 : decode cX8_yieldOf 23 = .ok (.aload_n 0, 1) := by decide +kernel
theorem dX8_yieldOf_24 : decode cX8_yieldOf 24 = .ok (.lload_n 2, 1) := by decide +kernel
theorem dX8_yieldOf_25 : decode cX8_yieldOf 25 = .ok (.invokevirtual 256, 3) := by decide +kernel
theorem dX8_yieldOf_28 : decode cX8_yieldOf 28 = .ok (.invokestatic 250, 3) := by decide +kernel
theorem dX8_yieldOf_31 : decode cX8_yieldOf 31 = .ok (.lreturn, 1) := by decide +kernel
theorem dX8_near_0 : decode cX8_near 0 = .ok (.aload_n 0, 1) := by decide +kernel
theorem dX8_near_1 : decode cX8_near 1 = .ok (.iload_n 1, 1) := by decide +kernel
theorem dX8_near_2 : decode cX8_near 2 = .ok (.invokevirtual 197, 3) := by decide +kernel
theorem dX8_near_5 : decode cX8_near 5 = .ok (.ifCond .eq 9, 3) := by decide +kernel
theorem dX8_near_8 : decode cX8_near 8 = .ok (.lload_n 2, 1) := by decide +kernel
theorem dX8_near_9 : decode cX8_near 9 = .ok (.lconst 1, 1) := by decide +kernel
theorem dX8_near_10 : decode cX8_near 10 = .ok (.lcmp, 1) := by decide +kernel
theorem dX8_near_11 : decode cX8_near 11 = .ok (.ifCond .ge 5, 3) := by decide +kernel
theorem dX8_near_14 : decode cX8_near 14 = .ok (.iconst (-1), 1) := by decide +kernel
theorem dX8_near_15 : decode cX8_near 15 = .ok (.ireturn, 1) := by decide +kernel
theorem dX8_near_16 : decode cX8_near 16 = .ok (.aload_n 0, 1) := by decide +kernel
theorem dX8_near_17 : decode cX8_near 17 = .ok (.iload_n 1, 1) := by decide +kernel
theorem dX8_near_18 : decode cX8_near 18 = .ok (.invokevirtual 219, 3) := by decide +kernel
theorem dX8_near_21 : decode cX8_near 21 = .ok (.aload_n 0, 1) := by decide +kernel
theorem dX8_near_22 : decode cX8_near 22 = .ok (.lload_n 2, 1) := by decide +kernel
theorem dX8_near_23 : decode cX8_near 23 = .ok (.invokevirtual 256, 3) := by decide +kernel
theorem dX8_near_26 : decode cX8_near 26 = .ok (.d2f, 1) := by decide +kernel
theorem dX8_near_27 : decode cX8_near 27 = .ok (.invokestatic 259, 3) := by decide +kernel
theorem dX8_near_30 : decode cX8_near 30 = .ok (.ireturn, 1) := by decide +kernel
theorem dX8_duration_0 : decode cX8_duration 0 = .ok (.lload_n 2, 1) := by decide +kernel
theorem dX8_duration_1 : decode cX8_duration 1 = .ok (.invokestatic 236, 3) := by decide +kernel
theorem dX8_duration_4 : decode cX8_duration 4 = .ok (.dstore 4, 2) := by decide +kernel
theorem dX8_duration_6 : decode cX8_duration 6 = .ok (.aload_n 0, 1) := by decide +kernel
theorem dX8_duration_7 : decode cX8_duration 7 = .ok (.iload_n 1, 1) := by decide +kernel
theorem dX8_duration_8 : decode cX8_duration 8 = .ok (.invokevirtual 197, 3) := by decide +kernel
theorem dX8_duration_11 : decode cX8_duration 11 = .ok (.ifCond .eq 11, 3) := by decide +kernel
theorem dX8_duration_14 : decode cX8_duration 14 = .ok (.dload 4, 2) := by decide +kernel
theorem dX8_duration_16 : decode cX8_duration 16 = .ok (.invokestatic 242, 3) := by decide +kernel
theorem dX8_duration_19 : decode cX8_duration 19 = .ok (.ifCond .ne 5, 3) := by decide +kernel
theorem dX8_duration_22 : decode cX8_duration 22 = .ok (.lconst 0, 1) := by decide +kernel
theorem dX8_duration_23 : decode cX8_duration 23 = .ok (.lreturn, 1) := by decide +kernel
theorem dX8_duration_24 : decode cX8_duration 24 = .ok (.aload_n 0, 1) := by decide +kernel
theorem dX8_duration_25 : decode cX8_duration 25 = .ok (.iload_n 1, 1) := by decide +kernel
theorem dX8_duration_26 : decode cX8_duration 26 = .ok (.invokevirtual 219, 3) := by decide +kernel
theorem dX8_duration_29 : decode cX8_duration 29 = .ok (.aload_n 0, 1) := by decide +kernel
theorem dX8_duration_30 : decode cX8_duration 30 = .ok (.dload 4, 2) := by decide +kernel
theorem dX8_duration_32 : decode cX8_duration 32 = .ok (.iconst 0, 1) := by decide +kernel
theorem dX8_duration_33 : decode cX8_duration 33 = .ok (.invokevirtual 246, 3) := by decide +kernel
theorem dX8_duration_36 : decode cX8_duration 36 = .ok (.dstore 6, 2) := by decide +kernel
theorem dX8_duration_38 : decode cX8_duration 38 = .ok (.dload 6, 2) := by decide +kernel
theorem dX8_duration_40 : decode cX8_duration 40 = .ok (.dconst 0, 1) := by decide +kernel
theorem dX8_duration_41 : decode cX8_duration 41 = .ok (.dcmp .l, 1) := by decide +kernel
theorem dX8_duration_42 : decode cX8_duration 42 = .ok (.ifCond .ne 7, 3) := by decide +kernel
theorem dX8_duration_45 : decode cX8_duration 45 = .ok (.dconst 0, 1) := by decide +kernel
theorem dX8_duration_46 : decode cX8_duration 46 = .ok (.goto 13, 3) := by decide +kernel
theorem dX8_duration_49 : decode cX8_duration 49 = .ok (.aload_n 0, 1) := by decide +kernel
theorem dX8_duration_50 : decode cX8_duration 50 = .ok (.dload 4, 2) := by decide +kernel
theorem dX8_duration_52 : decode cX8_duration 52 = .ok (.iconst 1, 1) := by decide +kernel
theorem dX8_duration_53 : decode cX8_duration 53 = .ok (.invokevirtual 246, 3) := by decide +kernel
theorem dX8_duration_56 : decode cX8_duration 56 = .ok (.dload 6, 2) := by decide +kernel
theorem dX8_duration_58 : decode cX8_duration 58 = .ok (.ddiv, 1) := by decide +kernel
theorem dX8_duration_59 : decode cX8_duration 59 = .ok (.invokestatic 250, 3) := by decide +kernel
theorem dX8_duration_62 : decode cX8_duration 62 = .ok (.lreturn, 1) := by decide +kernel
theorem dX8_behind_0 : decode cX8_behind 0 = .ok (.iload_n 1, 1) := by decide +kernel
theorem dX8_behind_1 : decode cX8_behind 1 = .ok (.ifCond .ge 5, 3) := by decide +kernel
theorem dX8_behind_4 : decode cX8_behind 4 = .ok (.iconst (-1), 1) := by decide +kernel
theorem dX8_behind_5 : decode cX8_behind 5 = .ok (.ireturn, 1) := by decide +kernel
theorem dX8_behind_6 : decode cX8_behind 6 = .ok (.iconst 0, 1) := by decide +kernel
theorem dX8_behind_7 : decode cX8_behind 7 = .ok (.istore_n 2, 1) := by decide +kernel
theorem dX8_behind_8 : decode cX8_behind 8 = .ok (.iconst 0, 1) := by decide +kernel
theorem dX8_behind_9 : decode cX8_behind 9 = .ok (.istore_n 3, 1) := by decide +kernel
theorem dX8_behind_10 : decode cX8_behind 10 = .ok (.iload_n 3, 1) := by decide +kernel
theorem dX8_behind_11 : decode cX8_behind 11 = .ok (.i2l, 1) := by decide +kernel
theorem dX8_behind_12 : decode cX8_behind 12 = .ok (.aload_n 0, 1) := by decide +kernel
theorem dX8_behind_13 : decode cX8_behind 13 = .ok (.getfield 9, 3) := by decide +kernel
theorem dX8_behind_16 : decode cX8_behind 16 = .ok (.sipush 2520, 3) := by decide +kernel
theorem dX8_behind_19 : decode cX8_behind 19 = .ok (.laload, 1) := by decide +kernel
theorem dX8_behind_20 : decode cX8_behind 20 = .ok (.lcmp, 1) := by decide +kernel
theorem dX8_behind_21 : decode cX8_behind 21 = .ok (.ifCond .ge 53, 3) := by decide +kernel
theorem dX8_behind_24 : decode cX8_behind 24 = .ok (.iload_n 2, 1) := by decide +kernel
theorem dX8_behind_25 : decode cX8_behind 25 = .ok (.aload_n 0, 1) := by decide +kernel
theorem dX8_behind_26 : decode cX8_behind 26 = .ok (.iload_n 3, 1) := by decide +kernel
theorem dX8_behind_27 : decode cX8_behind 27 = .ok (.bipush 14, 2) := by decide +kernel
theorem dX8_behind_29 : decode cX8_behind 29 = .ok (.invokevirtual 136, 3) := by decide +kernel
theorem dX8_behind_32 : decode cX8_behind 32 = .ok (.lconst 0, 1) := by decide +kernel
theorem dX8_behind_33 : decode cX8_behind 33 = .ok (.lcmp, 1) := by decide +kernel
theorem dX8_behind_34 : decode cX8_behind 34 = .ok (.ifCond .le 31, 3) := by decide +kernel
theorem dX8_behind_37 : decode cX8_behind 37 = .ok (.aload_n 0, 1) := by decide +kernel
theorem dX8_behind_38 : decode cX8_behind 38 = .ok (.getfield 9, 3) := by decide +kernel
theorem dX8_behind_41 : decode cX8_behind 41 = .ok (.sipush 2521, 3) := by decide +kernel
theorem dX8_behind_44 : decode cX8_behind 44 = .ok (.laload, 1) := by decide +kernel
theorem dX8_behind_45 : decode cX8_behind 45 = .ok (.aload_n 0, 1) := by decide +kernel
theorem dX8_behind_46 : decode cX8_behind 46 = .ok (.iload_n 3, 1) := by decide +kernel
theorem dX8_behind_47 : decode cX8_behind 47 = .ok (.bipush 15, 2) := by decide +kernel
theorem dX8_behind_49 : decode cX8_behind 49 = .ok (.invokevirtual 136, 3) := by decide +kernel
theorem dX8_behind_52 : decode cX8_behind 52 = .ok (.lsub, 1) := by decide +kernel
theorem dX8_behind_53 : decode cX8_behind 53 = .ok (.iload_n 1, 1) := by decide +kernel
theorem dX8_behind_54 : decode cX8_behind 54 = .ok (.i2l, 1) := by decide +kernel
theorem dX8_behind_55 : decode cX8_behind 55 = .ok (.lcmp, 1) := by decide +kernel
theorem dX8_behind_56 : decode cX8_behind 56 = .ok (.ifCond .le 9, 3) := by decide +kernel
theorem dX8_behind_59 : decode cX8_behind 59 = .ok (.iconst 1, 1) := by decide +kernel
theorem dX8_behind_60 : decode cX8_behind 60 = .ok (.iload_n 3, 1) := by decide +kernel
theorem dX8_behind_61 : decode cX8_behind 61 = .ok (.ishl, 1) := by decide +kernel
theorem dX8_behind_62 : decode cX8_behind 62 = .ok (.goto 4, 3) := by decide +kernel
theorem dX8_behind_65 : decode cX8_behind 65 = .ok (.iconst 0, 1) := by decide +kernel
theorem dX8_behind_66 : decode cX8_behind 66 = .ok (.ior, 1) := by decide +kernel
theorem dX8_behind_67 : decode cX8_behind 67 = .ok (.istore_n 2, 1) := by decide +kernel
theorem dX8_behind_68 : decode cX8_behind 68 = .ok (.iinc 3 1, 3) := by decide +kernel
theorem dX8_behind_71 : decode cX8_behind 71 = .ok (.goto (-61), 3) := by decide +kernel
theorem dX8_behind_74 : decode cX8_behind 74 = .ok (.iload_n 2, 1) := by decide +kernel
theorem dX8_behind_75 : decode cX8_behind 75 = .ok (.ireturn, 1) := by decide +kernel
theorem dX8_settles_0 : decode cX8_settles 0 = .ok (.aload_n 0, 1) := by decide +kernel
theorem dX8_settles_1 : decode cX8_settles 1 = .ok (.iload_n 1, 1) := by decide +kernel
theorem dX8_settles_2 : decode cX8_settles 2 = .ok (.invokevirtual 197, 3) := by decide +kernel
theorem dX8_settles_5 : decode cX8_settles 5 = .ok (.ifCond .ne 5, 3) := by decide +kernel
theorem dX8_settles_8 : decode cX8_settles 8 = .ok (.iconst (-1), 1) := by decide +kernel
theorem dX8_settles_9 : decode cX8_settles 9 = .ok (.ireturn, 1) := by decide +kernel
theorem dX8_settles_10 : decode cX8_settles 10 = .ok (.aload_n 0, 1) := by decide +kernel
theorem dX8_settles_11 : decode cX8_settles 11 = .ok (.iload_n 1, 1) := by decide +kernel
theorem dX8_settles_12 : decode cX8_settles 12 = .ok (.iconst 4, 1) := by decide +kernel
theorem dX8_settles_13 : decode cX8_settles 13 = .ok (.invokevirtual 136, 3) := by decide +kernel
theorem dX8_settles_16 : decode cX8_settles 16 = .ok (.l2i, 1) := by decide +kernel
theorem dX8_settles_17 : decode cX8_settles 17 = .ok (.istore_n 2, 1) := by decide +kernel
theorem dX8_settles_18 : decode cX8_settles 18 = .ok (.aload_n 0, 1) := by decide +kernel
theorem dX8_settles_19 : decode cX8_settles 19 = .ok (.iload_n 1, 1) := by decide +kernel
theorem dX8_settles_20 : decode cX8_settles 20 = .ok (.bipush 7, 2) := by decide +kernel
theorem dX8_settles_22 : decode cX8_settles 22 = .ok (.invokevirtual 136, 3) := by decide +kernel
theorem dX8_settles_25 : decode cX8_settles 25 = .ok (.iload_n 2, 1) := by decide +kernel
theorem dX8_settles_26 : decode cX8_settles 26 = .ok (.i2l, 1) := by decide +kernel
theorem dX8_settles_27 : decode cX8_settles 27 = .ok (.lcmp, 1) := by decide +kernel
theorem dX8_settles_28 : decode cX8_settles 28 = .ok (.ifCond .ne 7, 3) := by decide +kernel
theorem dX8_settles_31 : decode cX8_settles 31 = .ok (.iconst 0, 1) := by decide +kernel
theorem dX8_settles_32 : decode cX8_settles 32 = .ok (.goto 19, 3) := by decide +kernel
theorem dX8_settles_35 : decode cX8_settles 35 = .ok (.aload_n 0, 1) := by decide +kernel
theorem dX8_settles_36 : decode cX8_settles 36 = .ok (.iload_n 1, 1) := by decide +kernel
theorem dX8_settles_37 : decode cX8_settles 37 = .ok (.iload_n 2, 1) := by decide +kernel
theorem dX8_settles_38 : decode cX8_settles 38 = .ok (.invokevirtual 143, 3) := by decide +kernel
theorem dX8_settles_41 : decode cX8_settles 41 = .ok (.aload_n 0, 1) := by decide +kernel
theorem dX8_settles_42 : decode cX8_settles 42 = .ok (.getfield 9, 3) := by decide +kernel
theorem dX8_settles_45 : decode cX8_settles 45 = .ok (.sipush 2521, 3) := by decide +kernel
theorem dX8_settles_48 : decode cX8_settles 48 = .ok (.laload, 1) := by decide +kernel
theorem dX8_settles_49 : decode cX8_settles 49 = .ok (.l2i, 1) := by decide +kernel
theorem dX8_settles_50 : decode cX8_settles 50 = .ok (.isub, 1) := by decide +kernel
theorem dX8_settles_51 : decode cX8_settles 51 = .ok (.ireturn, 1) := by decide +kernel
theorem dX8_would_0 : decode cX8_would 0 = .ok (.aload_n 0, 1) := by decide +kernel
theorem dX8_would_1 : decode cX8_would 1 = .ok (.iload_n 1, 1) := by decide +kernel
theorem dX8_would_2 : decode cX8_would 2 = .ok (.lload_n 2, 1) := by decide +kernel
theorem dX8_would_3 : decode cX8_would 3 = .ok (.invokevirtual 202, 3) := by decide +kernel
theorem dX8_would_6 : decode cX8_would 6 = .ok (.ifCond .eq 16, 3) := by decide +kernel
theorem dX8_would_9 : decode cX8_would 9 = .ok (.iload 4, 2) := by decide +kernel
theorem dX8_would_11 : decode cX8_would 11 = .ok (.i2l, 1) := by decide +kernel
theorem dX8_would_12 : decode cX8_would 12 = .ok (.lconst 0, 1) := by decide +kernel
theorem dX8_would_13 : decode cX8_would 13 = .ok (.ldc2_w 265, 3) := by decide +kernel
theorem dX8_would_16 : decode cX8_would 16 = .ok (.invokestatic 85, 3) := by decide +kernel
theorem dX8_would_19 : decode cX8_would 19 = .ok (.ifCond .ne 7, 3) := by decide +kernel
theorem dX8_would_22 : decode cX8_would 22 = .ok (.ldc2_w 134, 3) := by decide +kernel
theorem dX8_would_25 : decode cX8_would 25 = .ok (.lreturn, 1) := by decide +kernel
theorem dX8_would_26 : decode cX8_would 26 = .ok (.aload_n 0, 1) := by decide +kernel
theorem dX8_would_27 : decode cX8_would 27 = .ok (.getfield 9, 3) := by decide +kernel
theorem dX8_would_30 : decode cX8_would 30 = .ok (.aload_n 0, 1) := by decide +kernel
theorem dX8_would_31 : decode cX8_would 31 = .ok (.getfield 13, 3) := by decide +kernel
theorem dX8_would_34 : decode cX8_would 34 = .ok (.invokestatic 267, 3) := by decide +kernel
theorem dX8_would_37 : decode cX8_would 37 = .ok (.aload_n 0, 1) := by decide +kernel
theorem dX8_would_38 : decode cX8_would 38 = .ok (.iload_n 1, 1) := by decide +kernel
theorem dX8_would_39 : decode cX8_would 39 = .ok (.lload_n 2, 1) := by decide +kernel
theorem dX8_would_40 : decode cX8_would 40 = .ok (.invokevirtual 205, 3) := by decide +kernel
theorem dX8_would_43 : decode cX8_would 43 = .ok (.aload_n 0, 1) := by decide +kernel
theorem dX8_would_44 : decode cX8_would 44 = .ok (.getfield 13, 3) := by decide +kernel
theorem dX8_would_47 : decode cX8_would 47 = .ok (.aload_n 0, 1) := by decide +kernel
theorem dX8_would_48 : decode cX8_would 48 = .ok (.getfield 9, 3) := by decide +kernel
theorem dX8_would_51 : decode cX8_would 51 = .ok (.invokestatic 267, 3) := by decide +kernel
theorem dX8_would_54 : decode cX8_would 54 = .ok (.aload_n 0, 1) := by decide +kernel
theorem dX8_would_55 : decode cX8_would 55 = .ok (.getfield 35, 3) := by decide +kernel
theorem dX8_would_58 : decode cX8_would 58 = .ok (.iload 4, 2) := by decide +kernel
theorem dX8_would_60 : decode cX8_would 60 = .ok (.laload, 1) := by decide +kernel
theorem dX8_would_61 : decode cX8_would 61 = .ok (.lreturn, 1) := by decide +kernel
theorem dX8_lastPrincipal_0 : decode cX8_lastPrincipal 0 = .ok (.aload_n 0, 1) := by decide +kernel
theorem dX8_lastPrincipal_1 : decode cX8_lastPrincipal 1 = .ok (.iload_n 1, 1) := by decide +kernel
theorem dX8_lastPrincipal_2 : decode cX8_lastPrincipal 2 = .ok (.invokevirtual 219, 3) := by decide +kernel
theorem dX8_lastPrincipal_5 : decode cX8_lastPrincipal 5 = .ok (.iconst 0, 1) := by decide +kernel
theorem dX8_lastPrincipal_6 : decode cX8_lastPrincipal 6 = .ok (.istore_n 2, 1) := by decide +kernel
theorem dX8_lastPrincipal_7 : decode cX8_lastPrincipal 7 = .ok (.iconst 0, 1) := by decide +kernel
theorem dX8_lastPrincipal_8 : decode cX8_lastPrincipal 8 = .ok (.istore_n 3, 1) := by decide +kernel
theorem dX8_lastPrincipal_9 : decode cX8_lastPrincipal 9 = .ok (.iload_n 3, 1) := by decide +kernel
theorem dX8_lastPrincipal_10 : decode cX8_lastPrincipal 10 = .ok (.aload_n 0, 1) := by decide +kernel
theorem dX8_lastPrincipal_11 : decode cX8_lastPrincipal 11 = .ok (.getfield 222, 3) := by decide +kernel
theorem dX8_lastPrincipal_14 : decode cX8_lastPrincipal 14 = .ok (.if_icmp .ge 28, 3) := by decide +kernel
theorem dX8_lastPrincipal_17 : decode cX8_lastPrincipal 17 = .ok (.aload_n 0, 1) := by decide +kernel
theorem dX8_lastPrincipal_18 : decode cX8_lastPrincipal 18 = .ok (.getfield 29, 3) := by decide +kernel
theorem dX8_lastPrincipal_21 : decode cX8_lastPrincipal 21 = .ok (.iload_n 3, 1) := by decide +kernel
theorem dX8_lastPrincipal_22 : decode cX8_lastPrincipal 22 = .ok (.laload, 1) := by decide +kernel
theorem dX8_lastPrincipal_23 : decode cX8_lastPrincipal 23 = .ok (.lconst 0, 1) := by decide +kernel
theorem dX8_lastPrincipal_24 : decode cX8_lastPrincipal 24 = .ok (.lcmp, 1) := by decide +kernel
theorem dX8_lastPrincipal_25 : decode cX8_lastPrincipal 25 = .ok (.ifCond .le 9, 3) := by decide +kernel
theorem dX8_lastPrincipal_28 : decode cX8_lastPrincipal 28 = .ok (.iload_n 3, 1) := by decide +kernel
theorem dX8_lastPrincipal_29 : decode cX8_lastPrincipal 29 = .ok (.iconst 1, 1) := by decide +kernel
theorem dX8_lastPrincipal_30 : decode cX8_lastPrincipal 30 = .ok (.iadd, 1) := by decide +kernel
theorem dX8_lastPrincipal_31 : decode cX8_lastPrincipal 31 = .ok (.goto 4, 3) := by decide +kernel
theorem dX8_lastPrincipal_34 : decode cX8_lastPrincipal 34 = .ok (.iload_n 2, 1) := by decide +kernel
theorem dX8_lastPrincipal_35 : decode cX8_lastPrincipal 35 = .ok (.istore_n 2, 1) := by decide +kernel
theorem dX8_lastPrincipal_36 : decode cX8_lastPrincipal 36 = .ok (.iinc 3 1, 3) := by decide +kernel
theorem dX8_lastPrincipal_39 : decode cX8_lastPrincipal 39 = .ok (.goto (-30), 3) := by decide +kernel
theorem dX8_lastPrincipal_42 : decode cX8_lastPrincipal 42 = .ok (.iload_n 2, 1) := by decide +kernel
theorem dX8_lastPrincipal_43 : decode cX8_lastPrincipal 43 = .ok (.ireturn, 1) := by decide +kernel
theorem dX8_sooner_0 : decode cX8_sooner 0 = .ok (.aload_n 0, 1) := by decide +kernel
theorem dX8_sooner_1 : decode cX8_sooner 1 = .ok (.iload_n 1, 1) := by decide +kernel
theorem dX8_sooner_2 : decode cX8_sooner 2 = .ok (.lload_n 2, 1) := by decide +kernel
theorem dX8_sooner_3 : decode cX8_sooner 3 = .ok (.invokevirtual 202, 3) := by decide +kernel
theorem dX8_sooner_6 : decode cX8_sooner 6 = .ok (.ifCond .ne 5, 3) := by decide +kernel
theorem dX8_sooner_9 : decode cX8_sooner 9 = .ok (.iconst (-1), 1) := by decide +kernel
theorem dX8_sooner_10 : decode cX8_sooner 10 = .ok (.ireturn, 1) := by decide +kernel
theorem dX8_sooner_11 : decode cX8_sooner 11 = .ok (.aload_n 0, 1) := by decide +kernel
theorem dX8_sooner_12 : decode cX8_sooner 12 = .ok (.iload_n 1, 1) := by decide +kernel
theorem dX8_sooner_13 : decode cX8_sooner 13 = .ok (.invokevirtual 271, 3) := by decide +kernel
theorem dX8_sooner_16 : decode cX8_sooner 16 = .ok (.istore 4, 2) := by decide +kernel
theorem dX8_sooner_18 : decode cX8_sooner 18 = .ok (.aload_n 0, 1) := by decide +kernel
