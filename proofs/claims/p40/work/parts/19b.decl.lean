/-! what stands at each place of the law's methods: printed -/
theorem dL_draw_0 : decode cL_draw 0 = .ok (.iload_n 1, 1) := by decide +kernel
theorem dL_draw_1 : decode cL_draw 1 = .ok (.aload_n 0, 1) := by decide +kernel
theorem dL_draw_2 : decode cL_draw 2 = .ok (.arraylength, 1) := by decide +kernel
theorem dL_draw_3 : decode cL_draw 3 = .ok (.if_icmp .ge 9, 3) := by decide +kernel
theorem dL_draw_6 : decode cL_draw 6 = .ok (.aload_n 0, 1) := by decide +kernel
theorem dL_draw_7 : decode cL_draw 7 = .ok (.iload_n 1, 1) := by decide +kernel
theorem dL_draw_8 : decode cL_draw 8 = .ok (.iaload, 1) := by decide +kernel
theorem dL_draw_9 : decode cL_draw 9 = .ok (.goto 13, 3) := by decide +kernel
theorem dL_draw_12 : decode cL_draw 12 = .ok (.ldc 7, 2) := by decide +kernel
theorem dL_draw_14 : decode cL_draw 14 = .ok (.iload_n 1, 1) := by decide +kernel
theorem dL_draw_15 : decode cL_draw 15 = .ok (.bipush 21, 2) := by decide +kernel
theorem dL_draw_17 : decode cL_draw 17 = .ok (.iadd, 1) := by decide +kernel
theorem dL_draw_18 : decode cL_draw 18 = .ok (.imul, 1) := by decide +kernel
theorem dL_draw_19 : decode cL_draw 19 = .ok (.ldc 8, 2) := by decide +kernel
theorem dL_draw_21 : decode cL_draw 21 = .ok (.iadd, 1) := by decide +kernel
theorem dL_draw_22 : decode cL_draw 22 = .ok (.istore_n 3, 1) := by decide +kernel
theorem dL_draw_23 : decode cL_draw 23 = .ok (.iload_n 3, 1) := by decide +kernel
theorem dL_draw_24 : decode cL_draw 24 = .ok (.ldc 9, 2) := by decide +kernel
theorem dL_draw_26 : decode cL_draw 26 = .ok (.iand, 1) := by decide +kernel
theorem dL_draw_27 : decode cL_draw 27 = .ok (.iload_n 2, 1) := by decide +kernel
theorem dL_draw_28 : decode cL_draw 28 = .ok (.irem, 1) := by decide +kernel
theorem dL_draw_29 : decode cL_draw 29 = .ok (.ireturn, 1) := by decide +kernel
theorem dL_isIn_0 : decode cL_isIn 0 = .ok (.lload_n 0, 1) := by decide +kernel
theorem dL_isIn_1 : decode cL_isIn 1 = .ok (.iload_n 2, 1) := by decide +kernel
theorem dL_isIn_2 : decode cL_isIn 2 = .ok (.lshr, 1) := by decide +kernel
theorem dL_isIn_3 : decode cL_isIn 3 = .ok (.lconst 1, 1) := by decide +kernel
theorem dL_isIn_4 : decode cL_isIn 4 = .ok (.land, 1) := by decide +kernel
theorem dL_isIn_5 : decode cL_isIn 5 = .ok (.lconst 1, 1) := by decide +kernel
theorem dL_isIn_6 : decode cL_isIn 6 = .ok (.lcmp, 1) := by decide +kernel
theorem dL_isIn_7 : decode cL_isIn 7 = .ok (.ifCond .ne 7, 3) := by decide +kernel
theorem dL_isIn_10 : decode cL_isIn 10 = .ok (.iconst 1, 1) := by decide +kernel
theorem dL_isIn_11 : decode cL_isIn 11 = .ok (.goto 4, 3) := by decide +kernel
theorem dL_isIn_14 : decode cL_isIn 14 = .ok (.iconst 0, 1) := by decide +kernel
theorem dL_isIn_15 : decode cL_isIn 15 = .ok (.ireturn, 1) := by decide +kernel
theorem dL_many_0 : decode cL_many 0 = .ok (.iconst 0, 1) := by decide +kernel
theorem dL_many_1 : decode cL_many 1 = .ok (.istore_n 1, 1) := by decide +kernel
theorem dL_many_2 : decode cL_many 2 = .ok (.iconst 0, 1) := by decide +kernel
theorem dL_many_3 : decode cL_many 3 = .ok (.istore_n 2, 1) := by decide +kernel
theorem dL_many_4 : decode cL_many 4 = .ok (.iload_n 2, 1) := by decide +kernel
theorem dL_many_5 : decode cL_many 5 = .ok (.sipush 384, 3) := by decide +kernel
theorem dL_many_8 : decode cL_many 8 = .ok (.if_icmp .ge 33, 3) := by decide +kernel
theorem dL_many_11 : decode cL_many 11 = .ok (.iload_n 1, 1) := by decide +kernel
theorem dL_many_12 : decode cL_many 12 = .ok (.aload_n 0, 1) := by decide +kernel
theorem dL_many_13 : decode cL_many 13 = .ok (.iload_n 2, 1) := by decide +kernel
theorem dL_many_14 : decode cL_many 14 = .ok (.bipush 64, 2) := by decide +kernel
theorem dL_many_16 : decode cL_many 16 = .ok (.idiv, 1) := by decide +kernel
theorem dL_many_17 : decode cL_many 17 = .ok (.laload, 1) := by decide +kernel
theorem dL_many_18 : decode cL_many 18 = .ok (.iload_n 2, 1) := by decide +kernel
theorem dL_many_19 : decode cL_many 19 = .ok (.bipush 64, 2) := by decide +kernel
theorem dL_many_21 : decode cL_many 21 = .ok (.irem, 1) := by decide +kernel
theorem dL_many_22 : decode cL_many 22 = .ok (.invokestatic 10, 3) := by decide +kernel
theorem dL_many_25 : decode cL_many 25 = .ok (.ifCond .eq 7, 3) := by decide +kernel
theorem dL_many_28 : decode cL_many 28 = .ok (.iconst 1, 1) := by decide +kernel
theorem dL_many_29 : decode cL_many 29 = .ok (.goto 4, 3) := by decide +kernel
theorem dL_many_32 : decode cL_many 32 = .ok (.iconst 0, 1) := by decide +kernel
theorem dL_many_33 : decode cL_many 33 = .ok (.iadd, 1) := by decide +kernel
theorem dL_many_34 : decode cL_many 34 = .ok (.istore_n 1, 1) := by decide +kernel
theorem dL_many_35 : decode cL_many 35 = .ok (.iinc 2 1, 3) := by decide +kernel
theorem dL_many_38 : decode cL_many 38 = .ok (.goto (-34), 3) := by decide +kernel
theorem dL_many_41 : decode cL_many 41 = .ok (.iload_n 1, 1) := by decide +kernel
theorem dL_many_42 : decode cL_many 42 = .ok (.ireturn, 1) := by decide +kernel
theorem dL_kept_0 : decode cL_kept 0 = .ok (.iconst 0, 1) := by decide +kernel
theorem dL_kept_1 : decode cL_kept 1 = .ok (.istore_n 3, 1) := by decide +kernel
theorem dL_kept_2 : decode cL_kept 2 = .ok (.iload_n 3, 1) := by decide +kernel
theorem dL_kept_3 : decode cL_kept 3 = .ok (.bipush 64, 2) := by decide +kernel
theorem dL_kept_5 : decode cL_kept 5 = .ok (.if_icmp .ge 31, 3) := by decide +kernel
theorem dL_kept_8 : decode cL_kept 8 = .ok (.aload_n 0, 1) := by decide +kernel
theorem dL_kept_9 : decode cL_kept 9 = .ok (.iload_n 1, 1) := by decide +kernel
theorem dL_kept_10 : decode cL_kept 10 = .ok (.laload, 1) := by decide +kernel
theorem dL_kept_11 : decode cL_kept 11 = .ok (.iload_n 2, 1) := by decide +kernel
theorem dL_kept_12 : decode cL_kept 12 = .ok (.iload_n 3, 1) := by decide +kernel
theorem dL_kept_13 : decode cL_kept 13 = .ok (.iadd, 1) := by decide +kernel
theorem dL_kept_14 : decode cL_kept 14 = .ok (.bipush 64, 2) := by decide +kernel
theorem dL_kept_16 : decode cL_kept 16 = .ok (.irem, 1) := by decide +kernel
theorem dL_kept_17 : decode cL_kept 17 = .ok (.invokestatic 10, 3) := by decide +kernel
theorem dL_kept_20 : decode cL_kept 20 = .ok (.ifCond .eq 10, 3) := by decide +kernel
theorem dL_kept_23 : decode cL_kept 23 = .ok (.iload_n 2, 1) := by decide +kernel
theorem dL_kept_24 : decode cL_kept 24 = .ok (.iload_n 3, 1) := by decide +kernel
theorem dL_kept_25 : decode cL_kept 25 = .ok (.iadd, 1) := by decide +kernel
theorem dL_kept_26 : decode cL_kept 26 = .ok (.bipush 64, 2) := by decide +kernel
theorem dL_kept_28 : decode cL_kept 28 = .ok (.irem, 1) := by decide +kernel
theorem dL_kept_29 : decode cL_kept 29 = .ok (.ireturn, 1) := by decide +kernel
theorem dL_kept_30 : decode cL_kept 30 = .ok (.iinc 3 1, 3) := by decide +kernel
theorem dL_kept_33 : decode cL_kept 33 = .ok (.goto (-31), 3) := by decide +kernel
theorem dL_kept_36 : decode cL_kept 36 = .ok (.iconst (-1), 1) := by decide +kernel
theorem dL_kept_37 : decode cL_kept 37 = .ok (.ireturn, 1) := by decide +kernel
theorem dL_isVersion_0 : decode cL_isVersion 0 = .ok (.aload_n 0, 1) := by decide +kernel
theorem dL_isVersion_1 : decode cL_isVersion 1 = .ok (.iload_n 1, 1) := by decide +kernel
theorem dL_isVersion_2 : decode cL_isVersion 2 = .ok (.iload_n 2, 1) := by decide +kernel
theorem dL_isVersion_3 : decode cL_isVersion 3 = .ok (.invokevirtual 16, 3) := by decide +kernel
theorem dL_isVersion_6 : decode cL_isVersion 6 = .ok (.istore_n 3, 1) := by decide +kernel
theorem dL_isVersion_7 : decode cL_isVersion 7 = .ok (.iconst 0, 1) := by decide +kernel
theorem dL_isVersion_8 : decode cL_isVersion 8 = .ok (.istore 4, 2) := by decide +kernel
theorem dL_isVersion_10 : decode cL_isVersion 10 = .ok (.iconst 0, 1) := by decide +kernel
theorem dL_isVersion_11 : decode cL_isVersion 11 = .ok (.istore 5, 2) := by decide +kernel
theorem dL_isVersion_13 : decode cL_isVersion 13 = .ok (.iconst 0, 1) := by decide +kernel
theorem dL_isVersion_14 : decode cL_isVersion 14 = .ok (.istore 6, 2) := by decide +kernel
theorem dL_isVersion_16 : decode cL_isVersion 16 = .ok (.iconst 0, 1) := by decide +kernel
theorem dL_isVersion_17 : decode cL_isVersion 17 = .ok (.istore 7, 2) := by decide +kernel
theorem dL_isVersion_19 : decode cL_isVersion 19 = .ok (.iload 7, 2) := by decide +kernel
theorem dL_isVersion_21 : decode cL_isVersion 21 = .ok (.iload_n 3, 1) := by decide +kernel
theorem dL_isVersion_22 : decode cL_isVersion 22 = .ok (.if_icmp .ge 162, 3) := by decide +kernel
theorem dL_isVersion_25 : decode cL_isVersion 25 = .ok (.aload_n 0, 1) := by decide +kernel
theorem dL_isVersion_26 : decode cL_isVersion 26 = .ok (.iload_n 1, 1) := by decide +kernel
theorem dL_isVersion_27 : decode cL_isVersion 27 = .ok (.iload_n 2, 1) := by decide +kernel
theorem dL_isVersion_28 : decode cL_isVersion 28 = .ok (.iload 7, 2) := by decide +kernel
theorem dL_isVersion_30 : decode cL_isVersion 30 = .ok (.invokevirtual 22, 3) := by decide +kernel
theorem dL_isVersion_33 : decode cL_isVersion 33 = .ok (.istore 8, 2) := by decide +kernel
theorem dL_isVersion_35 : decode cL_isVersion 35 = .ok (.iload 8, 2) := by decide +kernel
theorem dL_isVersion_37 : decode cL_isVersion 37 = .ok (.aload_n 0, 1) := by decide +kernel
theorem dL_isVersion_38 : decode cL_isVersion 38 = .ok (.iload_n 1, 1) := by decide +kernel
theorem dL_isVersion_39 : decode cL_isVersion 39 = .ok (.iload_n 2, 1) := by decide +kernel
theorem dL_isVersion_40 : decode cL_isVersion 40 = .ok (.iload 7, 2) := by decide +kernel
theorem dL_isVersion_42 : decode cL_isVersion 42 = .ok (.invokevirtual 26, 3) := by decide +kernel
theorem dL_isVersion_45 : decode cL_isVersion 45 = .ok (.if_icmp .ne 16, 3) := by decide +kernel
theorem dL_isVersion_48 : decode cL_isVersion 48 = .ok (.iload 8, 2) := by decide +kernel
theorem dL_isVersion_50 : decode cL_isVersion 50 = .ok (.ifCond .lt 11, 3) := by decide +kernel
theorem dL_isVersion_53 : decode cL_isVersion 53 = .ok (.iload 8, 2) := by decide +kernel
theorem dL_isVersion_55 : decode cL_isVersion 55 = .ok (.sipush 255, 3) := by decide +kernel
theorem dL_isVersion_58 : decode cL_isVersion 58 = .ok (.if_icmp .le 5, 3) := by decide +kernel
theorem dL_isVersion_61 : decode cL_isVersion 61 = .ok (.iconst 0, 1) := by decide +kernel
theorem dL_isVersion_62 : decode cL_isVersion 62 = .ok (.ireturn, 1) := by decide +kernel
theorem dL_isVersion_63 : decode cL_isVersion 63 = .ok (.iload 7, 2) := by decide +kernel
theorem dL_isVersion_65 : decode cL_isVersion 65 = .ok (.iload 4, 2) := by decide +kernel
theorem dL_isVersion_67 : decode cL_isVersion 67 = .ok (.isub, 1) := by decide +kernel
theorem dL_isVersion_68 : decode cL_isVersion 68 = .ok (.iconst 1, 1) := by decide +kernel
theorem dL_isVersion_69 : decode cL_isVersion 69 = .ok (.iadd, 1) := by decide +kernel
theorem dL_isVersion_70 : decode cL_isVersion 70 = .ok (.istore 9, 2) := by decide +kernel
theorem dL_isVersion_72 : decode cL_isVersion 72 = .ok (.iload 5, 2) := by decide +kernel
theorem dL_isVersion_74 : decode cL_isVersion 74 = .ok (.iload 8, 2) := by decide +kernel
theorem dL_isVersion_76 : decode cL_isVersion 76 = .ok (.iadd, 1) := by decide +kernel
theorem dL_isVersion_77 : decode cL_isVersion 77 = .ok (.istore 5, 2) := by decide +kernel
theorem dL_isVersion_79 : decode cL_isVersion 79 = .ok (.iload 5, 2) := by decide +kernel
theorem dL_isVersion_81 : decode cL_isVersion 81 = .ok (.iload 9, 2) := by decide +kernel
theorem dL_isVersion_83 : decode cL_isVersion 83 = .ok (.bipush 8, 2) := by decide +kernel
theorem dL_isVersion_85 : decode cL_isVersion 85 = .ok (.if_icmp .le 17, 3) := by decide +kernel
theorem dL_isVersion_88 : decode cL_isVersion 88 = .ok (.aload_n 0, 1) := by decide +kernel
theorem dL_isVersion_89 : decode cL_isVersion 89 = .ok (.iload_n 1, 1) := by decide +kernel
theorem dL_isVersion_90 : decode cL_isVersion 90 = .ok (.iload_n 2, 1) := by decide +kernel
theorem dL_isVersion_91 : decode cL_isVersion 91 = .ok (.iload 7, 2) := by decide +kernel
theorem dL_isVersion_93 : decode cL_isVersion 93 = .ok (.bipush 8, 2) := by decide +kernel
theorem dL_isVersion_95 : decode cL_isVersion 95 = .ok (.isub, 1) := by decide +kernel
theorem dL_isVersion_96 : decode cL_isVersion 96 = .ok (.invokevirtual 26, 3) := by decide +kernel
theorem dL_isVersion_99 : decode cL_isVersion 99 = .ok (.goto 4, 3) := by decide +kernel
theorem dL_isVersion_102 : decode cL_isVersion 102 = .ok (.iconst 0, 1) := by decide +kernel
theorem dL_isVersion_103 : decode cL_isVersion 103 = .ok (.isub, 1) := by decide +kernel
theorem dL_isVersion_104 : decode cL_isVersion 104 = .ok (.istore 5, 2) := by decide +kernel
theorem dL_isVersion_106 : decode cL_isVersion 106 = .ok (.iload 9, 2) := by decide +kernel
theorem dL_isVersion_108 : decode cL_isVersion 108 = .ok (.bipush 8, 2) := by decide +kernel
theorem dL_isVersion_110 : decode cL_isVersion 110 = .ok (.if_icmp .lt 11, 3) := by decide +kernel
theorem dL_isVersion_113 : decode cL_isVersion 113 = .ok (.iload 5, 2) := by decide +kernel
theorem dL_isVersion_115 : decode cL_isVersion 115 = .ok (.bipush 16, 2) := by decide +kernel
theorem dL_isVersion_117 : decode cL_isVersion 117 = .ok (.irem, 1) := by decide +kernel
theorem dL_isVersion_118 : decode cL_isVersion 118 = .ok (.ifCond .eq 18, 3) := by decide +kernel
theorem dL_isVersion_121 : decode cL_isVersion 121 = .ok (.iload 9, 2) := by decide +kernel
theorem dL_isVersion_123 : decode cL_isVersion 123 = .ok (.bipush 32, 2) := by decide +kernel
theorem dL_isVersion_125 : decode cL_isVersion 125 = .ok (.if_icmp .eq 11, 3) := by decide +kernel
theorem dL_isVersion_128 : decode cL_isVersion 128 = .ok (.iload 7, 2) := by decide +kernel
theorem dL_isVersion_130 : decode cL_isVersion 130 = .ok (.iload_n 3, 1) := by decide +kernel
theorem dL_isVersion_131 : decode cL_isVersion 131 = .ok (.iconst 1, 1) := by decide +kernel
theorem dL_isVersion_132 : decode cL_isVersion 132 = .ok (.isub, 1) := by decide +kernel
theorem dL_isVersion_133 : decode cL_isVersion 133 = .ok (.if_icmp .ne 45, 3) := by decide +kernel
theorem dL_isVersion_136 : decode cL_isVersion 136 = .ok (.iload 6, 2) := by decide +kernel
theorem dL_isVersion_138 : decode cL_isVersion 138 = .ok (.aload_n 0, 1) := by decide +kernel
theorem dL_isVersion_139 : decode cL_isVersion 139 = .ok (.iload_n 1, 1) := by decide +kernel
theorem dL_isVersion_140 : decode cL_isVersion 140 = .ok (.iload_n 2, 1) := by decide +kernel
theorem dL_isVersion_141 : decode cL_isVersion 141 = .ok (.invokevirtual 29, 3) := by decide +kernel
theorem dL_isVersion_144 : decode cL_isVersion 144 = .ok (.if_icmp .ge 20, 3) := by decide +kernel
theorem dL_isVersion_147 : decode cL_isVersion 147 = .ok (.aload_n 0, 1) := by decide +kernel
theorem dL_isVersion_148 : decode cL_isVersion 148 = .ok (.aload_n 0, 1) := by decide +kernel
theorem dL_isVersion_149 : decode cL_isVersion 149 = .ok (.iload_n 1, 1) := by decide +kernel
theorem dL_isVersion_150 : decode cL_isVersion 150 = .ok (.iload_n 2, 1) := by decide +kernel
theorem dL_isVersion_151 : decode cL_isVersion 151 = .ok (.iload 6, 2) := by decide +kernel
theorem dL_isVersion_153 : decode cL_isVersion 153 = .ok (.invokevirtual 32, 3) := by decide +kernel
theorem dL_isVersion_156 : decode cL_isVersion 156 = .ok (.invokevirtual 35, 3) := by decide +kernel
theorem dL_isVersion_159 : decode cL_isVersion 159 = .ok (.iload 9, 2) := by decide +kernel
theorem dL_isVersion_161 : decode cL_isVersion 161 = .ok (.if_icmp .eq 5, 3) := by decide +kernel
theorem dL_isVersion_164 : decode cL_isVersion 164 = .ok (.iconst 0, 1) := by decide +kernel
theorem dL_isVersion_165 : decode cL_isVersion 165 = .ok (.ireturn, 1) := by decide +kernel
theorem dL_isVersion_166 : decode cL_isVersion 166 = .ok (.iinc 6 1, 3) := by decide +kernel
theorem dL_isVersion_169 : decode cL_isVersion 169 = .ok (.iload 7, 2) := by decide +kernel
theorem dL_isVersion_171 : decode cL_isVersion 171 = .ok (.iconst 1, 1) := by decide +kernel
theorem dL_isVersion_172 : decode cL_isVersion 172 = .ok (.iadd, 1) := by decide +kernel
theorem dL_isVersion_173 : decode cL_isVersion 173 = .ok (.istore 4, 2) := by decide +kernel
theorem dL_isVersion_175 : decode cL_isVersion 175 = .ok (.iconst 0, 1) := by decide +kernel
theorem dL_isVersion_176 : decode cL_isVersion 176 = .ok (.istore 5, 2) := by decide +kernel
theorem dL_isVersion_178 : decode cL_isVersion 178 = .ok (.iinc 7 1, 3) := by decide +kernel
theorem dL_isVersion_181 : decode cL_isVersion 181 = .ok (.goto (-162), 3) := by decide +kernel
theorem dL_isVersion_184 : decode cL_isVersion 184 = .ok (.iload 6, 2) := by decide +kernel
theorem dL_isVersion_186 : decode cL_isVersion 186 = .ok (.aload_n 0, 1) := by decide +kernel
theorem dL_isVersion_187 : decode cL_isVersion 187 = .ok (.iload_n 1, 1) := by decide +kernel
theorem dL_isVersion_188 : decode cL_isVersion 188 = .ok (.iload_n 2, 1) := by decide +kernel
theorem dL_isVersion_189 : decode cL_isVersion 189 = .ok (.invokevirtual 29, 3) := by decide +kernel
theorem dL_isVersion_192 : decode cL_isVersion 192 = .ok (.if_icmp .ne 7, 3) := by decide +kernel
theorem dL_isVersion_195 : decode cL_isVersion 195 = .ok (.iconst 1, 1) := by decide +kernel
theorem dL_isVersion_196 : decode cL_isVersion 196 = .ok (.goto 4, 3) := by decide +kernel
theorem dL_isVersion_199 : decode cL_isVersion 199 = .ok (.iconst 0, 1) := by decide +kernel
theorem dL_isVersion_200 : decode cL_isVersion 200 = .ok (.ireturn, 1) := by decide +kernel
theorem dL_isListed_0 : decode cL_isListed 0 = .ok (.aload_n 0, 1) := by decide +kernel
theorem dL_isListed_1 : decode cL_isListed 1 = .ok (.iload_n 2, 1) := by decide +kernel
theorem dL_isListed_2 : decode cL_isListed 2 = .ok (.iload_n 3, 1) := by decide +kernel
theorem dL_isListed_3 : decode cL_isListed 3 = .ok (.invokevirtual 39, 3) := by decide +kernel
theorem dL_isListed_6 : decode cL_isListed 6 = .ok (.istore 4, 2) := by decide +kernel
theorem dL_isListed_8 : decode cL_isListed 8 = .ok (.aload_n 0, 1) := by decide +kernel
theorem dL_isListed_9 : decode cL_isListed 9 = .ok (.iload_n 2, 1) := by decide +kernel
theorem dL_isListed_10 : decode cL_isListed 10 = .ok (.iload_n 3, 1) := by decide +kernel
theorem dL_isListed_11 : decode cL_isListed 11 = .ok (.invokevirtual 29, 3) := by decide +kernel
theorem dL_isListed_14 : decode cL_isListed 14 = .ok (.istore 5, 2) := by decide +kernel
theorem dL_isListed_16 : decode cL_isListed 16 = .ok (.aload_n 0, 1) := by decide +kernel
theorem dL_isListed_17 : decode cL_isListed 17 = .ok (.iload_n 2, 1) := by decide +kernel
theorem dL_isListed_18 : decode cL_isListed 18 = .ok (.iload_n 3, 1) := by decide +kernel
theorem dL_isListed_19 : decode cL_isListed 19 = .ok (.invokevirtual 42, 3) := by decide +kernel
theorem dL_isListed_22 : decode cL_isListed 22 = .ok (.istore 6, 2) := by decide +kernel
theorem dL_isListed_24 : decode cL_isListed 24 = .ok (.iload 4, 2) := by decide +kernel
theorem dL_isListed_26 : decode cL_isListed 26 = .ok (.iconst (-1), 1) := by decide +kernel
theorem dL_isListed_27 : decode cL_isListed 27 = .ok (.if_icmp .ne 25, 3) := by decide +kernel
theorem dL_isListed_30 : decode cL_isListed 30 = .ok (.iload 6, 2) := by decide +kernel
theorem dL_isListed_32 : decode cL_isListed 32 = .ok (.ifCond .ne 18, 3) := by decide +kernel
theorem dL_isListed_35 : decode cL_isListed 35 = .ok (.aload_n 0, 1) := by decide +kernel
theorem dL_isListed_36 : decode cL_isListed 36 = .ok (.iload_n 2, 1) := by decide +kernel
theorem dL_isListed_37 : decode cL_isListed 37 = .ok (.iload_n 3, 1) := by decide +kernel
theorem dL_isListed_38 : decode cL_isListed 38 = .ok (.invokevirtual 45, 3) := by decide +kernel
theorem dL_isListed_41 : decode cL_isListed 41 = .ok (.iload 5, 2) := by decide +kernel
theorem dL_isListed_43 : decode cL_isListed 43 = .ok (.if_icmp .ne 7, 3) := by decide +kernel
theorem dL_isListed_46 : decode cL_isListed 46 = .ok (.iconst 1, 1) := by decide +kernel
theorem dL_isListed_47 : decode cL_isListed 47 = .ok (.goto 4, 3) := by decide +kernel
theorem dL_isListed_50 : decode cL_isListed 50 = .ok (.iconst 0, 1) := by decide +kernel
theorem dL_isListed_51 : decode cL_isListed 51 = .ok (.ireturn, 1) := by decide +kernel
theorem dL_isListed_52 : decode cL_isListed 52 = .ok (.iload 4, 2) := by decide +kernel
theorem dL_isListed_54 : decode cL_isListed 54 = .ok (.iload_n 3, 1) := by decide +kernel
theorem dL_isListed_55 : decode cL_isListed 55 = .ok (.if_icmp .ge 29, 3) := by decide +kernel
theorem dL_isListed_58 : decode cL_isListed 58 = .ok (.iload 4, 2) := by decide +kernel
theorem dL_isListed_60 : decode cL_isListed 60 = .ok (.ifCond .lt 24, 3) := by decide +kernel
theorem dL_isListed_63 : decode cL_isListed 63 = .ok (.aload_n 1, 1) := by decide +kernel
theorem dL_isListed_64 : decode cL_isListed 64 = .ok (.iload_n 2, 1) := by decide +kernel
theorem dL_isListed_65 : decode cL_isListed 65 = .ok (.laload, 1) := by decide +kernel
theorem dL_isListed_66 : decode cL_isListed 66 = .ok (.iload 4, 2) := by decide +kernel
theorem dL_isListed_68 : decode cL_isListed 68 = .ok (.invokestatic 10, 3) := by decide +kernel
theorem dL_isListed_71 : decode cL_isListed 71 = .ok (.ifCond .eq 13, 3) := by decide +kernel
theorem dL_isListed_74 : decode cL_isListed 74 = .ok (.aload_n 0, 1) := by decide +kernel
theorem dL_isListed_75 : decode cL_isListed 75 = .ok (.iload_n 2, 1) := by decide +kernel
theorem dL_isListed_76 : decode cL_isListed 76 = .ok (.iload 4, 2) := by decide +kernel
theorem dL_isListed_78 : decode cL_isListed 78 = .ok (.invokevirtual 29, 3) := by decide +kernel
theorem dL_isListed_81 : decode cL_isListed 81 = .ok (.goto 4, 3) := by decide +kernel
theorem dL_isListed_84 : decode cL_isListed 84 = .ok (.iconst (-1), 1) := by decide +kernel
theorem dL_isListed_85 : decode cL_isListed 85 = .ok (.istore 7, 2) := by decide +kernel
theorem dL_isListed_87 : decode cL_isListed 87 = .ok (.iconst 0, 1) := by decide +kernel
theorem dL_isListed_88 : decode cL_isListed 88 = .ok (.istore 8, 2) := by decide +kernel
theorem dL_isListed_90 : decode cL_isListed 90 = .ok (.iload 8, 2) := by decide +kernel
theorem dL_isListed_92 : decode cL_isListed 92 = .ok (.iload 5, 2) := by decide +kernel
theorem dL_isListed_94 : decode cL_isListed 94 = .ok (.if_icmp .ge 36, 3) := by decide +kernel
theorem dL_isListed_97 : decode cL_isListed 97 = .ok (.iload 8, 2) := by decide +kernel
theorem dL_isListed_99 : decode cL_isListed 99 = .ok (.iload 7, 2) := by decide +kernel
theorem dL_isListed_101 : decode cL_isListed 101 = .ok (.if_icmp .ge 29, 3) := by decide +kernel
theorem dL_isListed_104 : decode cL_isListed 104 = .ok (.aload_n 0, 1) := by decide +kernel
theorem dL_isListed_105 : decode cL_isListed 105 = .ok (.iload_n 2, 1) := by decide +kernel
theorem dL_isListed_106 : decode cL_isListed 106 = .ok (.iload_n 3, 1) := by decide +kernel
theorem dL_isListed_107 : decode cL_isListed 107 = .ok (.iload 8, 2) := by decide +kernel
theorem dL_isListed_109 : decode cL_isListed 109 = .ok (.invokevirtual 32, 3) := by decide +kernel
theorem dL_isListed_112 : decode cL_isListed 112 = .ok (.aload_n 0, 1) := by decide +kernel
theorem dL_isListed_113 : decode cL_isListed 113 = .ok (.iload_n 2, 1) := by decide +kernel
theorem dL_isListed_114 : decode cL_isListed 114 = .ok (.iload 4, 2) := by decide +kernel
theorem dL_isListed_116 : decode cL_isListed 116 = .ok (.iload 8, 2) := by decide +kernel
theorem dL_isListed_118 : decode cL_isListed 118 = .ok (.invokevirtual 32, 3) := by decide +kernel
theorem dL_isListed_121 : decode cL_isListed 121 = .ok (.if_icmp .ne 9, 3) := by decide +kernel
theorem dL_isListed_124 : decode cL_isListed 124 = .ok (.iinc 8 1, 3) := by decide +kernel
theorem dL_isListed_127 : decode cL_isListed 127 = .ok (.goto (-37), 3) := by decide +kernel
theorem dL_isListed_130 : decode cL_isListed 130 = .ok (.iconst 0, 1) := by decide +kernel
theorem dL_isListed_131 : decode cL_isListed 131 = .ok (.istore 9, 2) := by decide +kernel
theorem dL_isListed_133 : decode cL_isListed 133 = .ok (.iload 9, 2) := by decide +kernel
theorem dL_isListed_135 : decode cL_isListed 135 = .ok (.iload 5, 2) := by decide +kernel
theorem dL_isListed_137 : decode cL_isListed 137 = .ok (.iload 8, 2) := by decide +kernel
theorem dL_isListed_139 : decode cL_isListed 139 = .ok (.isub, 1) := by decide +kernel
theorem dL_isListed_140 : decode cL_isListed 140 = .ok (.if_icmp .ge 49, 3) := by decide +kernel
theorem dL_isListed_143 : decode cL_isListed 143 = .ok (.iload 9, 2) := by decide +kernel
theorem dL_isListed_145 : decode cL_isListed 145 = .ok (.iload 7, 2) := by decide +kernel
theorem dL_isListed_147 : decode cL_isListed 147 = .ok (.iload 8, 2) := by decide +kernel
theorem dL_isListed_149 : decode cL_isListed 149 = .ok (.isub, 1) := by decide +kernel
theorem dL_isListed_150 : decode cL_isListed 150 = .ok (.if_icmp .ge 39, 3) := by decide +kernel
theorem dL_isListed_153 : decode cL_isListed 153 = .ok (.aload_n 0, 1) := by decide +kernel
theorem dL_isListed_154 : decode cL_isListed 154 = .ok (.iload_n 2, 1) := by decide +kernel
theorem dL_isListed_155 : decode cL_isListed 155 = .ok (.iload_n 3, 1) := by decide +kernel
theorem dL_isListed_156 : decode cL_isListed 156 = .ok (.iload 5, 2) := by decide +kernel
theorem dL_isListed_158 : decode cL_isListed 158 = .ok (.iconst 1, 1) := by decide +kernel
theorem dL_isListed_159 : decode cL_isListed 159 = .ok (.isub, 1) := by decide +kernel
theorem dL_isListed_160 : decode cL_isListed 160 = .ok (.iload 9, 2) := by decide +kernel
theorem dL_isListed_162 : decode cL_isListed 162 = .ok (.isub, 1) := by decide +kernel
theorem dL_isListed_163 : decode cL_isListed 163 = .ok (.invokevirtual 32, 3) := by decide +kernel
theorem dL_isListed_166 : decode cL_isListed 166 = .ok (.aload_n 0, 1) := by decide +kernel
theorem dL_isListed_167 : decode cL_isListed 167 = .ok (.iload_n 2, 1) := by decide +kernel
theorem dL_isListed_168 : decode cL_isListed 168 = .ok (.iload 4, 2) := by decide +kernel
theorem dL_isListed_170 : decode cL_isListed 170 = .ok (.iload 7, 2) := by decide +kernel
theorem dL_isListed_172 : decode cL_isListed 172 = .ok (.iconst 1, 1) := by decide +kernel
theorem dL_isListed_173 : decode cL_isListed 173 = .ok (.isub, 1) := by decide +kernel
theorem dL_isListed_174 : decode cL_isListed 174 = .ok (.iload 9, 2) := by decide +kernel
theorem dL_isListed_176 : decode cL_isListed 176 = .ok (.isub, 1) := by decide +kernel
theorem dL_isListed_177 : decode cL_isListed 177 = .ok (.invokevirtual 32, 3) := by decide +kernel
theorem dL_isListed_180 : decode cL_isListed 180 = .ok (.if_icmp .ne 9, 3) := by decide +kernel
theorem dL_isListed_183 : decode cL_isListed 183 = .ok (.iinc 9 1, 3) := by decide +kernel
theorem dL_isListed_186 : decode cL_isListed 186 = .ok (.goto (-53), 3) := by decide +kernel
theorem dL_isListed_189 : decode cL_isListed 189 = .ok (.iload 7, 2) := by decide +kernel
theorem dL_isListed_191 : decode cL_isListed 191 = .ok (.ifCond .lt 61, 3) := by decide +kernel
theorem dL_isListed_194 : decode cL_isListed 194 = .ok (.iload 6, 2) := by decide +kernel
theorem dL_isListed_196 : decode cL_isListed 196 = .ok (.iconst 3, 1) := by decide +kernel
theorem dL_isListed_197 : decode cL_isListed 197 = .ok (.if_icmp .gt 55, 3) := by decide +kernel
theorem dL_isListed_200 : decode cL_isListed 200 = .ok (.iload 6, 2) := by decide +kernel
theorem dL_isListed_202 : decode cL_isListed 202 = .ok (.aload_n 0, 1) := by decide +kernel
theorem dL_isListed_203 : decode cL_isListed 203 = .ok (.iload_n 2, 1) := by decide +kernel
theorem dL_isListed_204 : decode cL_isListed 204 = .ok (.iload 4, 2) := by decide +kernel
theorem dL_isListed_206 : decode cL_isListed 206 = .ok (.invokevirtual 42, 3) := by decide +kernel
theorem dL_isListed_209 : decode cL_isListed 209 = .ok (.iconst 1, 1) := by decide +kernel
theorem dL_isListed_210 : decode cL_isListed 210 = .ok (.iadd, 1) := by decide +kernel
theorem dL_isListed_211 : decode cL_isListed 211 = .ok (.if_icmp .ne 41, 3) := by decide +kernel
theorem dL_isListed_214 : decode cL_isListed 214 = .ok (.aload_n 0, 1) := by decide +kernel
theorem dL_isListed_215 : decode cL_isListed 215 = .ok (.iload_n 2, 1) := by decide +kernel
theorem dL_isListed_216 : decode cL_isListed 216 = .ok (.iload_n 3, 1) := by decide +kernel
theorem dL_isListed_217 : decode cL_isListed 217 = .ok (.invokevirtual 45, 3) := by decide +kernel
theorem dL_isListed_220 : decode cL_isListed 220 = .ok (.iload 5, 2) := by decide +kernel
theorem dL_isListed_222 : decode cL_isListed 222 = .ok (.iload 8, 2) := by decide +kernel
theorem dL_isListed_224 : decode cL_isListed 224 = .ok (.isub, 1) := by decide +kernel
theorem dL_isListed_225 : decode cL_isListed 225 = .ok (.iload 9, 2) := by decide +kernel
theorem dL_isListed_227 : decode cL_isListed 227 = .ok (.isub, 1) := by decide +kernel
theorem dL_isListed_228 : decode cL_isListed 228 = .ok (.iconst 2, 1) := by decide +kernel
theorem dL_isListed_229 : decode cL_isListed 229 = .ok (.iadd, 1) := by decide +kernel
theorem dL_isListed_230 : decode cL_isListed 230 = .ok (.if_icmp .ne 22, 3) := by decide +kernel
theorem dL_isListed_233 : decode cL_isListed 233 = .ok (.iload 5, 2) := by decide +kernel
theorem dL_isListed_235 : decode cL_isListed 235 = .ok (.iload 8, 2) := by decide +kernel
theorem dL_isListed_237 : decode cL_isListed 237 = .ok (.isub, 1) := by decide +kernel
theorem dL_isListed_238 : decode cL_isListed 238 = .ok (.iload 9, 2) := by decide +kernel
theorem dL_isListed_240 : decode cL_isListed 240 = .ok (.isub, 1) := by decide +kernel
theorem dL_isListed_241 : decode cL_isListed 241 = .ok (.iconst 2, 1) := by decide +kernel
theorem dL_isListed_242 : decode cL_isListed 242 = .ok (.iadd, 1) := by decide +kernel
theorem dL_isListed_243 : decode cL_isListed 243 = .ok (.iload 5, 2) := by decide +kernel
theorem dL_isListed_245 : decode cL_isListed 245 = .ok (.if_icmp .ge 7, 3) := by decide +kernel
theorem dL_isListed_248 : decode cL_isListed 248 = .ok (.iconst 1, 1) := by decide +kernel
theorem dL_isListed_249 : decode cL_isListed 249 = .ok (.goto 4, 3) := by decide +kernel
theorem dL_isListed_252 : decode cL_isListed 252 = .ok (.iconst 0, 1) := by decide +kernel
theorem dL_isListed_253 : decode cL_isListed 253 = .ok (.ireturn, 1) := by decide +kernel
theorem dL_areUnlike_0 : decode cL_areUnlike 0 = .ok (.aload_n 0, 1) := by decide +kernel
theorem dL_areUnlike_1 : decode cL_areUnlike 1 = .ok (.iload_n 1, 1) := by decide +kernel
theorem dL_areUnlike_2 : decode cL_areUnlike 2 = .ok (.iload_n 2, 1) := by decide +kernel
theorem dL_areUnlike_3 : decode cL_areUnlike 3 = .ok (.invokevirtual 29, 3) := by decide +kernel
theorem dL_areUnlike_6 : decode cL_areUnlike 6 = .ok (.istore 7, 2) := by decide +kernel
theorem dL_areUnlike_8 : decode cL_areUnlike 8 = .ok (.aload_n 0, 1) := by decide +kernel
theorem dL_areUnlike_9 : decode cL_areUnlike 9 = .ok (.iload_n 3, 1) := by decide +kernel
theorem dL_areUnlike_10 : decode cL_areUnlike 10 = .ok (.iload 4, 2) := by decide +kernel
theorem dL_areUnlike_12 : decode cL_areUnlike 12 = .ok (.invokevirtual 29, 3) := by decide +kernel
theorem dL_areUnlike_15 : decode cL_areUnlike 15 = .ok (.istore 8, 2) := by decide +kernel
theorem dL_areUnlike_17 : decode cL_areUnlike 17 = .ok (.iload 7, 2) := by decide +kernel
theorem dL_areUnlike_19 : decode cL_areUnlike 19 = .ok (.ifCond .eq 8, 3) := by decide +kernel
theorem dL_areUnlike_22 : decode cL_areUnlike 22 = .ok (.iload 8, 2) := by decide +kernel
theorem dL_areUnlike_24 : decode cL_areUnlike 24 = .ok (.ifCond .ne 5, 3) := by decide +kernel
theorem dL_areUnlike_27 : decode cL_areUnlike 27 = .ok (.iconst 1, 1) := by decide +kernel
theorem dL_areUnlike_28 : decode cL_areUnlike 28 = .ok (.ireturn, 1) := by decide +kernel
theorem dL_areUnlike_29 : decode cL_areUnlike 29 = .ok (.iload 5, 2) := by decide +kernel
theorem dL_areUnlike_31 : decode cL_areUnlike 31 = .ok (.iload 7, 2) := by decide +kernel
theorem dL_areUnlike_33 : decode cL_areUnlike 33 = .ok (.irem, 1) := by decide +kernel
theorem dL_areUnlike_34 : decode cL_areUnlike 34 = .ok (.istore 9, 2) := by decide +kernel
theorem dL_areUnlike_36 : decode cL_areUnlike 36 = .ok (.iload 6, 2) := by decide +kernel
theorem dL_areUnlike_38 : decode cL_areUnlike 38 = .ok (.iload 8, 2) := by decide +kernel
theorem dL_areUnlike_40 : decode cL_areUnlike 40 = .ok (.irem, 1) := by decide +kernel
theorem dL_areUnlike_41 : decode cL_areUnlike 41 = .ok (.istore 10, 2) := by decide +kernel
theorem dL_areUnlike_43 : decode cL_areUnlike 43 = .ok (.iconst 0, 1) := by decide +kernel
theorem dL_areUnlike_44 : decode cL_areUnlike 44 = .ok (.istore 11, 2) := by decide +kernel
theorem dL_areUnlike_46 : decode cL_areUnlike 46 = .ok (.iconst 0, 1) := by decide +kernel
theorem dL_areUnlike_47 : decode cL_areUnlike 47 = .ok (.istore 12, 2) := by decide +kernel
theorem dL_areUnlike_49 : decode cL_areUnlike 49 = .ok (.iconst 0, 1) := by decide +kernel
theorem dL_areUnlike_50 : decode cL_areUnlike 50 = .ok (.istore 13, 2) := by decide +kernel
theorem dL_areUnlike_52 : decode cL_areUnlike 52 = .ok (.iload 13, 2) := by decide +kernel
theorem dL_areUnlike_54 : decode cL_areUnlike 54 = .ok (.iload 9, 2) := by decide +kernel
theorem dL_areUnlike_56 : decode cL_areUnlike 56 = .ok (.if_icmp .ge 26, 3) := by decide +kernel
theorem dL_areUnlike_59 : decode cL_areUnlike 59 = .ok (.iload 11, 2) := by decide +kernel
theorem dL_areUnlike_61 : decode cL_areUnlike 61 = .ok (.aload_n 0, 1) := by decide +kernel
theorem dL_areUnlike_62 : decode cL_areUnlike 62 = .ok (.aload_n 0, 1) := by decide +kernel
theorem dL_areUnlike_63 : decode cL_areUnlike 63 = .ok (.iload_n 1, 1) := by decide +kernel
theorem dL_areUnlike_64 : decode cL_areUnlike 64 = .ok (.iload_n 2, 1) := by decide +kernel
theorem dL_areUnlike_65 : decode cL_areUnlike 65 = .ok (.iload 13, 2) := by decide +kernel
theorem dL_areUnlike_67 : decode cL_areUnlike 67 = .ok (.invokevirtual 32, 3) := by decide +kernel
theorem dL_areUnlike_70 : decode cL_areUnlike 70 = .ok (.invokevirtual 35, 3) := by decide +kernel
theorem dL_areUnlike_73 : decode cL_areUnlike 73 = .ok (.iadd, 1) := by decide +kernel
theorem dL_areUnlike_74 : decode cL_areUnlike 74 = .ok (.istore 11, 2) := by decide +kernel
theorem dL_areUnlike_76 : decode cL_areUnlike 76 = .ok (.iinc 13 1, 3) := by decide +kernel
theorem dL_areUnlike_79 : decode cL_areUnlike 79 = .ok (.goto (-27), 3) := by decide +kernel
theorem dL_areUnlike_82 : decode cL_areUnlike 82 = .ok (.iconst 0, 1) := by decide +kernel
theorem dL_areUnlike_83 : decode cL_areUnlike 83 = .ok (.istore 13, 2) := by decide +kernel
theorem dL_areUnlike_85 : decode cL_areUnlike 85 = .ok (.iload 13, 2) := by decide +kernel
theorem dL_areUnlike_87 : decode cL_areUnlike 87 = .ok (.iload 10, 2) := by decide +kernel
theorem dL_areUnlike_89 : decode cL_areUnlike 89 = .ok (.if_icmp .ge 27, 3) := by decide +kernel
theorem dL_areUnlike_92 : decode cL_areUnlike 92 = .ok (.iload 12, 2) := by decide +kernel
theorem dL_areUnlike_94 : decode cL_areUnlike 94 = .ok (.aload_n 0, 1) := by decide +kernel
theorem dL_areUnlike_95 : decode cL_areUnlike 95 = .ok (.aload_n 0, 1) := by decide +kernel
theorem dL_areUnlike_96 : decode cL_areUnlike 96 = .ok (.iload_n 3, 1) := by decide +kernel
theorem dL_areUnlike_97 : decode cL_areUnlike 97 = .ok (.iload 4, 2) := by decide +kernel
theorem dL_areUnlike_99 : decode cL_areUnlike 99 = .ok (.iload 13, 2) := by decide +kernel
theorem dL_areUnlike_101 : decode cL_areUnlike 101 = .ok (.invokevirtual 32, 3) := by decide +kernel
theorem dL_areUnlike_104 : decode cL_areUnlike 104 = .ok (.invokevirtual 35, 3) := by decide +kernel
theorem dL_areUnlike_107 : decode cL_areUnlike 107 = .ok (.iadd, 1) := by decide +kernel
theorem dL_areUnlike_108 : decode cL_areUnlike 108 = .ok (.istore 12, 2) := by decide +kernel
theorem dL_areUnlike_110 : decode cL_areUnlike 110 = .ok (.iinc 13 1, 3) := by decide +kernel
theorem dL_areUnlike_113 : decode cL_areUnlike 113 = .ok (.goto (-28), 3) := by decide +kernel
theorem dL_areUnlike_116 : decode cL_areUnlike 116 = .ok (.aload_n 0, 1) := by decide +kernel
theorem dL_areUnlike_117 : decode cL_areUnlike 117 = .ok (.aload_n 0, 1) := by decide +kernel
theorem dL_areUnlike_118 : decode cL_areUnlike 118 = .ok (.iload_n 1, 1) := by decide +kernel
theorem dL_areUnlike_119 : decode cL_areUnlike 119 = .ok (.iload_n 2, 1) := by decide +kernel
theorem dL_areUnlike_120 : decode cL_areUnlike 120 = .ok (.iload 9, 2) := by decide +kernel
theorem dL_areUnlike_122 : decode cL_areUnlike 122 = .ok (.invokevirtual 32, 3) := by decide +kernel
theorem dL_areUnlike_125 : decode cL_areUnlike 125 = .ok (.invokevirtual 35, 3) := by decide +kernel
theorem dL_areUnlike_128 : decode cL_areUnlike 128 = .ok (.istore 13, 2) := by decide +kernel
theorem dL_areUnlike_130 : decode cL_areUnlike 130 = .ok (.iload 13, 2) := by decide +kernel
theorem dL_areUnlike_132 : decode cL_areUnlike 132 = .ok (.aload_n 0, 1) := by decide +kernel
theorem dL_areUnlike_133 : decode cL_areUnlike 133 = .ok (.aload_n 0, 1) := by decide +kernel
theorem dL_areUnlike_134 : decode cL_areUnlike 134 = .ok (.iload_n 3, 1) := by decide +kernel
theorem dL_areUnlike_135 : decode cL_areUnlike 135 = .ok (.iload 4, 2) := by decide +kernel
theorem dL_areUnlike_137 : decode cL_areUnlike 137 = .ok (.iload 10, 2) := by decide +kernel
theorem dL_areUnlike_139 : decode cL_areUnlike 139 = .ok (.invokevirtual 32, 3) := by decide +kernel
theorem dL_areUnlike_142 : decode cL_areUnlike 142 = .ok (.invokevirtual 35, 3) := by decide +kernel
theorem dL_areUnlike_145 : decode cL_areUnlike 145 = .ok (.if_icmp .ne 7, 3) := by decide +kernel
theorem dL_areUnlike_148 : decode cL_areUnlike 148 = .ok (.iconst 1, 1) := by decide +kernel
theorem dL_areUnlike_149 : decode cL_areUnlike 149 = .ok (.goto 4, 3) := by decide +kernel
theorem dL_areUnlike_152 : decode cL_areUnlike 152 = .ok (.iconst 0, 1) := by decide +kernel
theorem dL_areUnlike_153 : decode cL_areUnlike 153 = .ok (.istore 14, 2) := by decide +kernel
theorem dL_areUnlike_155 : decode cL_areUnlike 155 = .ok (.iconst 1, 1) := by decide +kernel
theorem dL_areUnlike_156 : decode cL_areUnlike 156 = .ok (.istore 15, 2) := by decide +kernel
theorem dL_areUnlike_158 : decode cL_areUnlike 158 = .ok (.iconst 0, 1) := by decide +kernel
theorem dL_areUnlike_159 : decode cL_areUnlike 159 = .ok (.istore 16, 2) := by decide +kernel
theorem dL_areUnlike_161 : decode cL_areUnlike 161 = .ok (.iconst 0, 1) := by decide +kernel
theorem dL_areUnlike_162 : decode cL_areUnlike 162 = .ok (.istore 17, 2) := by decide +kernel
theorem dL_areUnlike_164 : decode cL_areUnlike 164 = .ok (.iload 17, 2) := by decide +kernel
theorem dL_areUnlike_166 : decode cL_areUnlike 166 = .ok (.iload 13, 2) := by decide +kernel
theorem dL_areUnlike_168 : decode cL_areUnlike 168 = .ok (.if_icmp .ge 78, 3) := by decide +kernel
theorem dL_areUnlike_171 : decode cL_areUnlike 171 = .ok (.iload 14, 2) := by decide +kernel
theorem dL_areUnlike_173 : decode cL_areUnlike 173 = .ok (.ifCond .eq 33, 3) := by decide +kernel
theorem dL_areUnlike_176 : decode cL_areUnlike 176 = .ok (.aload_n 0, 1) := by decide +kernel
theorem dL_areUnlike_177 : decode cL_areUnlike 177 = .ok (.iload_n 1, 1) := by decide +kernel
theorem dL_areUnlike_178 : decode cL_areUnlike 178 = .ok (.iload_n 2, 1) := by decide +kernel
theorem dL_areUnlike_179 : decode cL_areUnlike 179 = .ok (.iload 11, 2) := by decide +kernel
theorem dL_areUnlike_181 : decode cL_areUnlike 181 = .ok (.iload 17, 2) := by decide +kernel
theorem dL_areUnlike_183 : decode cL_areUnlike 183 = .ok (.iadd, 1) := by decide +kernel
theorem dL_areUnlike_184 : decode cL_areUnlike 184 = .ok (.invokevirtual 26, 3) := by decide +kernel
theorem dL_areUnlike_187 : decode cL_areUnlike 187 = .ok (.aload_n 0, 1) := by decide +kernel
theorem dL_areUnlike_188 : decode cL_areUnlike 188 = .ok (.iload_n 3, 1) := by decide +kernel
theorem dL_areUnlike_189 : decode cL_areUnlike 189 = .ok (.iload 4, 2) := by decide +kernel
theorem dL_areUnlike_191 : decode cL_areUnlike 191 = .ok (.iload 12, 2) := by decide +kernel
theorem dL_areUnlike_193 : decode cL_areUnlike 193 = .ok (.iload 17, 2) := by decide +kernel
theorem dL_areUnlike_195 : decode cL_areUnlike 195 = .ok (.iadd, 1) := by decide +kernel
theorem dL_areUnlike_196 : decode cL_areUnlike 196 = .ok (.invokevirtual 26, 3) := by decide +kernel
theorem dL_areUnlike_199 : decode cL_areUnlike 199 = .ok (.if_icmp .ne 7, 3) := by decide +kernel
theorem dL_areUnlike_202 : decode cL_areUnlike 202 = .ok (.iconst 1, 1) := by decide +kernel
theorem dL_areUnlike_203 : decode cL_areUnlike 203 = .ok (.goto 4, 3) := by decide +kernel
theorem dL_areUnlike_206 : decode cL_areUnlike 206 = .ok (.iconst 0, 1) := by decide +kernel
theorem dL_areUnlike_207 : decode cL_areUnlike 207 = .ok (.istore 14, 2) := by decide +kernel
theorem dL_areUnlike_209 : decode cL_areUnlike 209 = .ok (.iload 15, 2) := by decide +kernel
theorem dL_areUnlike_211 : decode cL_areUnlike 211 = .ok (.aload_n 0, 1) := by decide +kernel
theorem dL_areUnlike_212 : decode cL_areUnlike 212 = .ok (.iload_n 1, 1) := by decide +kernel
theorem dL_areUnlike_213 : decode cL_areUnlike 213 = .ok (.iload_n 2, 1) := by decide +kernel
theorem dL_areUnlike_214 : decode cL_areUnlike 214 = .ok (.iload 11, 2) := by decide +kernel
theorem dL_areUnlike_216 : decode cL_areUnlike 216 = .ok (.iload 17, 2) := by decide +kernel
theorem dL_areUnlike_218 : decode cL_areUnlike 218 = .ok (.iadd, 1) := by decide +kernel
theorem dL_areUnlike_219 : decode cL_areUnlike 219 = .ok (.invokevirtual 26, 3) := by decide +kernel
theorem dL_areUnlike_222 : decode cL_areUnlike 222 = .ok (.iadd, 1) := by decide +kernel
theorem dL_areUnlike_223 : decode cL_areUnlike 223 = .ok (.sipush 251, 3) := by decide +kernel
theorem dL_areUnlike_226 : decode cL_areUnlike 226 = .ok (.irem, 1) := by decide +kernel
theorem dL_areUnlike_227 : decode cL_areUnlike 227 = .ok (.istore 15, 2) := by decide +kernel
theorem dL_areUnlike_229 : decode cL_areUnlike 229 = .ok (.iload 16, 2) := by decide +kernel
theorem dL_areUnlike_231 : decode cL_areUnlike 231 = .ok (.iload 15, 2) := by decide +kernel
theorem dL_areUnlike_233 : decode cL_areUnlike 233 = .ok (.iadd, 1) := by decide +kernel
theorem dL_areUnlike_234 : decode cL_areUnlike 234 = .ok (.sipush 251, 3) := by decide +kernel
theorem dL_areUnlike_237 : decode cL_areUnlike 237 = .ok (.irem, 1) := by decide +kernel
theorem dL_areUnlike_238 : decode cL_areUnlike 238 = .ok (.istore 16, 2) := by decide +kernel
theorem dL_areUnlike_240 : decode cL_areUnlike 240 = .ok (.iinc 17 1, 3) := by decide +kernel
theorem dL_areUnlike_243 : decode cL_areUnlike 243 = .ok (.goto (-79), 3) := by decide +kernel
theorem dL_areUnlike_246 : decode cL_areUnlike 246 = .ok (.iload 14, 2) := by decide +kernel
theorem dL_areUnlike_248 : decode cL_areUnlike 248 = .ok (.aload_n 0, 1) := by decide +kernel
theorem dL_areUnlike_249 : decode cL_areUnlike 249 = .ok (.iload_n 1, 1) := by decide +kernel
theorem dL_areUnlike_250 : decode cL_areUnlike 250 = .ok (.iload_n 2, 1) := by decide +kernel
theorem dL_areUnlike_251 : decode cL_areUnlike 251 = .ok (.iload 9, 2) := by decide +kernel
theorem dL_areUnlike_253 : decode cL_areUnlike 253 = .ok (.invokevirtual 32, 3) := by decide +kernel
theorem dL_areUnlike_256 : decode cL_areUnlike 256 = .ok (.aload_n 0, 1) := by decide +kernel
theorem dL_areUnlike_257 : decode cL_areUnlike 257 = .ok (.iload_n 3, 1) := by decide +kernel
theorem dL_areUnlike_258 : decode cL_areUnlike 258 = .ok (.iload 4, 2) := by decide +kernel
theorem dL_areUnlike_260 : decode cL_areUnlike 260 = .ok (.iload 10, 2) := by decide +kernel
theorem dL_areUnlike_262 : decode cL_areUnlike 262 = .ok (.invokevirtual 32, 3) := by decide +kernel
theorem dL_areUnlike_265 : decode cL_areUnlike 265 = .ok (.if_icmp .ne 7, 3) := by decide +kernel
theorem dL_areUnlike_268 : decode cL_areUnlike 268 = .ok (.iconst 1, 1) := by decide +kernel
theorem dL_areUnlike_269 : decode cL_areUnlike 269 = .ok (.goto 4, 3) := by decide +kernel
theorem dL_areUnlike_272 : decode cL_areUnlike 272 = .ok (.iconst 0, 1) := by decide +kernel
theorem dL_areUnlike_273 : decode cL_areUnlike 273 = .ok (.if_icmp .ne 31, 3) := by decide +kernel
theorem dL_areUnlike_276 : decode cL_areUnlike 276 = .ok (.aload_n 0, 1) := by decide +kernel
theorem dL_areUnlike_277 : decode cL_areUnlike 277 = .ok (.aload_n 0, 1) := by decide +kernel
theorem dL_areUnlike_278 : decode cL_areUnlike 278 = .ok (.iload_n 1, 1) := by decide +kernel
theorem dL_areUnlike_279 : decode cL_areUnlike 279 = .ok (.iload_n 2, 1) := by decide +kernel
theorem dL_areUnlike_280 : decode cL_areUnlike 280 = .ok (.iload 9, 2) := by decide +kernel
theorem dL_areUnlike_282 : decode cL_areUnlike 282 = .ok (.invokevirtual 32, 3) := by decide +kernel
theorem dL_areUnlike_285 : decode cL_areUnlike 285 = .ok (.invokevirtual 48, 3) := by decide +kernel
theorem dL_areUnlike_288 : decode cL_areUnlike 288 = .ok (.sipush 256, 3) := by decide +kernel
theorem dL_areUnlike_291 : decode cL_areUnlike 291 = .ok (.iload 16, 2) := by decide +kernel
theorem dL_areUnlike_293 : decode cL_areUnlike 293 = .ok (.imul, 1) := by decide +kernel
theorem dL_areUnlike_294 : decode cL_areUnlike 294 = .ok (.iload 15, 2) := by decide +kernel
theorem dL_areUnlike_296 : decode cL_areUnlike 296 = .ok (.iadd, 1) := by decide +kernel
theorem dL_areUnlike_297 : decode cL_areUnlike 297 = .ok (.if_icmp .ne 7, 3) := by decide +kernel
theorem dL_areUnlike_300 : decode cL_areUnlike 300 = .ok (.iconst 1, 1) := by decide +kernel
theorem dL_areUnlike_301 : decode cL_areUnlike 301 = .ok (.goto 4, 3) := by decide +kernel
theorem dL_areUnlike_304 : decode cL_areUnlike 304 = .ok (.iconst 0, 1) := by decide +kernel
theorem dL_areUnlike_305 : decode cL_areUnlike 305 = .ok (.ireturn, 1) := by decide +kernel
theorem dL_areVersions_0 : decode cL_areVersions 0 = .ok (.iconst 0, 1) := by decide +kernel
theorem dL_areVersions_1 : decode cL_areVersions 1 = .ok (.istore 4, 2) := by decide +kernel
theorem dL_areVersions_3 : decode cL_areVersions 3 = .ok (.iconst 0, 1) := by decide +kernel
theorem dL_areVersions_4 : decode cL_areVersions 4 = .ok (.istore 5, 2) := by decide +kernel
theorem dL_areVersions_6 : decode cL_areVersions 6 = .ok (.iconst 0, 1) := by decide +kernel
theorem dL_areVersions_7 : decode cL_areVersions 7 = .ok (.istore 6, 2) := by decide +kernel
theorem dL_areVersions_9 : decode cL_areVersions 9 = .ok (.iload 6, 2) := by decide +kernel
theorem dL_areVersions_11 : decode cL_areVersions 11 = .ok (.bipush 6, 2) := by decide +kernel
theorem dL_areVersions_13 : decode cL_areVersions 13 = .ok (.if_icmp .ge 135, 3) := by decide +kernel
theorem dL_areVersions_16 : decode cL_areVersions 16 = .ok (.iconst (-1), 1) := by decide +kernel
theorem dL_areVersions_17 : decode cL_areVersions 17 = .ok (.istore 7, 2) := by decide +kernel
theorem dL_areVersions_19 : decode cL_areVersions 19 = .ok (.iconst 0, 1) := by decide +kernel
theorem dL_areVersions_20 : decode cL_areVersions 20 = .ok (.istore 8, 2) := by decide +kernel
theorem dL_areVersions_22 : decode cL_areVersions 22 = .ok (.iload 8, 2) := by decide +kernel
theorem dL_areVersions_24 : decode cL_areVersions 24 = .ok (.bipush 64, 2) := by decide +kernel
theorem dL_areVersions_26 : decode cL_areVersions 26 = .ok (.if_icmp .ge 103, 3) := by decide +kernel
theorem dL_areVersions_29 : decode cL_areVersions 29 = .ok (.aload_n 1, 1) := by decide +kernel
theorem dL_areVersions_30 : decode cL_areVersions 30 = .ok (.iload 6, 2) := by decide +kernel
theorem dL_areVersions_32 : decode cL_areVersions 32 = .ok (.laload, 1) := by decide +kernel
theorem dL_areVersions_33 : decode cL_areVersions 33 = .ok (.iload 8, 2) := by decide +kernel
theorem dL_areVersions_35 : decode cL_areVersions 35 = .ok (.invokestatic 10, 3) := by decide +kernel
theorem dL_areVersions_38 : decode cL_areVersions 38 = .ok (.istore 9, 2) := by decide +kernel
theorem dL_areVersions_40 : decode cL_areVersions 40 = .ok (.aload_n 0, 1) := by decide +kernel
theorem dL_areVersions_41 : decode cL_areVersions 41 = .ok (.iload 6, 2) := by decide +kernel
theorem dL_areVersions_43 : decode cL_areVersions 43 = .ok (.iload 8, 2) := by decide +kernel
theorem dL_areVersions_45 : decode cL_areVersions 45 = .ok (.invokevirtual 51, 3) := by decide +kernel
theorem dL_areVersions_48 : decode cL_areVersions 48 = .ok (.iload 9, 2) := by decide +kernel
theorem dL_areVersions_50 : decode cL_areVersions 50 = .ok (.if_icmp .ne 20, 3) := by decide +kernel
theorem dL_areVersions_53 : decode cL_areVersions 53 = .ok (.iload 9, 2) := by decide +kernel
theorem dL_areVersions_55 : decode cL_areVersions 55 = .ok (.ifCond .eq 17, 3) := by decide +kernel
theorem dL_areVersions_58 : decode cL_areVersions 58 = .ok (.aload_n 0, 1) := by decide +kernel
theorem dL_areVersions_59 : decode cL_areVersions 59 = .ok (.aload_n 1, 1) := by decide +kernel
theorem dL_areVersions_60 : decode cL_areVersions 60 = .ok (.iload 6, 2) := by decide +kernel
theorem dL_areVersions_62 : decode cL_areVersions 62 = .ok (.iload 8, 2) := by decide +kernel
theorem dL_areVersions_64 : decode cL_areVersions 64 = .ok (.invokestatic 55, 3) := by decide +kernel
theorem dL_areVersions_67 : decode cL_areVersions 67 = .ok (.ifCond .ne 5, 3) := by decide +kernel
theorem dL_areVersions_70 : decode cL_areVersions 70 = .ok (.iconst 0, 1) := by decide +kernel
theorem dL_areVersions_71 : decode cL_areVersions 71 = .ok (.ireturn, 1) := by decide +kernel
theorem dL_areVersions_72 : decode cL_areVersions 72 = .ok (.iload 4, 2) := by decide +kernel
theorem dL_areVersions_74 : decode cL_areVersions 74 = .ok (.iload 9, 2) := by decide +kernel
theorem dL_areVersions_76 : decode cL_areVersions 76 = .ok (.ifCond .eq 14, 3) := by decide +kernel
theorem dL_areVersions_79 : decode cL_areVersions 79 = .ok (.aload_n 0, 1) := by decide +kernel
theorem dL_areVersions_80 : decode cL_areVersions 80 = .ok (.iload 6, 2) := by decide +kernel
theorem dL_areVersions_82 : decode cL_areVersions 82 = .ok (.iload 8, 2) := by decide +kernel
theorem dL_areVersions_84 : decode cL_areVersions 84 = .ok (.invokevirtual 16, 3) := by decide +kernel
theorem dL_areVersions_87 : decode cL_areVersions 87 = .ok (.goto 4, 3) := by decide +kernel
theorem dL_areVersions_90 : decode cL_areVersions 90 = .ok (.iconst 0, 1) := by decide +kernel
theorem dL_areVersions_91 : decode cL_areVersions 91 = .ok (.iadd, 1) := by decide +kernel
theorem dL_areVersions_92 : decode cL_areVersions 92 = .ok (.istore 4, 2) := by decide +kernel
theorem dL_areVersions_94 : decode cL_areVersions 94 = .ok (.iload 5, 2) := by decide +kernel
theorem dL_areVersions_96 : decode cL_areVersions 96 = .ok (.iload 9, 2) := by decide +kernel
theorem dL_areVersions_98 : decode cL_areVersions 98 = .ok (.ifCond .eq 7, 3) := by decide +kernel
theorem dL_areVersions_101 : decode cL_areVersions 101 = .ok (.iconst 1, 1) := by decide +kernel
theorem dL_areVersions_102 : decode cL_areVersions 102 = .ok (.goto 4, 3) := by decide +kernel
theorem dL_areVersions_105 : decode cL_areVersions 105 = .ok (.iconst 0, 1) := by decide +kernel
theorem dL_areVersions_106 : decode cL_areVersions 106 = .ok (.iadd, 1) := by decide +kernel
theorem dL_areVersions_107 : decode cL_areVersions 107 = .ok (.istore 5, 2) := by decide +kernel
theorem dL_areVersions_109 : decode cL_areVersions 109 = .ok (.iload 9, 2) := by decide +kernel
theorem dL_areVersions_111 : decode cL_areVersions 111 = .ok (.ifCond .eq 8, 3) := by decide +kernel
theorem dL_areVersions_114 : decode cL_areVersions 114 = .ok (.iload 8, 2) := by decide +kernel
theorem dL_areVersions_116 : decode cL_areVersions 116 = .ok (.goto 5, 3) := by decide +kernel
theorem dL_areVersions_119 : decode cL_areVersions 119 = .ok (.iload 7, 2) := by decide +kernel
theorem dL_areVersions_121 : decode cL_areVersions 121 = .ok (.istore 7, 2) := by decide +kernel
theorem dL_areVersions_123 : decode cL_areVersions 123 = .ok (.iinc 8 1, 3) := by decide +kernel
theorem dL_areVersions_126 : decode cL_areVersions 126 = .ok (.goto (-104), 3) := by decide +kernel
theorem dL_areVersions_129 : decode cL_areVersions 129 = .ok (.aload_n 0, 1) := by decide +kernel
theorem dL_areVersions_130 : decode cL_areVersions 130 = .ok (.iload 6, 2) := by decide +kernel
theorem dL_areVersions_132 : decode cL_areVersions 132 = .ok (.invokevirtual 59, 3) := by decide +kernel
theorem dL_areVersions_135 : decode cL_areVersions 135 = .ok (.iload 7, 2) := by decide +kernel
theorem dL_areVersions_137 : decode cL_areVersions 137 = .ok (.if_icmp .eq 5, 3) := by decide +kernel
theorem dL_areVersions_140 : decode cL_areVersions 140 = .ok (.iconst 0, 1) := by decide +kernel
theorem dL_areVersions_141 : decode cL_areVersions 141 = .ok (.ireturn, 1) := by decide +kernel
theorem dL_areVersions_142 : decode cL_areVersions 142 = .ok (.iinc 6 1, 3) := by decide +kernel
theorem dL_areVersions_145 : decode cL_areVersions 145 = .ok (.goto (-136), 3) := by decide +kernel
theorem dL_areVersions_148 : decode cL_areVersions 148 = .ok (.iload_n 2, 1) := by decide +kernel
theorem dL_areVersions_149 : decode cL_areVersions 149 = .ok (.bipush 6, 2) := by decide +kernel
theorem dL_areVersions_151 : decode cL_areVersions 151 = .ok (.irem, 1) := by decide +kernel
theorem dL_areVersions_152 : decode cL_areVersions 152 = .ok (.istore 6, 2) := by decide +kernel
theorem dL_areVersions_154 : decode cL_areVersions 154 = .ok (.iload_n 3, 1) := by decide +kernel
theorem dL_areVersions_155 : decode cL_areVersions 155 = .ok (.bipush 6, 2) := by decide +kernel
theorem dL_areVersions_157 : decode cL_areVersions 157 = .ok (.irem, 1) := by decide +kernel
theorem dL_areVersions_158 : decode cL_areVersions 158 = .ok (.istore 7, 2) := by decide +kernel
theorem dL_areVersions_160 : decode cL_areVersions 160 = .ok (.aload_n 1, 1) := by decide +kernel
theorem dL_areVersions_161 : decode cL_areVersions 161 = .ok (.iload 6, 2) := by decide +kernel
theorem dL_areVersions_163 : decode cL_areVersions 163 = .ok (.iload_n 2, 1) := by decide +kernel
theorem dL_areVersions_164 : decode cL_areVersions 164 = .ok (.bipush 6, 2) := by decide +kernel
