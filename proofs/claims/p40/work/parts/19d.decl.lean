/-! what stands at each place of the law's methods: printed -/
theorem dL_collects_11 : decode cL_collects 11 = .ok (.invokevirtual 81, 3) := by decide +kernel
theorem dL_collects_14 : decode cL_collects 14 = .ok (.istore 4, 2) := by decide +kernel
theorem dL_collects_16 : decode cL_collects 16 = .ok (.aload_n 0, 1) := by decide +kernel
theorem dL_collects_17 : decode cL_collects 17 = .ok (.invokevirtual 144, 3) := by decide +kernel
theorem dL_collects_20 : decode cL_collects 20 = .ok (.istore 5, 2) := by decide +kernel
theorem dL_collects_22 : decode cL_collects 22 = .ok (.iload 5, 2) := by decide +kernel
theorem dL_collects_24 : decode cL_collects 24 = .ok (.ifCond .lt 38, 3) := by decide +kernel
theorem dL_collects_27 : decode cL_collects 27 = .ok (.aload_n 0, 1) := by decide +kernel
theorem dL_collects_28 : decode cL_collects 28 = .ok (.invokevirtual 101, 3) := by decide +kernel
theorem dL_collects_31 : decode cL_collects 31 = .ok (.iload_n 2, 1) := by decide +kernel
theorem dL_collects_32 : decode cL_collects 32 = .ok (.iload 5, 2) := by decide +kernel
theorem dL_collects_34 : decode cL_collects 34 = .ok (.isub, 1) := by decide +kernel
theorem dL_collects_35 : decode cL_collects 35 = .ok (.if_icmp .ne 27, 3) := by decide +kernel
theorem dL_collects_38 : decode cL_collects 38 = .ok (.aload_n 0, 1) := by decide +kernel
theorem dL_collects_39 : decode cL_collects 39 = .ok (.invokevirtual 104, 3) := by decide +kernel
theorem dL_collects_42 : decode cL_collects 42 = .ok (.iload_n 3, 1) := by decide +kernel
theorem dL_collects_43 : decode cL_collects 43 = .ok (.iload 5, 2) := by decide +kernel
theorem dL_collects_45 : decode cL_collects 45 = .ok (.isub, 1) := by decide +kernel
theorem dL_collects_46 : decode cL_collects 46 = .ok (.if_icmp .ne 16, 3) := by decide +kernel
theorem dL_collects_49 : decode cL_collects 49 = .ok (.aload_n 0, 1) := by decide +kernel
theorem dL_collects_50 : decode cL_collects 50 = .ok (.invokevirtual 81, 3) := by decide +kernel
theorem dL_collects_53 : decode cL_collects 53 = .ok (.iload 4, 2) := by decide +kernel
theorem dL_collects_55 : decode cL_collects 55 = .ok (.if_icmp .lt 7, 3) := by decide +kernel
theorem dL_collects_58 : decode cL_collects 58 = .ok (.iconst 1, 1) := by decide +kernel
theorem dL_collects_59 : decode cL_collects 59 = .ok (.goto 4, 3) := by decide +kernel
theorem dL_collects_62 : decode cL_collects 62 = .ok (.iconst 0, 1) := by decide +kernel
theorem dL_collects_63 : decode cL_collects 63 = .ok (.istore 6, 2) := by decide +kernel
theorem dL_collects_65 : decode cL_collects 65 = .ok (.iconst 0, 1) := by decide +kernel
theorem dL_collects_66 : decode cL_collects 66 = .ok (.istore 7, 2) := by decide +kernel
theorem dL_collects_68 : decode cL_collects 68 = .ok (.iload 7, 2) := by decide +kernel
theorem dL_collects_70 : decode cL_collects 70 = .ok (.sipush 384, 3) := by decide +kernel
theorem dL_collects_73 : decode cL_collects 73 = .ok (.if_icmp .ge 95, 3) := by decide +kernel
theorem dL_collects_76 : decode cL_collects 76 = .ok (.iload 6, 2) := by decide +kernel
theorem dL_collects_78 : decode cL_collects 78 = .ok (.ifCond .eq 90, 3) := by decide +kernel
theorem dL_collects_81 : decode cL_collects 81 = .ok (.aload_n 1, 1) := by decide +kernel
theorem dL_collects_82 : decode cL_collects 82 = .ok (.iload 7, 2) := by decide +kernel
theorem dL_collects_84 : decode cL_collects 84 = .ok (.bipush 64, 2) := by decide +kernel
theorem dL_collects_86 : decode cL_collects 86 = .ok (.idiv, 1) := by decide +kernel
theorem dL_collects_87 : decode cL_collects 87 = .ok (.laload, 1) := by decide +kernel
theorem dL_collects_88 : decode cL_collects 88 = .ok (.iload 7, 2) := by decide +kernel
theorem dL_collects_90 : decode cL_collects 90 = .ok (.bipush 64, 2) := by decide +kernel
theorem dL_collects_92 : decode cL_collects 92 = .ok (.irem, 1) := by decide +kernel
theorem dL_collects_93 : decode cL_collects 93 = .ok (.invokestatic 10, 3) := by decide +kernel
theorem dL_collects_96 : decode cL_collects 96 = .ok (.ifCond .eq 20, 3) := by decide +kernel
theorem dL_collects_99 : decode cL_collects 99 = .ok (.aload_n 0, 1) := by decide +kernel
theorem dL_collects_100 : decode cL_collects 100 = .ok (.iload 7, 2) := by decide +kernel
theorem dL_collects_102 : decode cL_collects 102 = .ok (.bipush 64, 2) := by decide +kernel
theorem dL_collects_104 : decode cL_collects 104 = .ok (.idiv, 1) := by decide +kernel
theorem dL_collects_105 : decode cL_collects 105 = .ok (.iload 7, 2) := by decide +kernel
theorem dL_collects_107 : decode cL_collects 107 = .ok (.bipush 64, 2) := by decide +kernel
theorem dL_collects_109 : decode cL_collects 109 = .ok (.irem, 1) := by decide +kernel
theorem dL_collects_110 : decode cL_collects 110 = .ok (.invokevirtual 29, 3) := by decide +kernel
theorem dL_collects_113 : decode cL_collects 113 = .ok (.goto 4, 3) := by decide +kernel
theorem dL_collects_116 : decode cL_collects 116 = .ok (.iconst 0, 1) := by decide +kernel
theorem dL_collects_117 : decode cL_collects 117 = .ok (.istore 8, 2) := by decide +kernel
theorem dL_collects_119 : decode cL_collects 119 = .ok (.iconst 0, 1) := by decide +kernel
theorem dL_collects_120 : decode cL_collects 120 = .ok (.istore 9, 2) := by decide +kernel
theorem dL_collects_122 : decode cL_collects 122 = .ok (.iload 9, 2) := by decide +kernel
theorem dL_collects_124 : decode cL_collects 124 = .ok (.iload 8, 2) := by decide +kernel
theorem dL_collects_126 : decode cL_collects 126 = .ok (.if_icmp .ge 36, 3) := by decide +kernel
theorem dL_collects_129 : decode cL_collects 129 = .ok (.iload 6, 2) := by decide +kernel
theorem dL_collects_131 : decode cL_collects 131 = .ok (.ifCond .eq 31, 3) := by decide +kernel
theorem dL_collects_134 : decode cL_collects 134 = .ok (.aload_n 0, 1) := by decide +kernel
theorem dL_collects_135 : decode cL_collects 135 = .ok (.aload_n 0, 1) := by decide +kernel
theorem dL_collects_136 : decode cL_collects 136 = .ok (.iload 7, 2) := by decide +kernel
theorem dL_collects_138 : decode cL_collects 138 = .ok (.bipush 64, 2) := by decide +kernel
theorem dL_collects_140 : decode cL_collects 140 = .ok (.idiv, 1) := by decide +kernel
theorem dL_collects_141 : decode cL_collects 141 = .ok (.iload 7, 2) := by decide +kernel
theorem dL_collects_143 : decode cL_collects 143 = .ok (.bipush 64, 2) := by decide +kernel
theorem dL_collects_145 : decode cL_collects 145 = .ok (.irem, 1) := by decide +kernel
theorem dL_collects_146 : decode cL_collects 146 = .ok (.iload 9, 2) := by decide +kernel
theorem dL_collects_148 : decode cL_collects 148 = .ok (.invokevirtual 32, 3) := by decide +kernel
theorem dL_collects_151 : decode cL_collects 151 = .ok (.invokevirtual 84, 3) := by decide +kernel
theorem dL_collects_154 : decode cL_collects 154 = .ok (.istore 6, 2) := by decide +kernel
theorem dL_collects_156 : decode cL_collects 156 = .ok (.iinc 9 1, 3) := by decide +kernel
theorem dL_collects_159 : decode cL_collects 159 = .ok (.goto (-37), 3) := by decide +kernel
theorem dL_collects_162 : decode cL_collects 162 = .ok (.iinc 7 1, 3) := by decide +kernel
theorem dL_collects_165 : decode cL_collects 165 = .ok (.goto (-97), 3) := by decide +kernel
theorem dL_collects_168 : decode cL_collects 168 = .ok (.iconst 0, 1) := by decide +kernel
theorem dL_collects_169 : decode cL_collects 169 = .ok (.istore 7, 2) := by decide +kernel
theorem dL_collects_171 : decode cL_collects 171 = .ok (.iload 7, 2) := by decide +kernel
theorem dL_collects_173 : decode cL_collects 173 = .ok (.iload 4, 2) := by decide +kernel
theorem dL_collects_175 : decode cL_collects 175 = .ok (.if_icmp .ge 120, 3) := by decide +kernel
theorem dL_collects_178 : decode cL_collects 178 = .ok (.iload 6, 2) := by decide +kernel
theorem dL_collects_180 : decode cL_collects 180 = .ok (.ifCond .eq 115, 3) := by decide +kernel
theorem dL_collects_183 : decode cL_collects 183 = .ok (.iconst 0, 1) := by decide +kernel
theorem dL_collects_184 : decode cL_collects 184 = .ok (.istore 8, 2) := by decide +kernel
theorem dL_collects_186 : decode cL_collects 186 = .ok (.iconst 0, 1) := by decide +kernel
theorem dL_collects_187 : decode cL_collects 187 = .ok (.istore 9, 2) := by decide +kernel
theorem dL_collects_189 : decode cL_collects 189 = .ok (.iconst 0, 1) := by decide +kernel
theorem dL_collects_190 : decode cL_collects 190 = .ok (.istore 10, 2) := by decide +kernel
theorem dL_collects_192 : decode cL_collects 192 = .ok (.iload 10, 2) := by decide +kernel
theorem dL_collects_194 : decode cL_collects 194 = .ok (.i2l, 1) := by decide +kernel
theorem dL_collects_195 : decode cL_collects 195 = .ok (.aload_n 1, 1) := by decide +kernel
theorem dL_collects_196 : decode cL_collects 196 = .ok (.bipush 6, 2) := by decide +kernel
theorem dL_collects_198 : decode cL_collects 198 = .ok (.laload, 1) := by decide +kernel
theorem dL_collects_199 : decode cL_collects 199 = .ok (.lcmp, 1) := by decide +kernel
theorem dL_collects_200 : decode cL_collects 200 = .ok (.ifCond .ge 73, 3) := by decide +kernel
theorem dL_collects_203 : decode cL_collects 203 = .ok (.aload_n 0, 1) := by decide +kernel
theorem dL_collects_204 : decode cL_collects 204 = .ok (.iload 10, 2) := by decide +kernel
theorem dL_collects_206 : decode cL_collects 206 = .ok (.invokevirtual 84, 3) := by decide +kernel
theorem dL_collects_209 : decode cL_collects 209 = .ok (.ifCond .eq 23, 3) := by decide +kernel
theorem dL_collects_212 : decode cL_collects 212 = .ok (.aload_n 0, 1) := by decide +kernel
theorem dL_collects_213 : decode cL_collects 213 = .ok (.iload 10, 2) := by decide +kernel
theorem dL_collects_215 : decode cL_collects 215 = .ok (.invokevirtual 88, 3) := by decide +kernel
theorem dL_collects_218 : decode cL_collects 218 = .ok (.iload 7, 2) := by decide +kernel
theorem dL_collects_220 : decode cL_collects 220 = .ok (.if_icmp .ne 12, 3) := by decide +kernel
theorem dL_collects_223 : decode cL_collects 223 = .ok (.aload_n 0, 1) := by decide +kernel
theorem dL_collects_224 : decode cL_collects 224 = .ok (.iload 10, 2) := by decide +kernel
theorem dL_collects_226 : decode cL_collects 226 = .ok (.invokevirtual 35, 3) := by decide +kernel
theorem dL_collects_229 : decode cL_collects 229 = .ok (.goto 4, 3) := by decide +kernel
theorem dL_collects_232 : decode cL_collects 232 = .ok (.iconst 0, 1) := by decide +kernel
theorem dL_collects_233 : decode cL_collects 233 = .ok (.istore 11, 2) := by decide +kernel
theorem dL_collects_235 : decode cL_collects 235 = .ok (.iload 8, 2) := by decide +kernel
theorem dL_collects_237 : decode cL_collects 237 = .ok (.iload 11, 2) := by decide +kernel
theorem dL_collects_239 : decode cL_collects 239 = .ok (.iadd, 1) := by decide +kernel
theorem dL_collects_240 : decode cL_collects 240 = .ok (.istore 8, 2) := by decide +kernel
theorem dL_collects_242 : decode cL_collects 242 = .ok (.iload 9, 2) := by decide +kernel
theorem dL_collects_244 : decode cL_collects 244 = .ok (.iload 11, 2) := by decide +kernel
theorem dL_collects_246 : decode cL_collects 246 = .ok (.ifCond .le 17, 3) := by decide +kernel
theorem dL_collects_249 : decode cL_collects 249 = .ok (.aload_n 0, 1) := by decide +kernel
theorem dL_collects_250 : decode cL_collects 250 = .ok (.iload 10, 2) := by decide +kernel
theorem dL_collects_252 : decode cL_collects 252 = .ok (.invokevirtual 91, 3) := by decide +kernel
theorem dL_collects_255 : decode cL_collects 255 = .ok (.ifCond .ne 8, 3) := by decide +kernel
theorem dL_collects_258 : decode cL_collects 258 = .ok (.iload 11, 2) := by decide +kernel
theorem dL_collects_260 : decode cL_collects 260 = .ok (.goto 4, 3) := by decide +kernel
theorem dL_collects_263 : decode cL_collects 263 = .ok (.iconst 0, 1) := by decide +kernel
theorem dL_collects_264 : decode cL_collects 264 = .ok (.iadd, 1) := by decide +kernel
theorem dL_collects_265 : decode cL_collects 265 = .ok (.istore 9, 2) := by decide +kernel
theorem dL_collects_267 : decode cL_collects 267 = .ok (.iinc 10 1, 3) := by decide +kernel
theorem dL_collects_270 : decode cL_collects 270 = .ok (.goto (-78), 3) := by decide +kernel
theorem dL_collects_273 : decode cL_collects 273 = .ok (.iconst 2, 1) := by decide +kernel
theorem dL_collects_274 : decode cL_collects 274 = .ok (.iload 9, 2) := by decide +kernel
theorem dL_collects_276 : decode cL_collects 276 = .ok (.imul, 1) := by decide +kernel
theorem dL_collects_277 : decode cL_collects 277 = .ok (.iload 8, 2) := by decide +kernel
theorem dL_collects_279 : decode cL_collects 279 = .ok (.if_icmp .gt 7, 3) := by decide +kernel
theorem dL_collects_282 : decode cL_collects 282 = .ok (.iconst 1, 1) := by decide +kernel
theorem dL_collects_283 : decode cL_collects 283 = .ok (.goto 4, 3) := by decide +kernel
theorem dL_collects_286 : decode cL_collects 286 = .ok (.iconst 0, 1) := by decide +kernel
theorem dL_collects_287 : decode cL_collects 287 = .ok (.istore 6, 2) := by decide +kernel
theorem dL_collects_289 : decode cL_collects 289 = .ok (.iinc 7 1, 3) := by decide +kernel
theorem dL_collects_292 : decode cL_collects 292 = .ok (.goto (-121), 3) := by decide +kernel
theorem dL_collects_295 : decode cL_collects 295 = .ok (.iload 6, 2) := by decide +kernel
theorem dL_collects_297 : decode cL_collects 297 = .ok (.ireturn, 1) := by decide +kernel
theorem dL_drafts_0 : decode cL_drafts 0 = .ok (.aload_n 0, 1) := by decide +kernel
theorem dL_drafts_1 : decode cL_drafts 1 = .ok (.invokevirtual 129, 3) := by decide +kernel
theorem dL_drafts_4 : decode cL_drafts 4 = .ok (.istore 5, 2) := by decide +kernel
theorem dL_drafts_6 : decode cL_drafts 6 = .ok (.iload_n 1, 1) := by decide +kernel
theorem dL_drafts_7 : decode cL_drafts 7 = .ok (.ifCond .ne 118, 3) := by decide +kernel
theorem dL_drafts_10 : decode cL_drafts 10 = .ok (.iconst 1, 1) := by decide +kernel
theorem dL_drafts_11 : decode cL_drafts 11 = .ok (.iload_n 2, 1) := by decide +kernel
theorem dL_drafts_12 : decode cL_drafts 12 = .ok (.bipush 64, 2) := by decide +kernel
theorem dL_drafts_14 : decode cL_drafts 14 = .ok (.irem, 1) := by decide +kernel
theorem dL_drafts_15 : decode cL_drafts 15 = .ok (.iadd, 1) := by decide +kernel
theorem dL_drafts_16 : decode cL_drafts 16 = .ok (.istore 6, 2) := by decide +kernel
theorem dL_drafts_18 : decode cL_drafts 18 = .ok (.iload_n 2, 1) := by decide +kernel
theorem dL_drafts_19 : decode cL_drafts 19 = .ok (.bipush 64, 2) := by decide +kernel
theorem dL_drafts_21 : decode cL_drafts 21 = .ok (.idiv, 1) := by decide +kernel
theorem dL_drafts_22 : decode cL_drafts 22 = .ok (.sipush 256, 3) := by decide +kernel
theorem dL_drafts_25 : decode cL_drafts 25 = .ok (.irem, 1) := by decide +kernel
theorem dL_drafts_26 : decode cL_drafts 26 = .ok (.istore 7, 2) := by decide +kernel
theorem dL_drafts_28 : decode cL_drafts 28 = .ok (.iload_n 3, 1) := by decide +kernel
theorem dL_drafts_29 : decode cL_drafts 29 = .ok (.iconst 3, 1) := by decide +kernel
theorem dL_drafts_30 : decode cL_drafts 30 = .ok (.irem, 1) := by decide +kernel
theorem dL_drafts_31 : decode cL_drafts 31 = .ok (.ifCond .ne 13, 3) := by decide +kernel
theorem dL_drafts_34 : decode cL_drafts 34 = .ok (.iload_n 3, 1) := by decide +kernel
theorem dL_drafts_35 : decode cL_drafts 35 = .ok (.iconst 3, 1) := by decide +kernel
theorem dL_drafts_36 : decode cL_drafts 36 = .ok (.idiv, 1) := by decide +kernel
theorem dL_drafts_37 : decode cL_drafts 37 = .ok (.sipush 256, 3) := by decide +kernel
theorem dL_drafts_40 : decode cL_drafts 40 = .ok (.irem, 1) := by decide +kernel
theorem dL_drafts_41 : decode cL_drafts 41 = .ok (.goto 8, 3) := by decide +kernel
theorem dL_drafts_44 : decode cL_drafts 44 = .ok (.iload_n 3, 1) := by decide +kernel
theorem dL_drafts_45 : decode cL_drafts 45 = .ok (.iconst 3, 1) := by decide +kernel
theorem dL_drafts_46 : decode cL_drafts 46 = .ok (.irem, 1) := by decide +kernel
theorem dL_drafts_47 : decode cL_drafts 47 = .ok (.iconst 1, 1) := by decide +kernel
theorem dL_drafts_48 : decode cL_drafts 48 = .ok (.isub, 1) := by decide +kernel
theorem dL_drafts_49 : decode cL_drafts 49 = .ok (.istore 8, 2) := by decide +kernel
theorem dL_drafts_51 : decode cL_drafts 51 = .ok (.iload 5, 2) := by decide +kernel
theorem dL_drafts_53 : decode cL_drafts 53 = .ok (.iload 6, 2) := by decide +kernel
theorem dL_drafts_55 : decode cL_drafts 55 = .ok (.iadd, 1) := by decide +kernel
theorem dL_drafts_56 : decode cL_drafts 56 = .ok (.sipush 240, 3) := by decide +kernel
theorem dL_drafts_59 : decode cL_drafts 59 = .ok (.if_icmp .gt 60, 3) := by decide +kernel
theorem dL_drafts_62 : decode cL_drafts 62 = .ok (.aload_n 0, 1) := by decide +kernel
theorem dL_drafts_63 : decode cL_drafts 63 = .ok (.iload 7, 2) := by decide +kernel
theorem dL_drafts_65 : decode cL_drafts 65 = .ok (.iload 8, 2) := by decide +kernel
theorem dL_drafts_67 : decode cL_drafts 67 = .ok (.iload 6, 2) := by decide +kernel
theorem dL_drafts_69 : decode cL_drafts 69 = .ok (.invokevirtual 147, 3) := by decide +kernel
theorem dL_drafts_72 : decode cL_drafts 72 = .ok (.iload 5, 2) := by decide +kernel
theorem dL_drafts_74 : decode cL_drafts 74 = .ok (.iload 6, 2) := by decide +kernel
theorem dL_drafts_76 : decode cL_drafts 76 = .ok (.iadd, 1) := by decide +kernel
theorem dL_drafts_77 : decode cL_drafts 77 = .ok (.if_icmp .ne 46, 3) := by decide +kernel
theorem dL_drafts_80 : decode cL_drafts 80 = .ok (.aload_n 0, 1) := by decide +kernel
theorem dL_drafts_81 : decode cL_drafts 81 = .ok (.iload 5, 2) := by decide +kernel
theorem dL_drafts_83 : decode cL_drafts 83 = .ok (.invokevirtual 132, 3) := by decide +kernel
theorem dL_drafts_86 : decode cL_drafts 86 = .ok (.iload 7, 2) := by decide +kernel
theorem dL_drafts_88 : decode cL_drafts 88 = .ok (.if_icmp .ne 35, 3) := by decide +kernel
theorem dL_drafts_91 : decode cL_drafts 91 = .ok (.aload_n 0, 1) := by decide +kernel
theorem dL_drafts_92 : decode cL_drafts 92 = .ok (.iload 5, 2) := by decide +kernel
theorem dL_drafts_94 : decode cL_drafts 94 = .ok (.iload 6, 2) := by decide +kernel
theorem dL_drafts_96 : decode cL_drafts 96 = .ok (.iadd, 1) := by decide +kernel
theorem dL_drafts_97 : decode cL_drafts 97 = .ok (.iconst 1, 1) := by decide +kernel
theorem dL_drafts_98 : decode cL_drafts 98 = .ok (.isub, 1) := by decide +kernel
theorem dL_drafts_99 : decode cL_drafts 99 = .ok (.invokevirtual 132, 3) := by decide +kernel
theorem dL_drafts_102 : decode cL_drafts 102 = .ok (.iload 7, 2) := by decide +kernel
theorem dL_drafts_104 : decode cL_drafts 104 = .ok (.iload 8, 2) := by decide +kernel
theorem dL_drafts_106 : decode cL_drafts 106 = .ok (.iload 6, 2) := by decide +kernel
theorem dL_drafts_108 : decode cL_drafts 108 = .ok (.iconst 1, 1) := by decide +kernel
theorem dL_drafts_109 : decode cL_drafts 109 = .ok (.isub, 1) := by decide +kernel
theorem dL_drafts_110 : decode cL_drafts 110 = .ok (.imul, 1) := by decide +kernel
theorem dL_drafts_111 : decode cL_drafts 111 = .ok (.iadd, 1) := by decide +kernel
theorem dL_drafts_112 : decode cL_drafts 112 = .ok (.sipush 256, 3) := by decide +kernel
theorem dL_drafts_115 : decode cL_drafts 115 = .ok (.irem, 1) := by decide +kernel
theorem dL_drafts_116 : decode cL_drafts 116 = .ok (.if_icmp .ne 7, 3) := by decide +kernel
theorem dL_drafts_119 : decode cL_drafts 119 = .ok (.iconst 1, 1) := by decide +kernel
theorem dL_drafts_120 : decode cL_drafts 120 = .ok (.goto 4, 3) := by decide +kernel
theorem dL_drafts_123 : decode cL_drafts 123 = .ok (.iconst 0, 1) := by decide +kernel
theorem dL_drafts_124 : decode cL_drafts 124 = .ok (.ireturn, 1) := by decide +kernel
theorem dL_drafts_125 : decode cL_drafts 125 = .ok (.iload_n 1, 1) := by decide +kernel
theorem dL_drafts_126 : decode cL_drafts 126 = .ok (.iconst 1, 1) := by decide +kernel
theorem dL_drafts_127 : decode cL_drafts 127 = .ok (.if_icmp .ne 158, 3) := by decide +kernel
theorem dL_drafts_130 : decode cL_drafts 130 = .ok (.iload_n 2, 1) := by decide +kernel
theorem dL_drafts_131 : decode cL_drafts 131 = .ok (.bipush 6, 2) := by decide +kernel
theorem dL_drafts_133 : decode cL_drafts 133 = .ok (.irem, 1) := by decide +kernel
theorem dL_drafts_134 : decode cL_drafts 134 = .ok (.istore 6, 2) := by decide +kernel
theorem dL_drafts_136 : decode cL_drafts 136 = .ok (.aload 4, 2) := by decide +kernel
theorem dL_drafts_138 : decode cL_drafts 138 = .ok (.iload 6, 2) := by decide +kernel
theorem dL_drafts_140 : decode cL_drafts 140 = .ok (.iload_n 3, 1) := by decide +kernel
theorem dL_drafts_141 : decode cL_drafts 141 = .ok (.bipush 64, 2) := by decide +kernel
theorem dL_drafts_143 : decode cL_drafts 143 = .ok (.irem, 1) := by decide +kernel
theorem dL_drafts_144 : decode cL_drafts 144 = .ok (.invokestatic 62, 3) := by decide +kernel
theorem dL_drafts_147 : decode cL_drafts 147 = .ok (.istore 7, 2) := by decide +kernel
theorem dL_drafts_149 : decode cL_drafts 149 = .ok (.iload 7, 2) := by decide +kernel
theorem dL_drafts_151 : decode cL_drafts 151 = .ok (.ifCond .ge 7, 3) := by decide +kernel
theorem dL_drafts_154 : decode cL_drafts 154 = .ok (.iconst 0, 1) := by decide +kernel
theorem dL_drafts_155 : decode cL_drafts 155 = .ok (.goto 11, 3) := by decide +kernel
theorem dL_drafts_158 : decode cL_drafts 158 = .ok (.aload_n 0, 1) := by decide +kernel
theorem dL_drafts_159 : decode cL_drafts 159 = .ok (.iload 6, 2) := by decide +kernel
theorem dL_drafts_161 : decode cL_drafts 161 = .ok (.iload 7, 2) := by decide +kernel
theorem dL_drafts_163 : decode cL_drafts 163 = .ok (.invokevirtual 16, 3) := by decide +kernel
theorem dL_drafts_166 : decode cL_drafts 166 = .ok (.istore 8, 2) := by decide +kernel
theorem dL_drafts_168 : decode cL_drafts 168 = .ok (.iload 8, 2) := by decide +kernel
theorem dL_drafts_170 : decode cL_drafts 170 = .ok (.ifCond .ne 7, 3) := by decide +kernel
theorem dL_drafts_173 : decode cL_drafts 173 = .ok (.iconst 0, 1) := by decide +kernel
theorem dL_drafts_174 : decode cL_drafts 174 = .ok (.goto 10, 3) := by decide +kernel
theorem dL_drafts_177 : decode cL_drafts 177 = .ok (.iload_n 2, 1) := by decide +kernel
theorem dL_drafts_178 : decode cL_drafts 178 = .ok (.bipush 6, 2) := by decide +kernel
theorem dL_drafts_180 : decode cL_drafts 180 = .ok (.idiv, 1) := by decide +kernel
theorem dL_drafts_181 : decode cL_drafts 181 = .ok (.iload 8, 2) := by decide +kernel
theorem dL_drafts_183 : decode cL_drafts 183 = .ok (.irem, 1) := by decide +kernel
theorem dL_drafts_184 : decode cL_drafts 184 = .ok (.istore 9, 2) := by decide +kernel
theorem dL_drafts_186 : decode cL_drafts 186 = .ok (.iload 8, 2) := by decide +kernel
theorem dL_drafts_188 : decode cL_drafts 188 = .ok (.ifCond .ne 7, 3) := by decide +kernel
theorem dL_drafts_191 : decode cL_drafts 191 = .ok (.iconst 0, 1) := by decide +kernel
theorem dL_drafts_192 : decode cL_drafts 192 = .ok (.goto 15, 3) := by decide +kernel
theorem dL_drafts_195 : decode cL_drafts 195 = .ok (.iload_n 3, 1) := by decide +kernel
theorem dL_drafts_196 : decode cL_drafts 196 = .ok (.bipush 64, 2) := by decide +kernel
theorem dL_drafts_198 : decode cL_drafts 198 = .ok (.idiv, 1) := by decide +kernel
theorem dL_drafts_199 : decode cL_drafts 199 = .ok (.iload 8, 2) := by decide +kernel
theorem dL_drafts_201 : decode cL_drafts 201 = .ok (.iload 9, 2) := by decide +kernel
theorem dL_drafts_203 : decode cL_drafts 203 = .ok (.isub, 1) := by decide +kernel
theorem dL_drafts_204 : decode cL_drafts 204 = .ok (.iconst 1, 1) := by decide +kernel
theorem dL_drafts_205 : decode cL_drafts 205 = .ok (.iadd, 1) := by decide +kernel
theorem dL_drafts_206 : decode cL_drafts 206 = .ok (.irem, 1) := by decide +kernel
theorem dL_drafts_207 : decode cL_drafts 207 = .ok (.istore 10, 2) := by decide +kernel
theorem dL_drafts_209 : decode cL_drafts 209 = .ok (.iload 7, 2) := by decide +kernel
theorem dL_drafts_211 : decode cL_drafts 211 = .ok (.ifCond .lt 68, 3) := by decide +kernel
theorem dL_drafts_214 : decode cL_drafts 214 = .ok (.iload 5, 2) := by decide +kernel
theorem dL_drafts_216 : decode cL_drafts 216 = .ok (.iload 10, 2) := by decide +kernel
theorem dL_drafts_218 : decode cL_drafts 218 = .ok (.iadd, 1) := by decide +kernel
theorem dL_drafts_219 : decode cL_drafts 219 = .ok (.sipush 240, 3) := by decide +kernel
theorem dL_drafts_222 : decode cL_drafts 222 = .ok (.if_icmp .gt 57, 3) := by decide +kernel
theorem dL_drafts_225 : decode cL_drafts 225 = .ok (.aload_n 0, 1) := by decide +kernel
theorem dL_drafts_226 : decode cL_drafts 226 = .ok (.iload 6, 2) := by decide +kernel
theorem dL_drafts_228 : decode cL_drafts 228 = .ok (.iload 7, 2) := by decide +kernel
theorem dL_drafts_230 : decode cL_drafts 230 = .ok (.iload 9, 2) := by decide +kernel
theorem dL_drafts_232 : decode cL_drafts 232 = .ok (.iload 10, 2) := by decide +kernel
theorem dL_drafts_234 : decode cL_drafts 234 = .ok (.invokevirtual 150, 3) := by decide +kernel
theorem dL_drafts_237 : decode cL_drafts 237 = .ok (.iload 5, 2) := by decide +kernel
theorem dL_drafts_239 : decode cL_drafts 239 = .ok (.iload 10, 2) := by decide +kernel
theorem dL_drafts_241 : decode cL_drafts 241 = .ok (.iadd, 1) := by decide +kernel
theorem dL_drafts_242 : decode cL_drafts 242 = .ok (.if_icmp .ne 41, 3) := by decide +kernel
theorem dL_drafts_245 : decode cL_drafts 245 = .ok (.iload 10, 2) := by decide +kernel
theorem dL_drafts_247 : decode cL_drafts 247 = .ok (.ifCond .eq 32, 3) := by decide +kernel
theorem dL_drafts_250 : decode cL_drafts 250 = .ok (.aload_n 0, 1) := by decide +kernel
theorem dL_drafts_251 : decode cL_drafts 251 = .ok (.iload 5, 2) := by decide +kernel
theorem dL_drafts_253 : decode cL_drafts 253 = .ok (.iload 10, 2) := by decide +kernel
theorem dL_drafts_255 : decode cL_drafts 255 = .ok (.iadd, 1) := by decide +kernel
theorem dL_drafts_256 : decode cL_drafts 256 = .ok (.iconst 1, 1) := by decide +kernel
theorem dL_drafts_257 : decode cL_drafts 257 = .ok (.isub, 1) := by decide +kernel
theorem dL_drafts_258 : decode cL_drafts 258 = .ok (.invokevirtual 132, 3) := by decide +kernel
theorem dL_drafts_261 : decode cL_drafts 261 = .ok (.aload_n 0, 1) := by decide +kernel
theorem dL_drafts_262 : decode cL_drafts 262 = .ok (.iload 6, 2) := by decide +kernel
theorem dL_drafts_264 : decode cL_drafts 264 = .ok (.iload 7, 2) := by decide +kernel
theorem dL_drafts_266 : decode cL_drafts 266 = .ok (.iload 9, 2) := by decide +kernel
theorem dL_drafts_268 : decode cL_drafts 268 = .ok (.iload 10, 2) := by decide +kernel
theorem dL_drafts_270 : decode cL_drafts 270 = .ok (.iadd, 1) := by decide +kernel
theorem dL_drafts_271 : decode cL_drafts 271 = .ok (.iconst 1, 1) := by decide +kernel
theorem dL_drafts_272 : decode cL_drafts 272 = .ok (.isub, 1) := by decide +kernel
theorem dL_drafts_273 : decode cL_drafts 273 = .ok (.invokevirtual 22, 3) := by decide +kernel
theorem dL_drafts_276 : decode cL_drafts 276 = .ok (.if_icmp .ne 7, 3) := by decide +kernel
theorem dL_drafts_279 : decode cL_drafts 279 = .ok (.iconst 1, 1) := by decide +kernel
theorem dL_drafts_280 : decode cL_drafts 280 = .ok (.goto 4, 3) := by decide +kernel
theorem dL_drafts_283 : decode cL_drafts 283 = .ok (.iconst 0, 1) := by decide +kernel
theorem dL_drafts_284 : decode cL_drafts 284 = .ok (.ireturn, 1) := by decide +kernel
theorem dL_drafts_285 : decode cL_drafts 285 = .ok (.iload_n 1, 1) := by decide +kernel
theorem dL_drafts_286 : decode cL_drafts 286 = .ok (.iconst 2, 1) := by decide +kernel
theorem dL_drafts_287 : decode cL_drafts 287 = .ok (.if_icmp .ne 94, 3) := by decide +kernel
theorem dL_drafts_290 : decode cL_drafts 290 = .ok (.iload_n 2, 1) := by decide +kernel
theorem dL_drafts_291 : decode cL_drafts 291 = .ok (.iload 5, 2) := by decide +kernel
theorem dL_drafts_293 : decode cL_drafts 293 = .ok (.iconst 1, 1) := by decide +kernel
theorem dL_drafts_294 : decode cL_drafts 294 = .ok (.iadd, 1) := by decide +kernel
theorem dL_drafts_295 : decode cL_drafts 295 = .ok (.irem, 1) := by decide +kernel
theorem dL_drafts_296 : decode cL_drafts 296 = .ok (.istore 6, 2) := by decide +kernel
theorem dL_drafts_298 : decode cL_drafts 298 = .ok (.iload 6, 2) := by decide +kernel
theorem dL_drafts_300 : decode cL_drafts 300 = .ok (.iload 5, 2) := by decide +kernel
theorem dL_drafts_302 : decode cL_drafts 302 = .ok (.if_icmp .ge 12, 3) := by decide +kernel
theorem dL_drafts_305 : decode cL_drafts 305 = .ok (.aload_n 0, 1) := by decide +kernel
theorem dL_drafts_306 : decode cL_drafts 306 = .ok (.iload 6, 2) := by decide +kernel
theorem dL_drafts_308 : decode cL_drafts 308 = .ok (.invokevirtual 132, 3) := by decide +kernel
theorem dL_drafts_311 : decode cL_drafts 311 = .ok (.goto 4, 3) := by decide +kernel
theorem dL_drafts_314 : decode cL_drafts 314 = .ok (.iconst (-1), 1) := by decide +kernel
theorem dL_drafts_315 : decode cL_drafts 315 = .ok (.istore 7, 2) := by decide +kernel
theorem dL_drafts_317 : decode cL_drafts 317 = .ok (.iload 5, 2) := by decide +kernel
theorem dL_drafts_319 : decode cL_drafts 319 = .ok (.sipush 240, 3) := by decide +kernel
theorem dL_drafts_322 : decode cL_drafts 322 = .ok (.if_icmp .eq 53, 3) := by decide +kernel
theorem dL_drafts_325 : decode cL_drafts 325 = .ok (.aload_n 0, 1) := by decide +kernel
theorem dL_drafts_326 : decode cL_drafts 326 = .ok (.iload 6, 2) := by decide +kernel
theorem dL_drafts_328 : decode cL_drafts 328 = .ok (.iload_n 3, 1) := by decide +kernel
theorem dL_drafts_329 : decode cL_drafts 329 = .ok (.sipush 256, 3) := by decide +kernel
theorem dL_drafts_332 : decode cL_drafts 332 = .ok (.irem, 1) := by decide +kernel
theorem dL_drafts_333 : decode cL_drafts 333 = .ok (.invokevirtual 154, 3) := by decide +kernel
theorem dL_drafts_336 : decode cL_drafts 336 = .ok (.iload 5, 2) := by decide +kernel
theorem dL_drafts_338 : decode cL_drafts 338 = .ok (.iconst 1, 1) := by decide +kernel
theorem dL_drafts_339 : decode cL_drafts 339 = .ok (.iadd, 1) := by decide +kernel
theorem dL_drafts_340 : decode cL_drafts 340 = .ok (.if_icmp .ne 39, 3) := by decide +kernel
theorem dL_drafts_343 : decode cL_drafts 343 = .ok (.aload_n 0, 1) := by decide +kernel
theorem dL_drafts_344 : decode cL_drafts 344 = .ok (.iload 6, 2) := by decide +kernel
theorem dL_drafts_346 : decode cL_drafts 346 = .ok (.invokevirtual 132, 3) := by decide +kernel
theorem dL_drafts_349 : decode cL_drafts 349 = .ok (.iload_n 3, 1) := by decide +kernel
theorem dL_drafts_350 : decode cL_drafts 350 = .ok (.sipush 256, 3) := by decide +kernel
theorem dL_drafts_353 : decode cL_drafts 353 = .ok (.irem, 1) := by decide +kernel
theorem dL_drafts_354 : decode cL_drafts 354 = .ok (.if_icmp .ne 25, 3) := by decide +kernel
theorem dL_drafts_357 : decode cL_drafts 357 = .ok (.iload 7, 2) := by decide +kernel
theorem dL_drafts_359 : decode cL_drafts 359 = .ok (.ifCond .lt 16, 3) := by decide +kernel
theorem dL_drafts_362 : decode cL_drafts 362 = .ok (.aload_n 0, 1) := by decide +kernel
theorem dL_drafts_363 : decode cL_drafts 363 = .ok (.iload 6, 2) := by decide +kernel
theorem dL_drafts_365 : decode cL_drafts 365 = .ok (.iconst 1, 1) := by decide +kernel
theorem dL_drafts_366 : decode cL_drafts 366 = .ok (.iadd, 1) := by decide +kernel
theorem dL_drafts_367 : decode cL_drafts 367 = .ok (.invokevirtual 132, 3) := by decide +kernel
theorem dL_drafts_370 : decode cL_drafts 370 = .ok (.iload 7, 2) := by decide +kernel
theorem dL_drafts_372 : decode cL_drafts 372 = .ok (.if_icmp .ne 7, 3) := by decide +kernel
theorem dL_drafts_375 : decode cL_drafts 375 = .ok (.iconst 1, 1) := by decide +kernel
theorem dL_drafts_376 : decode cL_drafts 376 = .ok (.goto 4, 3) := by decide +kernel
theorem dL_drafts_379 : decode cL_drafts 379 = .ok (.iconst 0, 1) := by decide +kernel
theorem dL_drafts_380 : decode cL_drafts 380 = .ok (.ireturn, 1) := by decide +kernel
theorem dL_drafts_381 : decode cL_drafts 381 = .ok (.iload 5, 2) := by decide +kernel
theorem dL_drafts_383 : decode cL_drafts 383 = .ok (.ifCond .ne 7, 3) := by decide +kernel
theorem dL_drafts_386 : decode cL_drafts 386 = .ok (.iconst 0, 1) := by decide +kernel
theorem dL_drafts_387 : decode cL_drafts 387 = .ok (.goto 7, 3) := by decide +kernel
theorem dL_drafts_390 : decode cL_drafts 390 = .ok (.iload_n 2, 1) := by decide +kernel
theorem dL_drafts_391 : decode cL_drafts 391 = .ok (.iload 5, 2) := by decide +kernel
theorem dL_drafts_393 : decode cL_drafts 393 = .ok (.irem, 1) := by decide +kernel
theorem dL_drafts_394 : decode cL_drafts 394 = .ok (.istore 6, 2) := by decide +kernel
theorem dL_drafts_396 : decode cL_drafts 396 = .ok (.iload_n 3, 1) := by decide +kernel
theorem dL_drafts_397 : decode cL_drafts 397 = .ok (.iconst 4, 1) := by decide +kernel
theorem dL_drafts_398 : decode cL_drafts 398 = .ok (.irem, 1) := by decide +kernel
theorem dL_drafts_399 : decode cL_drafts 399 = .ok (.ifCond .ne 17, 3) := by decide +kernel
theorem dL_drafts_402 : decode cL_drafts 402 = .ok (.iload_n 3, 1) := by decide +kernel
theorem dL_drafts_403 : decode cL_drafts 403 = .ok (.iconst 4, 1) := by decide +kernel
theorem dL_drafts_404 : decode cL_drafts 404 = .ok (.idiv, 1) := by decide +kernel
theorem dL_drafts_405 : decode cL_drafts 405 = .ok (.iload 5, 2) := by decide +kernel
theorem dL_drafts_407 : decode cL_drafts 407 = .ok (.iload 6, 2) := by decide +kernel
theorem dL_drafts_409 : decode cL_drafts 409 = .ok (.isub, 1) := by decide +kernel
theorem dL_drafts_410 : decode cL_drafts 410 = .ok (.iconst 1, 1) := by decide +kernel
theorem dL_drafts_411 : decode cL_drafts 411 = .ok (.iadd, 1) := by decide +kernel
theorem dL_drafts_412 : decode cL_drafts 412 = .ok (.irem, 1) := by decide +kernel
theorem dL_drafts_413 : decode cL_drafts 413 = .ok (.goto 13, 3) := by decide +kernel
theorem dL_drafts_416 : decode cL_drafts 416 = .ok (.iload 5, 2) := by decide +kernel
theorem dL_drafts_418 : decode cL_drafts 418 = .ok (.ifCond .ne 7, 3) := by decide +kernel
theorem dL_drafts_421 : decode cL_drafts 421 = .ok (.iconst 0, 1) := by decide +kernel
theorem dL_drafts_422 : decode cL_drafts 422 = .ok (.goto 4, 3) := by decide +kernel
theorem dL_drafts_425 : decode cL_drafts 425 = .ok (.iconst 1, 1) := by decide +kernel
theorem dL_drafts_426 : decode cL_drafts 426 = .ok (.istore 7, 2) := by decide +kernel
theorem dL_drafts_428 : decode cL_drafts 428 = .ok (.iload 6, 2) := by decide +kernel
theorem dL_drafts_430 : decode cL_drafts 430 = .ok (.iload 7, 2) := by decide +kernel
theorem dL_drafts_432 : decode cL_drafts 432 = .ok (.iadd, 1) := by decide +kernel
theorem dL_drafts_433 : decode cL_drafts 433 = .ok (.iload 5, 2) := by decide +kernel
theorem dL_drafts_435 : decode cL_drafts 435 = .ok (.if_icmp .ge 15, 3) := by decide +kernel
theorem dL_drafts_438 : decode cL_drafts 438 = .ok (.aload_n 0, 1) := by decide +kernel
theorem dL_drafts_439 : decode cL_drafts 439 = .ok (.iload 6, 2) := by decide +kernel
theorem dL_drafts_441 : decode cL_drafts 441 = .ok (.iload 7, 2) := by decide +kernel
theorem dL_drafts_443 : decode cL_drafts 443 = .ok (.iadd, 1) := by decide +kernel
theorem dL_drafts_444 : decode cL_drafts 444 = .ok (.invokevirtual 132, 3) := by decide +kernel
theorem dL_drafts_447 : decode cL_drafts 447 = .ok (.goto 4, 3) := by decide +kernel
theorem dL_drafts_450 : decode cL_drafts 450 = .ok (.iconst (-1), 1) := by decide +kernel
theorem dL_drafts_451 : decode cL_drafts 451 = .ok (.istore 8, 2) := by decide +kernel
theorem dL_drafts_453 : decode cL_drafts 453 = .ok (.aload_n 0, 1) := by decide +kernel
theorem dL_drafts_454 : decode cL_drafts 454 = .ok (.iload 6, 2) := by decide +kernel
theorem dL_drafts_456 : decode cL_drafts 456 = .ok (.iload 7, 2) := by decide +kernel
theorem dL_drafts_458 : decode cL_drafts 458 = .ok (.invokevirtual 157, 3) := by decide +kernel
theorem dL_drafts_461 : decode cL_drafts 461 = .ok (.iload 5, 2) := by decide +kernel
theorem dL_drafts_463 : decode cL_drafts 463 = .ok (.iload 7, 2) := by decide +kernel
theorem dL_drafts_465 : decode cL_drafts 465 = .ok (.isub, 1) := by decide +kernel
theorem dL_drafts_466 : decode cL_drafts 466 = .ok (.if_icmp .ne 23, 3) := by decide +kernel
theorem dL_drafts_469 : decode cL_drafts 469 = .ok (.iload 8, 2) := by decide +kernel
theorem dL_drafts_471 : decode cL_drafts 471 = .ok (.ifCond .lt 14, 3) := by decide +kernel
theorem dL_drafts_474 : decode cL_drafts 474 = .ok (.aload_n 0, 1) := by decide +kernel
theorem dL_drafts_475 : decode cL_drafts 475 = .ok (.iload 6, 2) := by decide +kernel
theorem dL_drafts_477 : decode cL_drafts 477 = .ok (.invokevirtual 132, 3) := by decide +kernel
theorem dL_drafts_480 : decode cL_drafts 480 = .ok (.iload 8, 2) := by decide +kernel
theorem dL_drafts_482 : decode cL_drafts 482 = .ok (.if_icmp .ne 7, 3) := by decide +kernel
theorem dL_drafts_485 : decode cL_drafts 485 = .ok (.iconst 1, 1) := by decide +kernel
theorem dL_drafts_486 : decode cL_drafts 486 = .ok (.goto 4, 3) := by decide +kernel
theorem dL_drafts_489 : decode cL_drafts 489 = .ok (.iconst 0, 1) := by decide +kernel
theorem dL_drafts_490 : decode cL_drafts 490 = .ok (.ireturn, 1) := by decide +kernel
theorem dL_vault_0 : decode cL_vault 0 = .ok (.new 17, 3) := by decide +kernel
theorem dL_vault_3 : decode cL_vault 3 = .ok (.dup, 1) := by decide +kernel
theorem dL_vault_4 : decode cL_vault 4 = .ok (.invokespecial 160, 3) := by decide +kernel
theorem dL_vault_7 : decode cL_vault 7 = .ok (.astore_n 2, 1) := by decide +kernel
theorem dL_vault_8 : decode cL_vault 8 = .ok (.bipush 7, 2) := by decide +kernel
theorem dL_vault_10 : decode cL_vault 10 = .ok (.newarray .long, 2) := by decide +kernel
theorem dL_vault_12 : decode cL_vault 12 = .ok (.astore_n 3, 1) := by decide +kernel
theorem dL_vault_13 : decode cL_vault 13 = .ok (.bipush 6, 2) := by decide +kernel
theorem dL_vault_15 : decode cL_vault 15 = .ok (.newarray .int, 2) := by decide +kernel
theorem dL_vault_17 : decode cL_vault 17 = .ok (.astore 4, 2) := by decide +kernel
theorem dL_vault_19 : decode cL_vault 19 = .ok (.iconst 0, 1) := by decide +kernel
theorem dL_vault_20 : decode cL_vault 20 = .ok (.istore 5, 2) := by decide +kernel
theorem dL_vault_22 : decode cL_vault 22 = .ok (.iload 5, 2) := by decide +kernel
theorem dL_vault_24 : decode cL_vault 24 = .ok (.bipush 40, 2) := by decide +kernel
theorem dL_vault_26 : decode cL_vault 26 = .ok (.if_icmp .ge 291, 3) := by decide +kernel
theorem dL_vault_29 : decode cL_vault 29 = .ok (.aload_n 0, 1) := by decide +kernel
theorem dL_vault_30 : decode cL_vault 30 = .ok (.iload_n 1, 1) := by decide +kernel
theorem dL_vault_31 : decode cL_vault 31 = .ok (.iconst 3, 1) := by decide +kernel
theorem dL_vault_32 : decode cL_vault 32 = .ok (.iload 5, 2) := by decide +kernel
theorem dL_vault_34 : decode cL_vault 34 = .ok (.imul, 1) := by decide +kernel
theorem dL_vault_35 : decode cL_vault 35 = .ok (.iadd, 1) := by decide +kernel
theorem dL_vault_36 : decode cL_vault 36 = .ok (.iconst 1, 1) := by decide +kernel
theorem dL_vault_37 : decode cL_vault 37 = .ok (.iadd, 1) := by decide +kernel
theorem dL_vault_38 : decode cL_vault 38 = .ok (.ldc 161, 2) := by decide +kernel
theorem dL_vault_40 : decode cL_vault 40 = .ok (.invokestatic 162, 3) := by decide +kernel
theorem dL_vault_43 : decode cL_vault 43 = .ok (.istore 6, 2) := by decide +kernel
theorem dL_vault_45 : decode cL_vault 45 = .ok (.aload_n 0, 1) := by decide +kernel
theorem dL_vault_46 : decode cL_vault 46 = .ok (.iload_n 1, 1) := by decide +kernel
theorem dL_vault_47 : decode cL_vault 47 = .ok (.iconst 3, 1) := by decide +kernel
theorem dL_vault_48 : decode cL_vault 48 = .ok (.iload 5, 2) := by decide +kernel
theorem dL_vault_50 : decode cL_vault 50 = .ok (.imul, 1) := by decide +kernel
theorem dL_vault_51 : decode cL_vault 51 = .ok (.iadd, 1) := by decide +kernel
theorem dL_vault_52 : decode cL_vault 52 = .ok (.iconst 2, 1) := by decide +kernel
theorem dL_vault_53 : decode cL_vault 53 = .ok (.iadd, 1) := by decide +kernel
theorem dL_vault_54 : decode cL_vault 54 = .ok (.ldc 161, 2) := by decide +kernel
theorem dL_vault_56 : decode cL_vault 56 = .ok (.invokestatic 162, 3) := by decide +kernel
theorem dL_vault_59 : decode cL_vault 59 = .ok (.istore 7, 2) := by decide +kernel
theorem dL_vault_61 : decode cL_vault 61 = .ok (.iload 5, 2) := by decide +kernel
theorem dL_vault_63 : decode cL_vault 63 = .ok (.iconst 4, 1) := by decide +kernel
theorem dL_vault_64 : decode cL_vault 64 = .ok (.if_icmp .ge 7, 3) := by decide +kernel
theorem dL_vault_67 : decode cL_vault 67 = .ok (.iconst 0, 1) := by decide +kernel
theorem dL_vault_68 : decode cL_vault 68 = .ok (.goto 25, 3) := by decide +kernel
theorem dL_vault_71 : decode cL_vault 71 = .ok (.iload 5, 2) := by decide +kernel
theorem dL_vault_73 : decode cL_vault 73 = .ok (.iconst 4, 1) := by decide +kernel
theorem dL_vault_74 : decode cL_vault 74 = .ok (.if_icmp .ne 7, 3) := by decide +kernel
theorem dL_vault_77 : decode cL_vault 77 = .ok (.iconst 4, 1) := by decide +kernel
theorem dL_vault_78 : decode cL_vault 78 = .ok (.goto 15, 3) := by decide +kernel
theorem dL_vault_81 : decode cL_vault 81 = .ok (.aload_n 0, 1) := by decide +kernel
theorem dL_vault_82 : decode cL_vault 82 = .ok (.iload_n 1, 1) := by decide +kernel
theorem dL_vault_83 : decode cL_vault 83 = .ok (.iconst 3, 1) := by decide +kernel
theorem dL_vault_84 : decode cL_vault 84 = .ok (.iload 5, 2) := by decide +kernel
theorem dL_vault_86 : decode cL_vault 86 = .ok (.imul, 1) := by decide +kernel
theorem dL_vault_87 : decode cL_vault 87 = .ok (.iadd, 1) := by decide +kernel
theorem dL_vault_88 : decode cL_vault 88 = .ok (.bipush 12, 2) := by decide +kernel
theorem dL_vault_90 : decode cL_vault 90 = .ok (.invokestatic 162, 3) := by decide +kernel
theorem dL_vault_93 : decode cL_vault 93 = .ok (.istore 8, 2) := by decide +kernel
theorem dL_vault_95 : decode cL_vault 95 = .ok (.iconst 1, 1) := by decide +kernel
theorem dL_vault_96 : decode cL_vault 96 = .ok (.istore 9, 2) := by decide +kernel
theorem dL_vault_98 : decode cL_vault 98 = .ok (.iload 8, 2) := by decide +kernel
theorem dL_vault_100 : decode cL_vault 100 = .ok (.iconst 4, 1) := by decide +kernel
theorem dL_vault_101 : decode cL_vault 101 = .ok (.if_icmp .ge 19, 3) := by decide +kernel
theorem dL_vault_104 : decode cL_vault 104 = .ok (.aload_n 2, 1) := by decide +kernel
theorem dL_vault_105 : decode cL_vault 105 = .ok (.iload 8, 2) := by decide +kernel
theorem dL_vault_107 : decode cL_vault 107 = .ok (.iload 6, 2) := by decide +kernel
theorem dL_vault_109 : decode cL_vault 109 = .ok (.iload 7, 2) := by decide +kernel
theorem dL_vault_111 : decode cL_vault 111 = .ok (.aload_n 3, 1) := by decide +kernel
theorem dL_vault_112 : decode cL_vault 112 = .ok (.invokestatic 166, 3) := by decide +kernel
theorem dL_vault_115 : decode cL_vault 115 = .ok (.istore 9, 2) := by decide +kernel
theorem dL_vault_117 : decode cL_vault 117 = .ok (.goto 156, 3) := by decide +kernel
theorem dL_vault_120 : decode cL_vault 120 = .ok (.iload 8, 2) := by decide +kernel
theorem dL_vault_122 : decode cL_vault 122 = .ok (.bipush 8, 2) := by decide +kernel
theorem dL_vault_124 : decode cL_vault 124 = .ok (.if_icmp .ge 44, 3) := by decide +kernel
theorem dL_vault_127 : decode cL_vault 127 = .ok (.iload 6, 2) := by decide +kernel
theorem dL_vault_129 : decode cL_vault 129 = .ok (.iconst 3, 1) := by decide +kernel
theorem dL_vault_130 : decode cL_vault 130 = .ok (.irem, 1) := by decide +kernel
theorem dL_vault_131 : decode cL_vault 131 = .ok (.istore 10, 2) := by decide +kernel
theorem dL_vault_133 : decode cL_vault 133 = .ok (.aload_n 3, 1) := by decide +kernel
theorem dL_vault_134 : decode cL_vault 134 = .ok (.invokestatic 140, 3) := by decide +kernel
theorem dL_vault_137 : decode cL_vault 137 = .ok (.bipush 20, 2) := by decide +kernel
theorem dL_vault_139 : decode cL_vault 139 = .ok (.if_icmp .ge 26, 3) := by decide +kernel
theorem dL_vault_142 : decode cL_vault 142 = .ok (.aload_n 2, 1) := by decide +kernel
theorem dL_vault_143 : decode cL_vault 143 = .ok (.aload_n 3, 1) := by decide +kernel
theorem dL_vault_144 : decode cL_vault 144 = .ok (.iload 10, 2) := by decide +kernel
theorem dL_vault_146 : decode cL_vault 146 = .ok (.aload 4, 2) := by decide +kernel
theorem dL_vault_148 : decode cL_vault 148 = .ok (.iload 10, 2) := by decide +kernel
theorem dL_vault_150 : decode cL_vault 150 = .ok (.iaload, 1) := by decide +kernel
theorem dL_vault_151 : decode cL_vault 151 = .ok (.invokestatic 170, 3) := by decide +kernel
theorem dL_vault_154 : decode cL_vault 154 = .ok (.istore 9, 2) := by decide +kernel
theorem dL_vault_156 : decode cL_vault 156 = .ok (.aload 4, 2) := by decide +kernel
theorem dL_vault_158 : decode cL_vault 158 = .ok (.iload 10, 2) := by decide +kernel
theorem dL_vault_160 : decode cL_vault 160 = .ok (.dup2, 1) := by decide +kernel
theorem dL_vault_161 : decode cL_vault 161 = .ok (.iaload, 1) := by decide +kernel
theorem dL_vault_162 : decode cL_vault 162 = .ok (.iconst 1, 1) := by decide +kernel
theorem dL_vault_163 : decode cL_vault 163 = .ok (.iadd, 1) := by decide +kernel
theorem dL_vault_164 : decode cL_vault 164 = .ok (.iastore, 1) := by decide +kernel
theorem dL_vault_165 : decode cL_vault 165 = .ok (.goto 108, 3) := by decide +kernel
theorem dL_vault_168 : decode cL_vault 168 = .ok (.iload 8, 2) := by decide +kernel
theorem dL_vault_170 : decode cL_vault 170 = .ok (.bipush 10, 2) := by decide +kernel
theorem dL_vault_172 : decode cL_vault 172 = .ok (.if_icmp .ge 49, 3) := by decide +kernel
theorem dL_vault_175 : decode cL_vault 175 = .ok (.iload 6, 2) := by decide +kernel
theorem dL_vault_177 : decode cL_vault 177 = .ok (.iconst 3, 1) := by decide +kernel
theorem dL_vault_178 : decode cL_vault 178 = .ok (.irem, 1) := by decide +kernel
theorem dL_vault_179 : decode cL_vault 179 = .ok (.istore 10, 2) := by decide +kernel
theorem dL_vault_181 : decode cL_vault 181 = .ok (.aload_n 3, 1) := by decide +kernel
theorem dL_vault_182 : decode cL_vault 182 = .ok (.iload 10, 2) := by decide +kernel
theorem dL_vault_184 : decode cL_vault 184 = .ok (.iload 7, 2) := by decide +kernel
theorem dL_vault_186 : decode cL_vault 186 = .ok (.bipush 64, 2) := by decide +kernel
theorem dL_vault_188 : decode cL_vault 188 = .ok (.irem, 1) := by decide +kernel
theorem dL_vault_189 : decode cL_vault 189 = .ok (.invokestatic 62, 3) := by decide +kernel
theorem dL_vault_192 : decode cL_vault 192 = .ok (.istore 11, 2) := by decide +kernel
theorem dL_vault_194 : decode cL_vault 194 = .ok (.iload 11, 2) := by decide +kernel
theorem dL_vault_196 : decode cL_vault 196 = .ok (.ifCond .lt 15, 3) := by decide +kernel
theorem dL_vault_199 : decode cL_vault 199 = .ok (.aload_n 2, 1) := by decide +kernel
theorem dL_vault_200 : decode cL_vault 200 = .ok (.aload_n 3, 1) := by decide +kernel
theorem dL_vault_201 : decode cL_vault 201 = .ok (.iload 10, 2) := by decide +kernel
theorem dL_vault_203 : decode cL_vault 203 = .ok (.iload 11, 2) := by decide +kernel
theorem dL_vault_205 : decode cL_vault 205 = .ok (.invokestatic 173, 3) := by decide +kernel
theorem dL_vault_208 : decode cL_vault 208 = .ok (.ifCond .eq 7, 3) := by decide +kernel
theorem dL_vault_211 : decode cL_vault 211 = .ok (.iconst 1, 1) := by decide +kernel
theorem dL_vault_212 : decode cL_vault 212 = .ok (.goto 4, 3) := by decide +kernel
theorem dL_vault_215 : decode cL_vault 215 = .ok (.iconst 0, 1) := by decide +kernel
theorem dL_vault_216 : decode cL_vault 216 = .ok (.istore 9, 2) := by decide +kernel
theorem dL_vault_218 : decode cL_vault 218 = .ok (.goto 55, 3) := by decide +kernel
theorem dL_vault_221 : decode cL_vault 221 = .ok (.iload 8, 2) := by decide +kernel
theorem dL_vault_223 : decode cL_vault 223 = .ok (.bipush 10, 2) := by decide +kernel
theorem dL_vault_225 : decode cL_vault 225 = .ok (.if_icmp .ne 13, 3) := by decide +kernel
theorem dL_vault_228 : decode cL_vault 228 = .ok (.aload_n 2, 1) := by decide +kernel
theorem dL_vault_229 : decode cL_vault 229 = .ok (.aload_n 3, 1) := by decide +kernel
theorem dL_vault_230 : decode cL_vault 230 = .ok (.invokestatic 176, 3) := by decide +kernel
theorem dL_vault_233 : decode cL_vault 233 = .ok (.istore 9, 2) := by decide +kernel
theorem dL_vault_235 : decode cL_vault 235 = .ok (.goto 38, 3) := by decide +kernel
theorem dL_vault_238 : decode cL_vault 238 = .ok (.iload 6, 2) := by decide +kernel
theorem dL_vault_240 : decode cL_vault 240 = .ok (.iconst 4, 1) := by decide +kernel
theorem dL_vault_241 : decode cL_vault 241 = .ok (.irem, 1) := by decide +kernel
theorem dL_vault_242 : decode cL_vault 242 = .ok (.ifCond .ne 31, 3) := by decide +kernel
theorem dL_vault_245 : decode cL_vault 245 = .ok (.aload_n 2, 1) := by decide +kernel
theorem dL_vault_246 : decode cL_vault 246 = .ok (.invokevirtual 180, 3) := by decide +kernel
theorem dL_vault_249 : decode cL_vault 249 = .ok (.ifCond .lt 21, 3) := by decide +kernel
theorem dL_vault_252 : decode cL_vault 252 = .ok (.aload_n 2, 1) := by decide +kernel
theorem dL_vault_253 : decode cL_vault 253 = .ok (.invokevirtual 129, 3) := by decide +kernel
theorem dL_vault_256 : decode cL_vault 256 = .ok (.ifCond .ne 14, 3) := by decide +kernel
theorem dL_vault_259 : decode cL_vault 259 = .ok (.aload_n 2, 1) := by decide +kernel
theorem dL_vault_260 : decode cL_vault 260 = .ok (.invokevirtual 117, 3) := by decide +kernel
theorem dL_vault_263 : decode cL_vault 263 = .ok (.ifCond .ne 7, 3) := by decide +kernel
theorem dL_vault_266 : decode cL_vault 266 = .ok (.iconst 1, 1) := by decide +kernel
theorem dL_vault_267 : decode cL_vault 267 = .ok (.goto 4, 3) := by decide +kernel
theorem dL_vault_270 : decode cL_vault 270 = .ok (.iconst 0, 1) := by decide +kernel
theorem dL_vault_271 : decode cL_vault 271 = .ok (.istore 9, 2) := by decide +kernel
theorem dL_vault_273 : decode cL_vault 273 = .ok (.iload 9, 2) := by decide +kernel
theorem dL_vault_275 : decode cL_vault 275 = .ok (.ifCond .eq 34, 3) := by decide +kernel
theorem dL_vault_278 : decode cL_vault 278 = .ok (.aload_n 2, 1) := by decide +kernel
theorem dL_vault_279 : decode cL_vault 279 = .ok (.aload_n 3, 1) := by decide +kernel
theorem dL_vault_280 : decode cL_vault 280 = .ok (.iload 6, 2) := by decide +kernel
theorem dL_vault_282 : decode cL_vault 282 = .ok (.iconst 3, 1) := by decide +kernel
theorem dL_vault_283 : decode cL_vault 283 = .ok (.idiv, 1) := by decide +kernel
theorem dL_vault_284 : decode cL_vault 284 = .ok (.iload 7, 2) := by decide +kernel
theorem dL_vault_286 : decode cL_vault 286 = .ok (.iconst 3, 1) := by decide +kernel
theorem dL_vault_287 : decode cL_vault 287 = .ok (.idiv, 1) := by decide +kernel
theorem dL_vault_288 : decode cL_vault 288 = .ok (.invokestatic 183, 3) := by decide +kernel
theorem dL_vault_291 : decode cL_vault 291 = .ok (.ifCond .eq 18, 3) := by decide +kernel
theorem dL_vault_294 : decode cL_vault 294 = .ok (.aload_n 2, 1) := by decide +kernel
theorem dL_vault_295 : decode cL_vault 295 = .ok (.aload_n 3, 1) := by decide +kernel
theorem dL_vault_296 : decode cL_vault 296 = .ok (.invokestatic 186, 3) := by decide +kernel
theorem dL_vault_299 : decode cL_vault 299 = .ok (.ifCond .eq 10, 3) := by decide +kernel
theorem dL_vault_302 : decode cL_vault 302 = .ok (.aload_n 2, 1) := by decide +kernel
theorem dL_vault_303 : decode cL_vault 303 = .ok (.invokestatic 189, 3) := by decide +kernel
theorem dL_vault_306 : decode cL_vault 306 = .ok (.ifCond .ne 5, 3) := by decide +kernel
theorem dL_vault_309 : decode cL_vault 309 = .ok (.iconst 0, 1) := by decide +kernel
theorem dL_vault_310 : decode cL_vault 310 = .ok (.ireturn, 1) := by decide +kernel
theorem dL_vault_311 : decode cL_vault 311 = .ok (.iinc 5 1, 3) := by decide +kernel
theorem dL_vault_314 : decode cL_vault 314 = .ok (.goto (-292), 3) := by decide +kernel
theorem dL_vault_317 : decode cL_vault 317 = .ok (.iconst 1, 1) := by decide +kernel
theorem dL_vault_318 : decode cL_vault 318 = .ok (.ireturn, 1) := by decide +kernel
