/-! what stands at each place of the law's methods: printed -/
theorem dL_areVersions_166 : decode cL_areVersions 166 = .ok (.idiv, 1) := by decide +kernel
theorem dL_areVersions_167 : decode cL_areVersions 167 = .ok (.bipush 64, 2) := by decide +kernel
theorem dL_areVersions_169 : decode cL_areVersions 169 = .ok (.irem, 1) := by decide +kernel
theorem dL_areVersions_170 : decode cL_areVersions 170 = .ok (.invokestatic 62, 3) := by decide +kernel
theorem dL_areVersions_173 : decode cL_areVersions 173 = .ok (.istore 8, 2) := by decide +kernel
theorem dL_areVersions_175 : decode cL_areVersions 175 = .ok (.aload_n 1, 1) := by decide +kernel
theorem dL_areVersions_176 : decode cL_areVersions 176 = .ok (.iload 7, 2) := by decide +kernel
theorem dL_areVersions_178 : decode cL_areVersions 178 = .ok (.iload_n 3, 1) := by decide +kernel
theorem dL_areVersions_179 : decode cL_areVersions 179 = .ok (.bipush 6, 2) := by decide +kernel
theorem dL_areVersions_181 : decode cL_areVersions 181 = .ok (.idiv, 1) := by decide +kernel
theorem dL_areVersions_182 : decode cL_areVersions 182 = .ok (.bipush 64, 2) := by decide +kernel
theorem dL_areVersions_184 : decode cL_areVersions 184 = .ok (.irem, 1) := by decide +kernel
theorem dL_areVersions_185 : decode cL_areVersions 185 = .ok (.invokestatic 62, 3) := by decide +kernel
theorem dL_areVersions_188 : decode cL_areVersions 188 = .ok (.istore 9, 2) := by decide +kernel
theorem dL_areVersions_190 : decode cL_areVersions 190 = .ok (.aload_n 0, 1) := by decide +kernel
theorem dL_areVersions_191 : decode cL_areVersions 191 = .ok (.invokevirtual 66, 3) := by decide +kernel
theorem dL_areVersions_194 : decode cL_areVersions 194 = .ok (.iload 5, 2) := by decide +kernel
theorem dL_areVersions_196 : decode cL_areVersions 196 = .ok (.if_icmp .ne 32, 3) := by decide +kernel
theorem dL_areVersions_199 : decode cL_areVersions 199 = .ok (.aload_n 0, 1) := by decide +kernel
theorem dL_areVersions_200 : decode cL_areVersions 200 = .ok (.invokevirtual 70, 3) := by decide +kernel
theorem dL_areVersions_203 : decode cL_areVersions 203 = .ok (.iload 4, 2) := by decide +kernel
theorem dL_areVersions_205 : decode cL_areVersions 205 = .ok (.if_icmp .ne 23, 3) := by decide +kernel
theorem dL_areVersions_208 : decode cL_areVersions 208 = .ok (.iload 8, 2) := by decide +kernel
theorem dL_areVersions_210 : decode cL_areVersions 210 = .ok (.ifCond .lt 14, 3) := by decide +kernel
theorem dL_areVersions_213 : decode cL_areVersions 213 = .ok (.aload_n 0, 1) := by decide +kernel
theorem dL_areVersions_214 : decode cL_areVersions 214 = .ok (.iload 6, 2) := by decide +kernel
theorem dL_areVersions_216 : decode cL_areVersions 216 = .ok (.iload 8, 2) := by decide +kernel
theorem dL_areVersions_218 : decode cL_areVersions 218 = .ok (.invokestatic 73, 3) := by decide +kernel
theorem dL_areVersions_221 : decode cL_areVersions 221 = .ok (.ifCond .eq 7, 3) := by decide +kernel
theorem dL_areVersions_224 : decode cL_areVersions 224 = .ok (.iconst 1, 1) := by decide +kernel
theorem dL_areVersions_225 : decode cL_areVersions 225 = .ok (.goto 4, 3) := by decide +kernel
theorem dL_areVersions_228 : decode cL_areVersions 228 = .ok (.iconst 0, 1) := by decide +kernel
theorem dL_areVersions_229 : decode cL_areVersions 229 = .ok (.istore 10, 2) := by decide +kernel
theorem dL_areVersions_231 : decode cL_areVersions 231 = .ok (.iload 10, 2) := by decide +kernel
theorem dL_areVersions_233 : decode cL_areVersions 233 = .ok (.ifCond .eq 42, 3) := by decide +kernel
theorem dL_areVersions_236 : decode cL_areVersions 236 = .ok (.iload 8, 2) := by decide +kernel
theorem dL_areVersions_238 : decode cL_areVersions 238 = .ok (.ifCond .lt 33, 3) := by decide +kernel
theorem dL_areVersions_241 : decode cL_areVersions 241 = .ok (.iload 9, 2) := by decide +kernel
theorem dL_areVersions_243 : decode cL_areVersions 243 = .ok (.ifCond .lt 28, 3) := by decide +kernel
theorem dL_areVersions_246 : decode cL_areVersions 246 = .ok (.aload_n 0, 1) := by decide +kernel
theorem dL_areVersions_247 : decode cL_areVersions 247 = .ok (.iload 6, 2) := by decide +kernel
theorem dL_areVersions_249 : decode cL_areVersions 249 = .ok (.iload 8, 2) := by decide +kernel
theorem dL_areVersions_251 : decode cL_areVersions 251 = .ok (.iload 7, 2) := by decide +kernel
theorem dL_areVersions_253 : decode cL_areVersions 253 = .ok (.iload 9, 2) := by decide +kernel
theorem dL_areVersions_255 : decode cL_areVersions 255 = .ok (.iload_n 2, 1) := by decide +kernel
theorem dL_areVersions_256 : decode cL_areVersions 256 = .ok (.sipush 400, 3) := by decide +kernel
theorem dL_areVersions_259 : decode cL_areVersions 259 = .ok (.idiv, 1) := by decide +kernel
theorem dL_areVersions_260 : decode cL_areVersions 260 = .ok (.iload_n 3, 1) := by decide +kernel
theorem dL_areVersions_261 : decode cL_areVersions 261 = .ok (.sipush 400, 3) := by decide +kernel
theorem dL_areVersions_264 : decode cL_areVersions 264 = .ok (.idiv, 1) := by decide +kernel
theorem dL_areVersions_265 : decode cL_areVersions 265 = .ok (.invokestatic 77, 3) := by decide +kernel
theorem dL_areVersions_268 : decode cL_areVersions 268 = .ok (.ifCond .eq 7, 3) := by decide +kernel
theorem dL_areVersions_271 : decode cL_areVersions 271 = .ok (.iconst 1, 1) := by decide +kernel
theorem dL_areVersions_272 : decode cL_areVersions 272 = .ok (.goto 4, 3) := by decide +kernel
theorem dL_areVersions_275 : decode cL_areVersions 275 = .ok (.iconst 0, 1) := by decide +kernel
theorem dL_areVersions_276 : decode cL_areVersions 276 = .ok (.ireturn, 1) := by decide +kernel
theorem dL_uses_0 : decode cL_uses 0 = .ok (.iconst 0, 1) := by decide +kernel
theorem dL_uses_1 : decode cL_uses 1 = .ok (.istore_n 3, 1) := by decide +kernel
theorem dL_uses_2 : decode cL_uses 2 = .ok (.iconst 0, 1) := by decide +kernel
theorem dL_uses_3 : decode cL_uses 3 = .ok (.istore 4, 2) := by decide +kernel
theorem dL_uses_5 : decode cL_uses 5 = .ok (.iload 4, 2) := by decide +kernel
theorem dL_uses_7 : decode cL_uses 7 = .ok (.sipush 384, 3) := by decide +kernel
theorem dL_uses_10 : decode cL_uses 10 = .ok (.if_icmp .ge 91, 3) := by decide +kernel
theorem dL_uses_13 : decode cL_uses 13 = .ok (.aload_n 1, 1) := by decide +kernel
theorem dL_uses_14 : decode cL_uses 14 = .ok (.iload 4, 2) := by decide +kernel
theorem dL_uses_16 : decode cL_uses 16 = .ok (.bipush 64, 2) := by decide +kernel
theorem dL_uses_18 : decode cL_uses 18 = .ok (.idiv, 1) := by decide +kernel
theorem dL_uses_19 : decode cL_uses 19 = .ok (.laload, 1) := by decide +kernel
theorem dL_uses_20 : decode cL_uses 20 = .ok (.iload 4, 2) := by decide +kernel
theorem dL_uses_22 : decode cL_uses 22 = .ok (.bipush 64, 2) := by decide +kernel
theorem dL_uses_24 : decode cL_uses 24 = .ok (.irem, 1) := by decide +kernel
theorem dL_uses_25 : decode cL_uses 25 = .ok (.invokestatic 10, 3) := by decide +kernel
theorem dL_uses_28 : decode cL_uses 28 = .ok (.ifCond .eq 20, 3) := by decide +kernel
theorem dL_uses_31 : decode cL_uses 31 = .ok (.aload_n 0, 1) := by decide +kernel
theorem dL_uses_32 : decode cL_uses 32 = .ok (.iload 4, 2) := by decide +kernel
theorem dL_uses_34 : decode cL_uses 34 = .ok (.bipush 64, 2) := by decide +kernel
theorem dL_uses_36 : decode cL_uses 36 = .ok (.idiv, 1) := by decide +kernel
theorem dL_uses_37 : decode cL_uses 37 = .ok (.iload 4, 2) := by decide +kernel
theorem dL_uses_39 : decode cL_uses 39 = .ok (.bipush 64, 2) := by decide +kernel
theorem dL_uses_41 : decode cL_uses 41 = .ok (.irem, 1) := by decide +kernel
theorem dL_uses_42 : decode cL_uses 42 = .ok (.invokevirtual 29, 3) := by decide +kernel
theorem dL_uses_45 : decode cL_uses 45 = .ok (.goto 4, 3) := by decide +kernel
theorem dL_uses_48 : decode cL_uses 48 = .ok (.iconst 0, 1) := by decide +kernel
theorem dL_uses_49 : decode cL_uses 49 = .ok (.istore 5, 2) := by decide +kernel
theorem dL_uses_51 : decode cL_uses 51 = .ok (.iconst 0, 1) := by decide +kernel
theorem dL_uses_52 : decode cL_uses 52 = .ok (.istore 6, 2) := by decide +kernel
theorem dL_uses_54 : decode cL_uses 54 = .ok (.iload 6, 2) := by decide +kernel
theorem dL_uses_56 : decode cL_uses 56 = .ok (.iload 5, 2) := by decide +kernel
theorem dL_uses_58 : decode cL_uses 58 = .ok (.if_icmp .ge 37, 3) := by decide +kernel
theorem dL_uses_61 : decode cL_uses 61 = .ok (.iload_n 3, 1) := by decide +kernel
theorem dL_uses_62 : decode cL_uses 62 = .ok (.aload_n 0, 1) := by decide +kernel
theorem dL_uses_63 : decode cL_uses 63 = .ok (.iload 4, 2) := by decide +kernel
theorem dL_uses_65 : decode cL_uses 65 = .ok (.bipush 64, 2) := by decide +kernel
theorem dL_uses_67 : decode cL_uses 67 = .ok (.idiv, 1) := by decide +kernel
theorem dL_uses_68 : decode cL_uses 68 = .ok (.iload 4, 2) := by decide +kernel
theorem dL_uses_70 : decode cL_uses 70 = .ok (.bipush 64, 2) := by decide +kernel
theorem dL_uses_72 : decode cL_uses 72 = .ok (.irem, 1) := by decide +kernel
theorem dL_uses_73 : decode cL_uses 73 = .ok (.iload 6, 2) := by decide +kernel
theorem dL_uses_75 : decode cL_uses 75 = .ok (.invokevirtual 32, 3) := by decide +kernel
theorem dL_uses_78 : decode cL_uses 78 = .ok (.iload_n 2, 1) := by decide +kernel
theorem dL_uses_79 : decode cL_uses 79 = .ok (.if_icmp .ne 7, 3) := by decide +kernel
theorem dL_uses_82 : decode cL_uses 82 = .ok (.iconst 1, 1) := by decide +kernel
theorem dL_uses_83 : decode cL_uses 83 = .ok (.goto 4, 3) := by decide +kernel
theorem dL_uses_86 : decode cL_uses 86 = .ok (.iconst 0, 1) := by decide +kernel
theorem dL_uses_87 : decode cL_uses 87 = .ok (.iadd, 1) := by decide +kernel
theorem dL_uses_88 : decode cL_uses 88 = .ok (.istore_n 3, 1) := by decide +kernel
theorem dL_uses_89 : decode cL_uses 89 = .ok (.iinc 6 1, 3) := by decide +kernel
theorem dL_uses_92 : decode cL_uses 92 = .ok (.goto (-38), 3) := by decide +kernel
theorem dL_uses_95 : decode cL_uses 95 = .ok (.iinc 4 1, 3) := by decide +kernel
theorem dL_uses_98 : decode cL_uses 98 = .ok (.goto (-93), 3) := by decide +kernel
theorem dL_uses_101 : decode cL_uses 101 = .ok (.iload_n 3, 1) := by decide +kernel
theorem dL_uses_102 : decode cL_uses 102 = .ok (.ireturn, 1) := by decide +kernel
theorem dL_areChunks_0 : decode cL_areChunks 0 = .ok (.iconst 0, 1) := by decide +kernel
theorem dL_areChunks_1 : decode cL_areChunks 1 = .ok (.istore_n 2, 1) := by decide +kernel
theorem dL_areChunks_2 : decode cL_areChunks 2 = .ok (.iconst 0, 1) := by decide +kernel
theorem dL_areChunks_3 : decode cL_areChunks 3 = .ok (.istore_n 3, 1) := by decide +kernel
theorem dL_areChunks_4 : decode cL_areChunks 4 = .ok (.iconst 0, 1) := by decide +kernel
theorem dL_areChunks_5 : decode cL_areChunks 5 = .ok (.istore 4, 2) := by decide +kernel
theorem dL_areChunks_7 : decode cL_areChunks 7 = .ok (.iconst 0, 1) := by decide +kernel
theorem dL_areChunks_8 : decode cL_areChunks 8 = .ok (.istore 5, 2) := by decide +kernel
theorem dL_areChunks_10 : decode cL_areChunks 10 = .ok (.iconst 1, 1) := by decide +kernel
theorem dL_areChunks_11 : decode cL_areChunks 11 = .ok (.istore 6, 2) := by decide +kernel
theorem dL_areChunks_13 : decode cL_areChunks 13 = .ok (.iconst 0, 1) := by decide +kernel
theorem dL_areChunks_14 : decode cL_areChunks 14 = .ok (.istore 7, 2) := by decide +kernel
theorem dL_areChunks_16 : decode cL_areChunks 16 = .ok (.iload 7, 2) := by decide +kernel
theorem dL_areChunks_18 : decode cL_areChunks 18 = .ok (.aload_n 0, 1) := by decide +kernel
theorem dL_areChunks_19 : decode cL_areChunks 19 = .ok (.invokevirtual 81, 3) := by decide +kernel
theorem dL_areChunks_22 : decode cL_areChunks 22 = .ok (.if_icmp .gt 116, 3) := by decide +kernel
theorem dL_areChunks_25 : decode cL_areChunks 25 = .ok (.iload 6, 2) := by decide +kernel
theorem dL_areChunks_27 : decode cL_areChunks 27 = .ok (.ifCond .eq 111, 3) := by decide +kernel
theorem dL_areChunks_30 : decode cL_areChunks 30 = .ok (.iconst 0, 1) := by decide +kernel
theorem dL_areChunks_31 : decode cL_areChunks 31 = .ok (.istore 8, 2) := by decide +kernel
theorem dL_areChunks_33 : decode cL_areChunks 33 = .ok (.iconst 0, 1) := by decide +kernel
theorem dL_areChunks_34 : decode cL_areChunks 34 = .ok (.istore 9, 2) := by decide +kernel
theorem dL_areChunks_36 : decode cL_areChunks 36 = .ok (.iload 9, 2) := by decide +kernel
theorem dL_areChunks_38 : decode cL_areChunks 38 = .ok (.i2l, 1) := by decide +kernel
theorem dL_areChunks_39 : decode cL_areChunks 39 = .ok (.aload_n 1, 1) := by decide +kernel
theorem dL_areChunks_40 : decode cL_areChunks 40 = .ok (.bipush 6, 2) := by decide +kernel
theorem dL_areChunks_42 : decode cL_areChunks 42 = .ok (.laload, 1) := by decide +kernel
theorem dL_areChunks_43 : decode cL_areChunks 43 = .ok (.lcmp, 1) := by decide +kernel
theorem dL_areChunks_44 : decode cL_areChunks 44 = .ok (.ifCond .ge 44, 3) := by decide +kernel
theorem dL_areChunks_47 : decode cL_areChunks 47 = .ok (.iload 8, 2) := by decide +kernel
theorem dL_areChunks_49 : decode cL_areChunks 49 = .ok (.aload_n 0, 1) := by decide +kernel
theorem dL_areChunks_50 : decode cL_areChunks 50 = .ok (.iload 9, 2) := by decide +kernel
theorem dL_areChunks_52 : decode cL_areChunks 52 = .ok (.invokevirtual 84, 3) := by decide +kernel
theorem dL_areChunks_55 : decode cL_areChunks 55 = .ok (.ifCond .eq 23, 3) := by decide +kernel
theorem dL_areChunks_58 : decode cL_areChunks 58 = .ok (.aload_n 0, 1) := by decide +kernel
theorem dL_areChunks_59 : decode cL_areChunks 59 = .ok (.iload 9, 2) := by decide +kernel
theorem dL_areChunks_61 : decode cL_areChunks 61 = .ok (.invokevirtual 88, 3) := by decide +kernel
theorem dL_areChunks_64 : decode cL_areChunks 64 = .ok (.iload 7, 2) := by decide +kernel
theorem dL_areChunks_66 : decode cL_areChunks 66 = .ok (.if_icmp .ne 12, 3) := by decide +kernel
theorem dL_areChunks_69 : decode cL_areChunks 69 = .ok (.aload_n 0, 1) := by decide +kernel
theorem dL_areChunks_70 : decode cL_areChunks 70 = .ok (.iload 9, 2) := by decide +kernel
theorem dL_areChunks_72 : decode cL_areChunks 72 = .ok (.invokevirtual 35, 3) := by decide +kernel
theorem dL_areChunks_75 : decode cL_areChunks 75 = .ok (.goto 4, 3) := by decide +kernel
theorem dL_areChunks_78 : decode cL_areChunks 78 = .ok (.iconst 0, 1) := by decide +kernel
theorem dL_areChunks_79 : decode cL_areChunks 79 = .ok (.iadd, 1) := by decide +kernel
theorem dL_areChunks_80 : decode cL_areChunks 80 = .ok (.istore 8, 2) := by decide +kernel
theorem dL_areChunks_82 : decode cL_areChunks 82 = .ok (.iinc 9 1, 3) := by decide +kernel
theorem dL_areChunks_85 : decode cL_areChunks 85 = .ok (.goto (-49), 3) := by decide +kernel
theorem dL_areChunks_88 : decode cL_areChunks 88 = .ok (.iload 8, 2) := by decide +kernel
theorem dL_areChunks_90 : decode cL_areChunks 90 = .ok (.sipush 128, 3) := by decide +kernel
theorem dL_areChunks_93 : decode cL_areChunks 93 = .ok (.if_icmp .gt 7, 3) := by decide +kernel
theorem dL_areChunks_96 : decode cL_areChunks 96 = .ok (.iconst 1, 1) := by decide +kernel
theorem dL_areChunks_97 : decode cL_areChunks 97 = .ok (.goto 4, 3) := by decide +kernel
theorem dL_areChunks_100 : decode cL_areChunks 100 = .ok (.iconst 0, 1) := by decide +kernel
theorem dL_areChunks_101 : decode cL_areChunks 101 = .ok (.istore 6, 2) := by decide +kernel
theorem dL_areChunks_103 : decode cL_areChunks 103 = .ok (.iload 5, 2) := by decide +kernel
theorem dL_areChunks_105 : decode cL_areChunks 105 = .ok (.iload 8, 2) := by decide +kernel
theorem dL_areChunks_107 : decode cL_areChunks 107 = .ok (.ifCond .gt 12, 3) := by decide +kernel
theorem dL_areChunks_110 : decode cL_areChunks 110 = .ok (.iload 7, 2) := by decide +kernel
theorem dL_areChunks_112 : decode cL_areChunks 112 = .ok (.aload_n 0, 1) := by decide +kernel
theorem dL_areChunks_113 : decode cL_areChunks 113 = .ok (.invokevirtual 81, 3) := by decide +kernel
theorem dL_areChunks_116 : decode cL_areChunks 116 = .ok (.if_icmp .ne 7, 3) := by decide +kernel
theorem dL_areChunks_119 : decode cL_areChunks 119 = .ok (.iconst 1, 1) := by decide +kernel
theorem dL_areChunks_120 : decode cL_areChunks 120 = .ok (.goto 4, 3) := by decide +kernel
theorem dL_areChunks_123 : decode cL_areChunks 123 = .ok (.iconst 0, 1) := by decide +kernel
theorem dL_areChunks_124 : decode cL_areChunks 124 = .ok (.iadd, 1) := by decide +kernel
theorem dL_areChunks_125 : decode cL_areChunks 125 = .ok (.istore 5, 2) := by decide +kernel
theorem dL_areChunks_127 : decode cL_areChunks 127 = .ok (.iload_n 3, 1) := by decide +kernel
theorem dL_areChunks_128 : decode cL_areChunks 128 = .ok (.iload 8, 2) := by decide +kernel
theorem dL_areChunks_130 : decode cL_areChunks 130 = .ok (.iadd, 1) := by decide +kernel
theorem dL_areChunks_131 : decode cL_areChunks 131 = .ok (.istore_n 3, 1) := by decide +kernel
theorem dL_areChunks_132 : decode cL_areChunks 132 = .ok (.iinc 7 1, 3) := by decide +kernel
theorem dL_areChunks_135 : decode cL_areChunks 135 = .ok (.goto (-119), 3) := by decide +kernel
theorem dL_areChunks_138 : decode cL_areChunks 138 = .ok (.iconst 0, 1) := by decide +kernel
theorem dL_areChunks_139 : decode cL_areChunks 139 = .ok (.istore 7, 2) := by decide +kernel
theorem dL_areChunks_141 : decode cL_areChunks 141 = .ok (.iload 7, 2) := by decide +kernel
theorem dL_areChunks_143 : decode cL_areChunks 143 = .ok (.i2l, 1) := by decide +kernel
theorem dL_areChunks_144 : decode cL_areChunks 144 = .ok (.aload_n 1, 1) := by decide +kernel
theorem dL_areChunks_145 : decode cL_areChunks 145 = .ok (.bipush 6, 2) := by decide +kernel
theorem dL_areChunks_147 : decode cL_areChunks 147 = .ok (.laload, 1) := by decide +kernel
theorem dL_areChunks_148 : decode cL_areChunks 148 = .ok (.lcmp, 1) := by decide +kernel
theorem dL_areChunks_149 : decode cL_areChunks 149 = .ok (.ifCond .ge 101, 3) := by decide +kernel
theorem dL_areChunks_152 : decode cL_areChunks 152 = .ok (.iload 6, 2) := by decide +kernel
theorem dL_areChunks_154 : decode cL_areChunks 154 = .ok (.ifCond .eq 96, 3) := by decide +kernel
theorem dL_areChunks_157 : decode cL_areChunks 157 = .ok (.aload_n 0, 1) := by decide +kernel
theorem dL_areChunks_158 : decode cL_areChunks 158 = .ok (.iload 7, 2) := by decide +kernel
theorem dL_areChunks_160 : decode cL_areChunks 160 = .ok (.invokevirtual 84, 3) := by decide +kernel
theorem dL_areChunks_163 : decode cL_areChunks 163 = .ok (.ifCond .eq 81, 3) := by decide +kernel
theorem dL_areChunks_166 : decode cL_areChunks 166 = .ok (.aload_n 0, 1) := by decide +kernel
theorem dL_areChunks_167 : decode cL_areChunks 167 = .ok (.iload 7, 2) := by decide +kernel
theorem dL_areChunks_169 : decode cL_areChunks 169 = .ok (.invokevirtual 91, 3) := by decide +kernel
theorem dL_areChunks_172 : decode cL_areChunks 172 = .ok (.istore 8, 2) := by decide +kernel
theorem dL_areChunks_174 : decode cL_areChunks 174 = .ok (.iinc 2 1, 3) := by decide +kernel
theorem dL_areChunks_177 : decode cL_areChunks 177 = .ok (.iload 4, 2) := by decide +kernel
theorem dL_areChunks_179 : decode cL_areChunks 179 = .ok (.iload 8, 2) := by decide +kernel
theorem dL_areChunks_181 : decode cL_areChunks 181 = .ok (.ifCond .ne 12, 3) := by decide +kernel
theorem dL_areChunks_184 : decode cL_areChunks 184 = .ok (.aload_n 0, 1) := by decide +kernel
theorem dL_areChunks_185 : decode cL_areChunks 185 = .ok (.iload 7, 2) := by decide +kernel
theorem dL_areChunks_187 : decode cL_areChunks 187 = .ok (.invokevirtual 35, 3) := by decide +kernel
theorem dL_areChunks_190 : decode cL_areChunks 190 = .ok (.goto 4, 3) := by decide +kernel
theorem dL_areChunks_193 : decode cL_areChunks 193 = .ok (.iconst 0, 1) := by decide +kernel
theorem dL_areChunks_194 : decode cL_areChunks 194 = .ok (.iadd, 1) := by decide +kernel
theorem dL_areChunks_195 : decode cL_areChunks 195 = .ok (.istore 4, 2) := by decide +kernel
theorem dL_areChunks_197 : decode cL_areChunks 197 = .ok (.aload_n 0, 1) := by decide +kernel
theorem dL_areChunks_198 : decode cL_areChunks 198 = .ok (.iload 7, 2) := by decide +kernel
theorem dL_areChunks_200 : decode cL_areChunks 200 = .ok (.invokevirtual 35, 3) := by decide +kernel
theorem dL_areChunks_203 : decode cL_areChunks 203 = .ok (.iconst 1, 1) := by decide +kernel
theorem dL_areChunks_204 : decode cL_areChunks 204 = .ok (.if_icmp .lt 37, 3) := by decide +kernel
theorem dL_areChunks_207 : decode cL_areChunks 207 = .ok (.aload_n 0, 1) := by decide +kernel
theorem dL_areChunks_208 : decode cL_areChunks 208 = .ok (.iload 7, 2) := by decide +kernel
theorem dL_areChunks_210 : decode cL_areChunks 210 = .ok (.invokevirtual 35, 3) := by decide +kernel
theorem dL_areChunks_213 : decode cL_areChunks 213 = .ok (.bipush 32, 2) := by decide +kernel
theorem dL_areChunks_215 : decode cL_areChunks 215 = .ok (.if_icmp .gt 26, 3) := by decide +kernel
theorem dL_areChunks_218 : decode cL_areChunks 218 = .ok (.iload 7, 2) := by decide +kernel
theorem dL_areChunks_220 : decode cL_areChunks 220 = .ok (.iconst 5, 1) := by decide +kernel
theorem dL_areChunks_221 : decode cL_areChunks 221 = .ok (.irem, 1) := by decide +kernel
theorem dL_areChunks_222 : decode cL_areChunks 222 = .ok (.ifCond .gt 15, 3) := by decide +kernel
theorem dL_areChunks_225 : decode cL_areChunks 225 = .ok (.iload 8, 2) := by decide +kernel
theorem dL_areChunks_227 : decode cL_areChunks 227 = .ok (.aload_n 0, 1) := by decide +kernel
theorem dL_areChunks_228 : decode cL_areChunks 228 = .ok (.aload_n 1, 1) := by decide +kernel
theorem dL_areChunks_229 : decode cL_areChunks 229 = .ok (.iload 7, 2) := by decide +kernel
theorem dL_areChunks_231 : decode cL_areChunks 231 = .ok (.invokestatic 94, 3) := by decide +kernel
theorem dL_areChunks_234 : decode cL_areChunks 234 = .ok (.if_icmp .ne 7, 3) := by decide +kernel
theorem dL_areChunks_237 : decode cL_areChunks 237 = .ok (.iconst 1, 1) := by decide +kernel
theorem dL_areChunks_238 : decode cL_areChunks 238 = .ok (.goto 4, 3) := by decide +kernel
theorem dL_areChunks_241 : decode cL_areChunks 241 = .ok (.iconst 0, 1) := by decide +kernel
theorem dL_areChunks_242 : decode cL_areChunks 242 = .ok (.istore 6, 2) := by decide +kernel
theorem dL_areChunks_244 : decode cL_areChunks 244 = .ok (.iinc 7 1, 3) := by decide +kernel
theorem dL_areChunks_247 : decode cL_areChunks 247 = .ok (.goto (-106), 3) := by decide +kernel
theorem dL_areChunks_250 : decode cL_areChunks 250 = .ok (.iload 6, 2) := by decide +kernel
theorem dL_areChunks_252 : decode cL_areChunks 252 = .ok (.ifCond .eq 61, 3) := by decide +kernel
theorem dL_areChunks_255 : decode cL_areChunks 255 = .ok (.aload_n 0, 1) := by decide +kernel
theorem dL_areChunks_256 : decode cL_areChunks 256 = .ok (.invokevirtual 98, 3) := by decide +kernel
theorem dL_areChunks_259 : decode cL_areChunks 259 = .ok (.iload_n 2, 1) := by decide +kernel
theorem dL_areChunks_260 : decode cL_areChunks 260 = .ok (.if_icmp .ne 53, 3) := by decide +kernel
theorem dL_areChunks_263 : decode cL_areChunks 263 = .ok (.aload_n 0, 1) := by decide +kernel
theorem dL_areChunks_264 : decode cL_areChunks 264 = .ok (.invokevirtual 101, 3) := by decide +kernel
theorem dL_areChunks_267 : decode cL_areChunks 267 = .ok (.iload_n 3, 1) := by decide +kernel
theorem dL_areChunks_268 : decode cL_areChunks 268 = .ok (.if_icmp .ne 45, 3) := by decide +kernel
theorem dL_areChunks_271 : decode cL_areChunks 271 = .ok (.aload_n 0, 1) := by decide +kernel
theorem dL_areChunks_272 : decode cL_areChunks 272 = .ok (.invokevirtual 104, 3) := by decide +kernel
theorem dL_areChunks_275 : decode cL_areChunks 275 = .ok (.iload 4, 2) := by decide +kernel
theorem dL_areChunks_277 : decode cL_areChunks 277 = .ok (.if_icmp .ne 36, 3) := by decide +kernel
theorem dL_areChunks_280 : decode cL_areChunks 280 = .ok (.aload_n 0, 1) := by decide +kernel
theorem dL_areChunks_281 : decode cL_areChunks 281 = .ok (.invokevirtual 107, 3) := by decide +kernel
theorem dL_areChunks_284 : decode cL_areChunks 284 = .ok (.iload 5, 2) := by decide +kernel
theorem dL_areChunks_286 : decode cL_areChunks 286 = .ok (.if_icmp .ne 27, 3) := by decide +kernel
theorem dL_areChunks_289 : decode cL_areChunks 289 = .ok (.aload_n 0, 1) := by decide +kernel
theorem dL_areChunks_290 : decode cL_areChunks 290 = .ok (.aload_n 1, 1) := by decide +kernel
theorem dL_areChunks_291 : decode cL_areChunks 291 = .ok (.bipush 6, 2) := by decide +kernel
theorem dL_areChunks_293 : decode cL_areChunks 293 = .ok (.laload, 1) := by decide +kernel
theorem dL_areChunks_294 : decode cL_areChunks 294 = .ok (.l2i, 1) := by decide +kernel
theorem dL_areChunks_295 : decode cL_areChunks 295 = .ok (.invokevirtual 84, 3) := by decide +kernel
theorem dL_areChunks_298 : decode cL_areChunks 298 = .ok (.ifCond .ne 15, 3) := by decide +kernel
theorem dL_areChunks_301 : decode cL_areChunks 301 = .ok (.aload_n 0, 1) := by decide +kernel
theorem dL_areChunks_302 : decode cL_areChunks 302 = .ok (.iconst (-1), 1) := by decide +kernel
theorem dL_areChunks_303 : decode cL_areChunks 303 = .ok (.invokevirtual 84, 3) := by decide +kernel
theorem dL_areChunks_306 : decode cL_areChunks 306 = .ok (.ifCond .ne 7, 3) := by decide +kernel
theorem dL_areChunks_309 : decode cL_areChunks 309 = .ok (.iconst 1, 1) := by decide +kernel
theorem dL_areChunks_310 : decode cL_areChunks 310 = .ok (.goto 4, 3) := by decide +kernel
theorem dL_areChunks_313 : decode cL_areChunks 313 = .ok (.iconst 0, 1) := by decide +kernel
theorem dL_areChunks_314 : decode cL_areChunks 314 = .ok (.istore 6, 2) := by decide +kernel
theorem dL_areChunks_316 : decode cL_areChunks 316 = .ok (.iload 6, 2) := by decide +kernel
theorem dL_areChunks_318 : decode cL_areChunks 318 = .ok (.ifCond .eq 31, 3) := by decide +kernel
theorem dL_areChunks_321 : decode cL_areChunks 321 = .ok (.aload_n 0, 1) := by decide +kernel
theorem dL_areChunks_322 : decode cL_areChunks 322 = .ok (.invokevirtual 110, 3) := by decide +kernel
theorem dL_areChunks_325 : decode cL_areChunks 325 = .ok (.iload_n 3, 1) := by decide +kernel
theorem dL_areChunks_326 : decode cL_areChunks 326 = .ok (.ifCond .ne 7, 3) := by decide +kernel
theorem dL_areChunks_329 : decode cL_areChunks 329 = .ok (.dconst 0, 1) := by decide +kernel
theorem dL_areChunks_330 : decode cL_areChunks 330 = .ok (.goto 11, 3) := by decide +kernel
theorem dL_areChunks_333 : decode cL_areChunks 333 = .ok (.aload_n 0, 1) := by decide +kernel
theorem dL_areChunks_334 : decode cL_areChunks 334 = .ok (.invokevirtual 70, 3) := by decide +kernel
theorem dL_areChunks_337 : decode cL_areChunks 337 = .ok (.i2d, 1) := by decide +kernel
theorem dL_areChunks_338 : decode cL_areChunks 338 = .ok (.iload_n 3, 1) := by decide +kernel
theorem dL_areChunks_339 : decode cL_areChunks 339 = .ok (.i2d, 1) := by decide +kernel
theorem dL_areChunks_340 : decode cL_areChunks 340 = .ok (.ddiv, 1) := by decide +kernel
theorem dL_areChunks_341 : decode cL_areChunks 341 = .ok (.dcmp .l, 1) := by decide +kernel
theorem dL_areChunks_342 : decode cL_areChunks 342 = .ok (.ifCond .ne 7, 3) := by decide +kernel
theorem dL_areChunks_345 : decode cL_areChunks 345 = .ok (.iconst 1, 1) := by decide +kernel
theorem dL_areChunks_346 : decode cL_areChunks 346 = .ok (.goto 4, 3) := by decide +kernel
theorem dL_areChunks_349 : decode cL_areChunks 349 = .ok (.iconst 0, 1) := by decide +kernel
theorem dL_areChunks_350 : decode cL_areChunks 350 = .ok (.ireturn, 1) := by decide +kernel
theorem dL_isCache_0 : decode cL_isCache 0 = .ok (.aload_n 0, 1) := by decide +kernel
theorem dL_isCache_1 : decode cL_isCache 1 = .ok (.iconst 0, 1) := by decide +kernel
theorem dL_isCache_2 : decode cL_isCache 2 = .ok (.invokevirtual 114, 3) := by decide +kernel
theorem dL_isCache_5 : decode cL_isCache 5 = .ok (.istore_n 1, 1) := by decide +kernel
theorem dL_isCache_6 : decode cL_isCache 6 = .ok (.aload_n 0, 1) := by decide +kernel
theorem dL_isCache_7 : decode cL_isCache 7 = .ok (.iconst 1, 1) := by decide +kernel
theorem dL_isCache_8 : decode cL_isCache 8 = .ok (.invokevirtual 114, 3) := by decide +kernel
theorem dL_isCache_11 : decode cL_isCache 11 = .ok (.istore_n 2, 1) := by decide +kernel
theorem dL_isCache_12 : decode cL_isCache 12 = .ok (.aload_n 0, 1) := by decide +kernel
theorem dL_isCache_13 : decode cL_isCache 13 = .ok (.iconst 2, 1) := by decide +kernel
theorem dL_isCache_14 : decode cL_isCache 14 = .ok (.invokevirtual 114, 3) := by decide +kernel
theorem dL_isCache_17 : decode cL_isCache 17 = .ok (.istore_n 3, 1) := by decide +kernel
theorem dL_isCache_18 : decode cL_isCache 18 = .ok (.iload_n 1, 1) := by decide +kernel
theorem dL_isCache_19 : decode cL_isCache 19 = .ok (.iconst (-1), 1) := by decide +kernel
theorem dL_isCache_20 : decode cL_isCache 20 = .ok (.if_icmp .ne 21, 3) := by decide +kernel
theorem dL_isCache_23 : decode cL_isCache 23 = .ok (.iload_n 2, 1) := by decide +kernel
theorem dL_isCache_24 : decode cL_isCache 24 = .ok (.iconst (-1), 1) := by decide +kernel
theorem dL_isCache_25 : decode cL_isCache 25 = .ok (.if_icmp .ne 12, 3) := by decide +kernel
theorem dL_isCache_28 : decode cL_isCache 28 = .ok (.iload_n 3, 1) := by decide +kernel
theorem dL_isCache_29 : decode cL_isCache 29 = .ok (.iconst (-1), 1) := by decide +kernel
theorem dL_isCache_30 : decode cL_isCache 30 = .ok (.if_icmp .ne 7, 3) := by decide +kernel
theorem dL_isCache_33 : decode cL_isCache 33 = .ok (.iconst 1, 1) := by decide +kernel
theorem dL_isCache_34 : decode cL_isCache 34 = .ok (.goto 40, 3) := by decide +kernel
theorem dL_isCache_37 : decode cL_isCache 37 = .ok (.iconst 0, 1) := by decide +kernel
theorem dL_isCache_38 : decode cL_isCache 38 = .ok (.goto 36, 3) := by decide +kernel
theorem dL_isCache_41 : decode cL_isCache 41 = .ok (.iload_n 1, 1) := by decide +kernel
theorem dL_isCache_42 : decode cL_isCache 42 = .ok (.iload_n 2, 1) := by decide +kernel
theorem dL_isCache_43 : decode cL_isCache 43 = .ok (.if_icmp .eq 30, 3) := by decide +kernel
theorem dL_isCache_46 : decode cL_isCache 46 = .ok (.iload_n 2, 1) := by decide +kernel
theorem dL_isCache_47 : decode cL_isCache 47 = .ok (.iconst (-1), 1) := by decide +kernel
theorem dL_isCache_48 : decode cL_isCache 48 = .ok (.if_icmp .ne 11, 3) := by decide +kernel
theorem dL_isCache_51 : decode cL_isCache 51 = .ok (.iload_n 3, 1) := by decide +kernel
theorem dL_isCache_52 : decode cL_isCache 52 = .ok (.iconst (-1), 1) := by decide +kernel
theorem dL_isCache_53 : decode cL_isCache 53 = .ok (.if_icmp .ne 20, 3) := by decide +kernel
theorem dL_isCache_56 : decode cL_isCache 56 = .ok (.goto 13, 3) := by decide +kernel
theorem dL_isCache_59 : decode cL_isCache 59 = .ok (.iload_n 1, 1) := by decide +kernel
theorem dL_isCache_60 : decode cL_isCache 60 = .ok (.iload_n 3, 1) := by decide +kernel
theorem dL_isCache_61 : decode cL_isCache 61 = .ok (.if_icmp .eq 12, 3) := by decide +kernel
theorem dL_isCache_64 : decode cL_isCache 64 = .ok (.iload_n 2, 1) := by decide +kernel
theorem dL_isCache_65 : decode cL_isCache 65 = .ok (.iload_n 3, 1) := by decide +kernel
theorem dL_isCache_66 : decode cL_isCache 66 = .ok (.if_icmp .eq 7, 3) := by decide +kernel
theorem dL_isCache_69 : decode cL_isCache 69 = .ok (.iconst 1, 1) := by decide +kernel
theorem dL_isCache_70 : decode cL_isCache 70 = .ok (.goto 4, 3) := by decide +kernel
theorem dL_isCache_73 : decode cL_isCache 73 = .ok (.iconst 0, 1) := by decide +kernel
theorem dL_isCache_74 : decode cL_isCache 74 = .ok (.istore 4, 2) := by decide +kernel
theorem dL_isCache_76 : decode cL_isCache 76 = .ok (.iload 4, 2) := by decide +kernel
theorem dL_isCache_78 : decode cL_isCache 78 = .ok (.ifCond .eq 36, 3) := by decide +kernel
theorem dL_isCache_81 : decode cL_isCache 81 = .ok (.iload_n 1, 1) := by decide +kernel
theorem dL_isCache_82 : decode cL_isCache 82 = .ok (.iconst (-1), 1) := by decide +kernel
theorem dL_isCache_83 : decode cL_isCache 83 = .ok (.if_icmp .lt 31, 3) := by decide +kernel
theorem dL_isCache_86 : decode cL_isCache 86 = .ok (.iload_n 1, 1) := by decide +kernel
theorem dL_isCache_87 : decode cL_isCache 87 = .ok (.aload_n 0, 1) := by decide +kernel
theorem dL_isCache_88 : decode cL_isCache 88 = .ok (.invokevirtual 81, 3) := by decide +kernel
theorem dL_isCache_91 : decode cL_isCache 91 = .ok (.if_icmp .gt 23, 3) := by decide +kernel
theorem dL_isCache_94 : decode cL_isCache 94 = .ok (.iload_n 2, 1) := by decide +kernel
theorem dL_isCache_95 : decode cL_isCache 95 = .ok (.aload_n 0, 1) := by decide +kernel
theorem dL_isCache_96 : decode cL_isCache 96 = .ok (.invokevirtual 81, 3) := by decide +kernel
theorem dL_isCache_99 : decode cL_isCache 99 = .ok (.if_icmp .gt 15, 3) := by decide +kernel
theorem dL_isCache_102 : decode cL_isCache 102 = .ok (.iload_n 3, 1) := by decide +kernel
theorem dL_isCache_103 : decode cL_isCache 103 = .ok (.aload_n 0, 1) := by decide +kernel
theorem dL_isCache_104 : decode cL_isCache 104 = .ok (.invokevirtual 81, 3) := by decide +kernel
theorem dL_isCache_107 : decode cL_isCache 107 = .ok (.if_icmp .gt 7, 3) := by decide +kernel
theorem dL_isCache_110 : decode cL_isCache 110 = .ok (.iconst 1, 1) := by decide +kernel
theorem dL_isCache_111 : decode cL_isCache 111 = .ok (.goto 4, 3) := by decide +kernel
theorem dL_isCache_114 : decode cL_isCache 114 = .ok (.iconst 0, 1) := by decide +kernel
theorem dL_isCache_115 : decode cL_isCache 115 = .ok (.ireturn, 1) := by decide +kernel
theorem dL_saves_0 : decode cL_saves 0 = .ok (.aload_n 0, 1) := by decide +kernel
theorem dL_saves_1 : decode cL_saves 1 = .ok (.invokevirtual 117, 3) := by decide +kernel
theorem dL_saves_4 : decode cL_saves 4 = .ok (.istore 4, 2) := by decide +kernel
theorem dL_saves_6 : decode cL_saves 6 = .ok (.aload_n 0, 1) := by decide +kernel
theorem dL_saves_7 : decode cL_saves 7 = .ok (.invokevirtual 101, 3) := by decide +kernel
theorem dL_saves_10 : decode cL_saves 10 = .ok (.istore 5, 2) := by decide +kernel
theorem dL_saves_12 : decode cL_saves 12 = .ok (.aload_n 0, 1) := by decide +kernel
theorem dL_saves_13 : decode cL_saves 13 = .ok (.invokevirtual 120, 3) := by decide +kernel
theorem dL_saves_16 : decode cL_saves 16 = .ok (.aload_n 0, 1) := by decide +kernel
theorem dL_saves_17 : decode cL_saves 17 = .ok (.invokevirtual 123, 3) := by decide +kernel
theorem dL_saves_20 : decode cL_saves 20 = .ok (.iadd, 1) := by decide +kernel
theorem dL_saves_21 : decode cL_saves 21 = .ok (.istore 6, 2) := by decide +kernel
theorem dL_saves_23 : decode cL_saves 23 = .ok (.aload_n 0, 1) := by decide +kernel
theorem dL_saves_24 : decode cL_saves 24 = .ok (.invokevirtual 120, 3) := by decide +kernel
theorem dL_saves_27 : decode cL_saves 27 = .ok (.istore 7, 2) := by decide +kernel
theorem dL_saves_29 : decode cL_saves 29 = .ok (.aload_n 0, 1) := by decide +kernel
theorem dL_saves_30 : decode cL_saves 30 = .ok (.iload_n 2, 1) := by decide +kernel
theorem dL_saves_31 : decode cL_saves 31 = .ok (.invokevirtual 59, 3) := by decide +kernel
theorem dL_saves_34 : decode cL_saves 34 = .ok (.istore 8, 2) := by decide +kernel
theorem dL_saves_36 : decode cL_saves 36 = .ok (.aload_n 0, 1) := by decide +kernel
theorem dL_saves_37 : decode cL_saves 37 = .ok (.iload_n 2, 1) := by decide +kernel
theorem dL_saves_38 : decode cL_saves 38 = .ok (.invokevirtual 126, 3) := by decide +kernel
theorem dL_saves_41 : decode cL_saves 41 = .ok (.istore 9, 2) := by decide +kernel
theorem dL_saves_43 : decode cL_saves 43 = .ok (.iload 9, 2) := by decide +kernel
theorem dL_saves_45 : decode cL_saves 45 = .ok (.iload_n 3, 1) := by decide +kernel
theorem dL_saves_46 : decode cL_saves 46 = .ok (.if_icmp .eq 5, 3) := by decide +kernel
theorem dL_saves_49 : decode cL_saves 49 = .ok (.iconst 0, 1) := by decide +kernel
theorem dL_saves_50 : decode cL_saves 50 = .ok (.ireturn, 1) := by decide +kernel
theorem dL_saves_51 : decode cL_saves 51 = .ok (.aload_n 1, 1) := by decide +kernel
theorem dL_saves_52 : decode cL_saves 52 = .ok (.iload_n 2, 1) := by decide +kernel
theorem dL_saves_53 : decode cL_saves 53 = .ok (.dup2, 1) := by decide +kernel
theorem dL_saves_54 : decode cL_saves 54 = .ok (.laload, 1) := by decide +kernel
theorem dL_saves_55 : decode cL_saves 55 = .ok (.lconst 1, 1) := by decide +kernel
theorem dL_saves_56 : decode cL_saves 56 = .ok (.iload 9, 2) := by decide +kernel
theorem dL_saves_58 : decode cL_saves 58 = .ok (.lshl, 1) := by decide +kernel
theorem dL_saves_59 : decode cL_saves 59 = .ok (.lor, 1) := by decide +kernel
theorem dL_saves_60 : decode cL_saves 60 = .ok (.lastore, 1) := by decide +kernel
theorem dL_saves_61 : decode cL_saves 61 = .ok (.aload_n 0, 1) := by decide +kernel
theorem dL_saves_62 : decode cL_saves 62 = .ok (.iload_n 2, 1) := by decide +kernel
theorem dL_saves_63 : decode cL_saves 63 = .ok (.iload 9, 2) := by decide +kernel
theorem dL_saves_65 : decode cL_saves 65 = .ok (.invokevirtual 16, 3) := by decide +kernel
theorem dL_saves_68 : decode cL_saves 68 = .ok (.aload_n 0, 1) := by decide +kernel
theorem dL_saves_69 : decode cL_saves 69 = .ok (.invokevirtual 129, 3) := by decide +kernel
theorem dL_saves_72 : decode cL_saves 72 = .ok (.if_icmp .ne 57, 3) := by decide +kernel
theorem dL_saves_75 : decode cL_saves 75 = .ok (.aload_n 0, 1) := by decide +kernel
theorem dL_saves_76 : decode cL_saves 76 = .ok (.invokevirtual 101, 3) := by decide +kernel
theorem dL_saves_79 : decode cL_saves 79 = .ok (.iload 5, 2) := by decide +kernel
theorem dL_saves_81 : decode cL_saves 81 = .ok (.iload 4, 2) := by decide +kernel
theorem dL_saves_83 : decode cL_saves 83 = .ok (.iadd, 1) := by decide +kernel
theorem dL_saves_84 : decode cL_saves 84 = .ok (.if_icmp .ne 45, 3) := by decide +kernel
theorem dL_saves_87 : decode cL_saves 87 = .ok (.aload_n 0, 1) := by decide +kernel
theorem dL_saves_88 : decode cL_saves 88 = .ok (.invokevirtual 117, 3) := by decide +kernel
theorem dL_saves_91 : decode cL_saves 91 = .ok (.ifCond .ne 38, 3) := by decide +kernel
theorem dL_saves_94 : decode cL_saves 94 = .ok (.aload_n 0, 1) := by decide +kernel
theorem dL_saves_95 : decode cL_saves 95 = .ok (.invokevirtual 120, 3) := by decide +kernel
theorem dL_saves_98 : decode cL_saves 98 = .ok (.iload 7, 2) := by decide +kernel
theorem dL_saves_100 : decode cL_saves 100 = .ok (.if_icmp .lt 29, 3) := by decide +kernel
theorem dL_saves_103 : decode cL_saves 103 = .ok (.aload_n 0, 1) := by decide +kernel
theorem dL_saves_104 : decode cL_saves 104 = .ok (.invokevirtual 120, 3) := by decide +kernel
theorem dL_saves_107 : decode cL_saves 107 = .ok (.aload_n 0, 1) := by decide +kernel
theorem dL_saves_108 : decode cL_saves 108 = .ok (.invokevirtual 123, 3) := by decide +kernel
theorem dL_saves_111 : decode cL_saves 111 = .ok (.iadd, 1) := by decide +kernel
theorem dL_saves_112 : decode cL_saves 112 = .ok (.iload 6, 2) := by decide +kernel
theorem dL_saves_114 : decode cL_saves 114 = .ok (.aload_n 0, 1) := by decide +kernel
theorem dL_saves_115 : decode cL_saves 115 = .ok (.iload_n 2, 1) := by decide +kernel
theorem dL_saves_116 : decode cL_saves 116 = .ok (.iload 9, 2) := by decide +kernel
theorem dL_saves_118 : decode cL_saves 118 = .ok (.invokevirtual 29, 3) := by decide +kernel
theorem dL_saves_121 : decode cL_saves 121 = .ok (.iadd, 1) := by decide +kernel
theorem dL_saves_122 : decode cL_saves 122 = .ok (.if_icmp .ne 7, 3) := by decide +kernel
theorem dL_saves_125 : decode cL_saves 125 = .ok (.iconst 1, 1) := by decide +kernel
theorem dL_saves_126 : decode cL_saves 126 = .ok (.goto 4, 3) := by decide +kernel
theorem dL_saves_129 : decode cL_saves 129 = .ok (.iconst 0, 1) := by decide +kernel
theorem dL_saves_130 : decode cL_saves 130 = .ok (.istore 10, 2) := by decide +kernel
theorem dL_saves_132 : decode cL_saves 132 = .ok (.iconst 0, 1) := by decide +kernel
theorem dL_saves_133 : decode cL_saves 133 = .ok (.istore 11, 2) := by decide +kernel
theorem dL_saves_135 : decode cL_saves 135 = .ok (.iload 11, 2) := by decide +kernel
theorem dL_saves_137 : decode cL_saves 137 = .ok (.aload_n 0, 1) := by decide +kernel
theorem dL_saves_138 : decode cL_saves 138 = .ok (.invokevirtual 129, 3) := by decide +kernel
theorem dL_saves_141 : decode cL_saves 141 = .ok (.if_icmp .ge 39, 3) := by decide +kernel
theorem dL_saves_144 : decode cL_saves 144 = .ok (.iload 10, 2) := by decide +kernel
theorem dL_saves_146 : decode cL_saves 146 = .ok (.ifCond .eq 25, 3) := by decide +kernel
theorem dL_saves_149 : decode cL_saves 149 = .ok (.aload_n 0, 1) := by decide +kernel
theorem dL_saves_150 : decode cL_saves 150 = .ok (.iload_n 2, 1) := by decide +kernel
theorem dL_saves_151 : decode cL_saves 151 = .ok (.iload 9, 2) := by decide +kernel
theorem dL_saves_153 : decode cL_saves 153 = .ok (.iload 11, 2) := by decide +kernel
theorem dL_saves_155 : decode cL_saves 155 = .ok (.invokevirtual 26, 3) := by decide +kernel
theorem dL_saves_158 : decode cL_saves 158 = .ok (.aload_n 0, 1) := by decide +kernel
theorem dL_saves_159 : decode cL_saves 159 = .ok (.iload 11, 2) := by decide +kernel
theorem dL_saves_161 : decode cL_saves 161 = .ok (.invokevirtual 132, 3) := by decide +kernel
theorem dL_saves_164 : decode cL_saves 164 = .ok (.if_icmp .ne 7, 3) := by decide +kernel
theorem dL_saves_167 : decode cL_saves 167 = .ok (.iconst 1, 1) := by decide +kernel
theorem dL_saves_168 : decode cL_saves 168 = .ok (.goto 4, 3) := by decide +kernel
theorem dL_saves_171 : decode cL_saves 171 = .ok (.iconst 0, 1) := by decide +kernel
theorem dL_saves_172 : decode cL_saves 172 = .ok (.istore 10, 2) := by decide +kernel
theorem dL_saves_174 : decode cL_saves 174 = .ok (.iinc 11 1, 3) := by decide +kernel
theorem dL_saves_177 : decode cL_saves 177 = .ok (.goto (-42), 3) := by decide +kernel
theorem dL_saves_180 : decode cL_saves 180 = .ok (.iconst 0, 1) := by decide +kernel
theorem dL_saves_181 : decode cL_saves 181 = .ok (.istore 11, 2) := by decide +kernel
theorem dL_saves_183 : decode cL_saves 183 = .ok (.iload 11, 2) := by decide +kernel
theorem dL_saves_185 : decode cL_saves 185 = .ok (.aload_n 0, 1) := by decide +kernel
theorem dL_saves_186 : decode cL_saves 186 = .ok (.iload_n 2, 1) := by decide +kernel
theorem dL_saves_187 : decode cL_saves 187 = .ok (.iload 9, 2) := by decide +kernel
theorem dL_saves_189 : decode cL_saves 189 = .ok (.invokevirtual 29, 3) := by decide +kernel
theorem dL_saves_192 : decode cL_saves 192 = .ok (.if_icmp .ge 62, 3) := by decide +kernel
theorem dL_saves_195 : decode cL_saves 195 = .ok (.iload 10, 2) := by decide +kernel
theorem dL_saves_197 : decode cL_saves 197 = .ok (.ifCond .eq 57, 3) := by decide +kernel
theorem dL_saves_200 : decode cL_saves 200 = .ok (.aload_n 0, 1) := by decide +kernel
theorem dL_saves_201 : decode cL_saves 201 = .ok (.iload_n 2, 1) := by decide +kernel
theorem dL_saves_202 : decode cL_saves 202 = .ok (.iload 9, 2) := by decide +kernel
theorem dL_saves_204 : decode cL_saves 204 = .ok (.iload 11, 2) := by decide +kernel
theorem dL_saves_206 : decode cL_saves 206 = .ok (.invokevirtual 32, 3) := by decide +kernel
theorem dL_saves_209 : decode cL_saves 209 = .ok (.istore 12, 2) := by decide +kernel
theorem dL_saves_211 : decode cL_saves 211 = .ok (.aload_n 1, 1) := by decide +kernel
theorem dL_saves_212 : decode cL_saves 212 = .ok (.bipush 6, 2) := by decide +kernel
theorem dL_saves_214 : decode cL_saves 214 = .ok (.iload 12, 2) := by decide +kernel
theorem dL_saves_216 : decode cL_saves 216 = .ok (.iconst 1, 1) := by decide +kernel
theorem dL_saves_217 : decode cL_saves 217 = .ok (.iadd, 1) := by decide +kernel
theorem dL_saves_218 : decode cL_saves 218 = .ok (.i2l, 1) := by decide +kernel
theorem dL_saves_219 : decode cL_saves 219 = .ok (.aload_n 1, 1) := by decide +kernel
theorem dL_saves_220 : decode cL_saves 220 = .ok (.bipush 6, 2) := by decide +kernel
theorem dL_saves_222 : decode cL_saves 222 = .ok (.laload, 1) := by decide +kernel
theorem dL_saves_223 : decode cL_saves 223 = .ok (.lcmp, 1) := by decide +kernel
theorem dL_saves_224 : decode cL_saves 224 = .ok (.ifCond .le 11, 3) := by decide +kernel
theorem dL_saves_227 : decode cL_saves 227 = .ok (.iload 12, 2) := by decide +kernel
theorem dL_saves_229 : decode cL_saves 229 = .ok (.iconst 1, 1) := by decide +kernel
theorem dL_saves_230 : decode cL_saves 230 = .ok (.iadd, 1) := by decide +kernel
theorem dL_saves_231 : decode cL_saves 231 = .ok (.i2l, 1) := by decide +kernel
theorem dL_saves_232 : decode cL_saves 232 = .ok (.goto 7, 3) := by decide +kernel
theorem dL_saves_235 : decode cL_saves 235 = .ok (.aload_n 1, 1) := by decide +kernel
theorem dL_saves_236 : decode cL_saves 236 = .ok (.bipush 6, 2) := by decide +kernel
theorem dL_saves_238 : decode cL_saves 238 = .ok (.laload, 1) := by decide +kernel
theorem dL_saves_239 : decode cL_saves 239 = .ok (.lastore, 1) := by decide +kernel
theorem dL_saves_240 : decode cL_saves 240 = .ok (.aload_n 0, 1) := by decide +kernel
theorem dL_saves_241 : decode cL_saves 241 = .ok (.iload 12, 2) := by decide +kernel
theorem dL_saves_243 : decode cL_saves 243 = .ok (.invokevirtual 84, 3) := by decide +kernel
theorem dL_saves_246 : decode cL_saves 246 = .ok (.istore 10, 2) := by decide +kernel
theorem dL_saves_248 : decode cL_saves 248 = .ok (.iinc 11 1, 3) := by decide +kernel
theorem dL_saves_251 : decode cL_saves 251 = .ok (.goto (-68), 3) := by decide +kernel
theorem dL_saves_254 : decode cL_saves 254 = .ok (.aload_n 0, 1) := by decide +kernel
theorem dL_saves_255 : decode cL_saves 255 = .ok (.iload_n 2, 1) := by decide +kernel
theorem dL_saves_256 : decode cL_saves 256 = .ok (.iload 9, 2) := by decide +kernel
theorem dL_saves_258 : decode cL_saves 258 = .ok (.invokevirtual 29, 3) := by decide +kernel
theorem dL_saves_261 : decode cL_saves 261 = .ok (.istore 11, 2) := by decide +kernel
theorem dL_saves_263 : decode cL_saves 263 = .ok (.iload 10, 2) := by decide +kernel
theorem dL_saves_265 : decode cL_saves 265 = .ok (.ifCond .eq 58, 3) := by decide +kernel
theorem dL_saves_268 : decode cL_saves 268 = .ok (.aload_n 0, 1) := by decide +kernel
theorem dL_saves_269 : decode cL_saves 269 = .ok (.iload_n 2, 1) := by decide +kernel
theorem dL_saves_270 : decode cL_saves 270 = .ok (.iload 9, 2) := by decide +kernel
theorem dL_saves_272 : decode cL_saves 272 = .ok (.invokevirtual 39, 3) := by decide +kernel
theorem dL_saves_275 : decode cL_saves 275 = .ok (.iconst (-1), 1) := by decide +kernel
theorem dL_saves_276 : decode cL_saves 276 = .ok (.if_icmp .eq 15, 3) := by decide +kernel
theorem dL_saves_279 : decode cL_saves 279 = .ok (.aload_n 0, 1) := by decide +kernel
theorem dL_saves_280 : decode cL_saves 280 = .ok (.iload_n 2, 1) := by decide +kernel
theorem dL_saves_281 : decode cL_saves 281 = .ok (.iload 9, 2) := by decide +kernel
theorem dL_saves_283 : decode cL_saves 283 = .ok (.invokevirtual 39, 3) := by decide +kernel
theorem dL_saves_286 : decode cL_saves 286 = .ok (.iload 8, 2) := by decide +kernel
theorem dL_saves_288 : decode cL_saves 288 = .ok (.if_icmp .ne 35, 3) := by decide +kernel
theorem dL_saves_291 : decode cL_saves 291 = .ok (.iload 11, 2) := by decide +kernel
theorem dL_saves_293 : decode cL_saves 293 = .ok (.ifCond .eq 26, 3) := by decide +kernel
theorem dL_saves_296 : decode cL_saves 296 = .ok (.aload_n 0, 1) := by decide +kernel
theorem dL_saves_297 : decode cL_saves 297 = .ok (.iconst 0, 1) := by decide +kernel
theorem dL_saves_298 : decode cL_saves 298 = .ok (.invokevirtual 114, 3) := by decide +kernel
theorem dL_saves_301 : decode cL_saves 301 = .ok (.aload_n 0, 1) := by decide +kernel
theorem dL_saves_302 : decode cL_saves 302 = .ok (.aload_n 0, 1) := by decide +kernel
theorem dL_saves_303 : decode cL_saves 303 = .ok (.iload_n 2, 1) := by decide +kernel
theorem dL_saves_304 : decode cL_saves 304 = .ok (.iload 9, 2) := by decide +kernel
theorem dL_saves_306 : decode cL_saves 306 = .ok (.iload 11, 2) := by decide +kernel
theorem dL_saves_308 : decode cL_saves 308 = .ok (.iconst 1, 1) := by decide +kernel
theorem dL_saves_309 : decode cL_saves 309 = .ok (.isub, 1) := by decide +kernel
theorem dL_saves_310 : decode cL_saves 310 = .ok (.invokevirtual 32, 3) := by decide +kernel
theorem dL_saves_313 : decode cL_saves 313 = .ok (.invokevirtual 88, 3) := by decide +kernel
theorem dL_saves_316 : decode cL_saves 316 = .ok (.if_icmp .ne 7, 3) := by decide +kernel
theorem dL_saves_319 : decode cL_saves 319 = .ok (.iconst 1, 1) := by decide +kernel
theorem dL_saves_320 : decode cL_saves 320 = .ok (.goto 4, 3) := by decide +kernel
theorem dL_saves_323 : decode cL_saves 323 = .ok (.iconst 0, 1) := by decide +kernel
theorem dL_saves_324 : decode cL_saves 324 = .ok (.istore 10, 2) := by decide +kernel
theorem dL_saves_326 : decode cL_saves 326 = .ok (.iload 10, 2) := by decide +kernel
theorem dL_saves_328 : decode cL_saves 328 = .ok (.ifCond .eq 17, 3) := by decide +kernel
theorem dL_saves_331 : decode cL_saves 331 = .ok (.aload_n 0, 1) := by decide +kernel
theorem dL_saves_332 : decode cL_saves 332 = .ok (.iload_n 2, 1) := by decide +kernel
theorem dL_saves_333 : decode cL_saves 333 = .ok (.iload 9, 2) := by decide +kernel
theorem dL_saves_335 : decode cL_saves 335 = .ok (.invokestatic 73, 3) := by decide +kernel
theorem dL_saves_338 : decode cL_saves 338 = .ok (.ifCond .eq 7, 3) := by decide +kernel
theorem dL_saves_341 : decode cL_saves 341 = .ok (.iconst 1, 1) := by decide +kernel
theorem dL_saves_342 : decode cL_saves 342 = .ok (.goto 4, 3) := by decide +kernel
theorem dL_saves_345 : decode cL_saves 345 = .ok (.iconst 0, 1) := by decide +kernel
theorem dL_saves_346 : decode cL_saves 346 = .ok (.ireturn, 1) := by decide +kernel
theorem dL_forgets_0 : decode cL_forgets 0 = .ok (.aload_n 0, 1) := by decide +kernel
theorem dL_forgets_1 : decode cL_forgets 1 = .ok (.invokevirtual 101, 3) := by decide +kernel
theorem dL_forgets_4 : decode cL_forgets 4 = .ok (.istore 4, 2) := by decide +kernel
theorem dL_forgets_6 : decode cL_forgets 6 = .ok (.aload_n 0, 1) := by decide +kernel
theorem dL_forgets_7 : decode cL_forgets 7 = .ok (.invokevirtual 104, 3) := by decide +kernel
theorem dL_forgets_10 : decode cL_forgets 10 = .ok (.istore 5, 2) := by decide +kernel
theorem dL_forgets_12 : decode cL_forgets 12 = .ok (.aload_n 1, 1) := by decide +kernel
theorem dL_forgets_13 : decode cL_forgets 13 = .ok (.iload_n 2, 1) := by decide +kernel
theorem dL_forgets_14 : decode cL_forgets 14 = .ok (.dup2, 1) := by decide +kernel
theorem dL_forgets_15 : decode cL_forgets 15 = .ok (.laload, 1) := by decide +kernel
theorem dL_forgets_16 : decode cL_forgets 16 = .ok (.lconst 1, 1) := by decide +kernel
theorem dL_forgets_17 : decode cL_forgets 17 = .ok (.iload_n 3, 1) := by decide +kernel
theorem dL_forgets_18 : decode cL_forgets 18 = .ok (.lshl, 1) := by decide +kernel
theorem dL_forgets_19 : decode cL_forgets 19 = .ok (.ldc2_w 135, 3) := by decide +kernel
theorem dL_forgets_22 : decode cL_forgets 22 = .ok (.lxor, 1) := by decide +kernel
theorem dL_forgets_23 : decode cL_forgets 23 = .ok (.land, 1) := by decide +kernel
theorem dL_forgets_24 : decode cL_forgets 24 = .ok (.lastore, 1) := by decide +kernel
theorem dL_forgets_25 : decode cL_forgets 25 = .ok (.aload_n 0, 1) := by decide +kernel
theorem dL_forgets_26 : decode cL_forgets 26 = .ok (.iload_n 2, 1) := by decide +kernel
theorem dL_forgets_27 : decode cL_forgets 27 = .ok (.iload_n 3, 1) := by decide +kernel
theorem dL_forgets_28 : decode cL_forgets 28 = .ok (.invokevirtual 137, 3) := by decide +kernel
theorem dL_forgets_31 : decode cL_forgets 31 = .ok (.aload_n 1, 1) := by decide +kernel
theorem dL_forgets_32 : decode cL_forgets 32 = .ok (.invokestatic 140, 3) := by decide +kernel
theorem dL_forgets_35 : decode cL_forgets 35 = .ok (.if_icmp .ne 25, 3) := by decide +kernel
theorem dL_forgets_38 : decode cL_forgets 38 = .ok (.aload_n 0, 1) := by decide +kernel
theorem dL_forgets_39 : decode cL_forgets 39 = .ok (.invokevirtual 101, 3) := by decide +kernel
theorem dL_forgets_42 : decode cL_forgets 42 = .ok (.iload 4, 2) := by decide +kernel
theorem dL_forgets_44 : decode cL_forgets 44 = .ok (.if_icmp .ne 16, 3) := by decide +kernel
theorem dL_forgets_47 : decode cL_forgets 47 = .ok (.aload_n 0, 1) := by decide +kernel
theorem dL_forgets_48 : decode cL_forgets 48 = .ok (.invokevirtual 104, 3) := by decide +kernel
theorem dL_forgets_51 : decode cL_forgets 51 = .ok (.iload 5, 2) := by decide +kernel
theorem dL_forgets_53 : decode cL_forgets 53 = .ok (.if_icmp .lt 7, 3) := by decide +kernel
theorem dL_forgets_56 : decode cL_forgets 56 = .ok (.iconst 1, 1) := by decide +kernel
theorem dL_forgets_57 : decode cL_forgets 57 = .ok (.goto 4, 3) := by decide +kernel
theorem dL_forgets_60 : decode cL_forgets 60 = .ok (.iconst 0, 1) := by decide +kernel
theorem dL_forgets_61 : decode cL_forgets 61 = .ok (.ireturn, 1) := by decide +kernel
theorem dL_collects_0 : decode cL_collects 0 = .ok (.aload_n 0, 1) := by decide +kernel
theorem dL_collects_1 : decode cL_collects 1 = .ok (.invokevirtual 101, 3) := by decide +kernel
theorem dL_collects_4 : decode cL_collects 4 = .ok (.istore_n 2, 1) := by decide +kernel
theorem dL_collects_5 : decode cL_collects 5 = .ok (.aload_n 0, 1) := by decide +kernel
theorem dL_collects_6 : decode cL_collects 6 = .ok (.invokevirtual 104, 3) := by decide +kernel
theorem dL_collects_9 : decode cL_collects 9 = .ok (.istore_n 3, 1) := by decide +kernel
theorem dL_collects_10 : decode cL_collects 10 = .ok (.aload_n 0, 1) := by decide +kernel
