/-! what stands at each place of the code: printed -/
theorem dX7_init_0 : decode cX7_init 0 = .ok (.aload_n 0, 1) := by decide +kernel
theorem dX7_init_1 : decode cX7_init 1 = .ok (.invokespecial 1, 3) := by decide +kernel
theorem dX7_init_4 : decode cX7_init 4 = .ok (.aload_n 0, 1) := by decide +kernel
theorem dX7_init_5 : decode cX7_init 5 = .ok (.sipush 240, 3) := by decide +kernel
theorem dX7_init_8 : decode cX7_init 8 = .ok (.newarray .int, 2) := by decide +kernel
theorem dX7_init_10 : decode cX7_init 10 = .ok (.putfield 7, 3) := by decide +kernel
theorem dX7_init_13 : decode cX7_init 13 = .ok (.aload_n 0, 1) := by decide +kernel
theorem dX7_init_14 : decode cX7_init 14 = .ok (.bipush 20, 2) := by decide +kernel
theorem dX7_init_16 : decode cX7_init 16 = .ok (.newarray .int, 2) := by decide +kernel
theorem dX7_init_18 : decode cX7_init 18 = .ok (.putfield 13, 3) := by decide +kernel
theorem dX7_init_21 : decode cX7_init 21 = .ok (.aload_n 0, 1) := by decide +kernel
theorem dX7_init_22 : decode cX7_init 22 = .ok (.bipush 20, 2) := by decide +kernel
theorem dX7_init_24 : decode cX7_init 24 = .ok (.newarray .int, 2) := by decide +kernel
theorem dX7_init_26 : decode cX7_init 26 = .ok (.putfield 16, 3) := by decide +kernel
theorem dX7_init_29 : decode cX7_init 29 = .ok (.aload_n 0, 1) := by decide +kernel
theorem dX7_init_30 : decode cX7_init 30 = .ok (.bipush 20, 2) := by decide +kernel
theorem dX7_init_32 : decode cX7_init 32 = .ok (.newarray .int, 2) := by decide +kernel
theorem dX7_init_34 : decode cX7_init 34 = .ok (.putfield 19, 3) := by decide +kernel
theorem dX7_init_37 : decode cX7_init 37 = .ok (.aload_n 0, 1) := by decide +kernel
theorem dX7_init_38 : decode cX7_init 38 = .ok (.bipush 20, 2) := by decide +kernel
theorem dX7_init_40 : decode cX7_init 40 = .ok (.newarray .int, 2) := by decide +kernel
theorem dX7_init_42 : decode cX7_init 42 = .ok (.putfield 22, 3) := by decide +kernel
theorem dX7_init_45 : decode cX7_init 45 = .ok (.aload_n 0, 1) := by decide +kernel
theorem dX7_init_46 : decode cX7_init 46 = .ok (.bipush 20, 2) := by decide +kernel
theorem dX7_init_48 : decode cX7_init 48 = .ok (.newarray .int, 2) := by decide +kernel
theorem dX7_init_50 : decode cX7_init 50 = .ok (.putfield 25, 3) := by decide +kernel
theorem dX7_init_53 : decode cX7_init 53 = .ok (.aload_n 0, 1) := by decide +kernel
theorem dX7_init_54 : decode cX7_init 54 = .ok (.sipush 600, 3) := by decide +kernel
theorem dX7_init_57 : decode cX7_init 57 = .ok (.newarray .int, 2) := by decide +kernel
theorem dX7_init_59 : decode cX7_init 59 = .ok (.putfield 28, 3) := by decide +kernel
theorem dX7_init_62 : decode cX7_init 62 = .ok (.aload_n 0, 1) := by decide +kernel
theorem dX7_init_63 : decode cX7_init 63 = .ok (.sipush 4800, 3) := by decide +kernel
theorem dX7_init_66 : decode cX7_init 66 = .ok (.newarray .int, 2) := by decide +kernel
theorem dX7_init_68 : decode cX7_init 68 = .ok (.putfield 31, 3) := by decide +kernel
theorem dX7_init_71 : decode cX7_init 71 = .ok (.aload_n 0, 1) := by decide +kernel
theorem dX7_init_72 : decode cX7_init 72 = .ok (.bipush 6, 2) := by decide +kernel
theorem dX7_init_74 : decode cX7_init 74 = .ok (.newarray .int, 2) := by decide +kernel
theorem dX7_init_76 : decode cX7_init 76 = .ok (.putfield 34, 3) := by decide +kernel
theorem dX7_init_79 : decode cX7_init 79 = .ok (.aload_n 0, 1) := by decide +kernel
theorem dX7_init_80 : decode cX7_init 80 = .ok (.sipush 7700, 3) := by decide +kernel
theorem dX7_init_83 : decode cX7_init 83 = .ok (.newarray .int, 2) := by decide +kernel
theorem dX7_init_85 : decode cX7_init 85 = .ok (.putfield 37, 3) := by decide +kernel
theorem dX7_init_88 : decode cX7_init 88 = .ok (.aload_n 0, 1) := by decide +kernel
theorem dX7_init_89 : decode cX7_init 89 = .ok (.sipush 7700, 3) := by decide +kernel
theorem dX7_init_92 : decode cX7_init 92 = .ok (.newarray .int, 2) := by decide +kernel
theorem dX7_init_94 : decode cX7_init 94 = .ok (.putfield 40, 3) := by decide +kernel
theorem dX7_init_97 : decode cX7_init 97 = .ok (.aload_n 0, 1) := by decide +kernel
theorem dX7_init_98 : decode cX7_init 98 = .ok (.sipush 7700, 3) := by decide +kernel
theorem dX7_init_101 : decode cX7_init 101 = .ok (.newarray .int, 2) := by decide +kernel
theorem dX7_init_103 : decode cX7_init 103 = .ok (.putfield 43, 3) := by decide +kernel
theorem dX7_init_106 : decode cX7_init 106 = .ok (.aload_n 0, 1) := by decide +kernel
theorem dX7_init_107 : decode cX7_init 107 = .ok (.sipush 7700, 3) := by decide +kernel
theorem dX7_init_110 : decode cX7_init 110 = .ok (.newarray .int, 2) := by decide +kernel
theorem dX7_init_112 : decode cX7_init 112 = .ok (.putfield 46, 3) := by decide +kernel
theorem dX7_init_115 : decode cX7_init 115 = .ok (.aload_n 0, 1) := by decide +kernel
theorem dX7_init_116 : decode cX7_init 116 = .ok (.ldc 49, 2) := by decide +kernel
theorem dX7_init_118 : decode cX7_init 118 = .ok (.newarray .byte, 2) := by decide +kernel
theorem dX7_init_120 : decode cX7_init 120 = .ok (.putfield 50, 3) := by decide +kernel
theorem dX7_init_123 : decode cX7_init 123 = .ok (.aload_n 0, 1) := by decide +kernel
theorem dX7_init_124 : decode cX7_init 124 = .ok (.iconst 4, 1) := by decide +kernel
theorem dX7_init_125 : decode cX7_init 125 = .ok (.newarray .int, 2) := by decide +kernel
theorem dX7_init_127 : decode cX7_init 127 = .ok (.putfield 54, 3) := by decide +kernel
theorem dX7_init_130 : decode cX7_init 130 = .ok (.iconst 0, 1) := by decide +kernel
theorem dX7_init_131 : decode cX7_init 131 = .ok (.istore_n 1, 1) := by decide +kernel
theorem dX7_init_132 : decode cX7_init 132 = .ok (.iload_n 1, 1) := by decide +kernel
theorem dX7_init_133 : decode cX7_init 133 = .ok (.bipush 20, 2) := by decide +kernel
theorem dX7_init_135 : decode cX7_init 135 = .ok (.if_icmp .ge 16, 3) := by decide +kernel
theorem dX7_init_138 : decode cX7_init 138 = .ok (.aload_n 0, 1) := by decide +kernel
theorem dX7_init_139 : decode cX7_init 139 = .ok (.getfield 13, 3) := by decide +kernel
theorem dX7_init_142 : decode cX7_init 142 = .ok (.iload_n 1, 1) := by decide +kernel
theorem dX7_init_143 : decode cX7_init 143 = .ok (.iconst (-1), 1) := by decide +kernel
theorem dX7_init_144 : decode cX7_init 144 = .ok (.iastore, 1) := by decide +kernel
theorem dX7_init_145 : decode cX7_init 145 = .ok (.iinc 1 1, 3) := by decide +kernel
theorem dX7_init_148 : decode cX7_init 148 = .ok (.goto (-16), 3) := by decide +kernel
theorem dX7_init_151 : decode cX7_init 151 = .ok (.iconst 0, 1) := by decide +kernel
theorem dX7_init_152 : decode cX7_init 152 = .ok (.istore_n 1, 1) := by decide +kernel
theorem dX7_init_153 : decode cX7_init 153 = .ok (.iload_n 1, 1) := by decide +kernel
theorem dX7_init_154 : decode cX7_init 154 = .ok (.iconst 4, 1) := by decide +kernel
theorem dX7_init_155 : decode cX7_init 155 = .ok (.if_icmp .ge 16, 3) := by decide +kernel
theorem dX7_init_158 : decode cX7_init 158 = .ok (.aload_n 0, 1) := by decide +kernel
theorem dX7_init_159 : decode cX7_init 159 = .ok (.getfield 54, 3) := by decide +kernel
theorem dX7_init_162 : decode cX7_init 162 = .ok (.iload_n 1, 1) := by decide +kernel
theorem dX7_init_163 : decode cX7_init 163 = .ok (.iconst (-1), 1) := by decide +kernel
theorem dX7_init_164 : decode cX7_init 164 = .ok (.iastore, 1) := by decide +kernel
theorem dX7_init_165 : decode cX7_init 165 = .ok (.iinc 1 1, 3) := by decide +kernel
theorem dX7_init_168 : decode cX7_init 168 = .ok (.goto (-15), 3) := by decide +kernel
theorem dX7_init_171 : decode cX7_init 171 = .ok (.return_, 1) := by decide +kernel
theorem dX7_thrown_0 : decode cX7_thrown 0 = .ok (.aload_n 0, 1) := by decide +kernel
theorem dX7_thrown_1 : decode cX7_thrown 1 = .ok (.getfield 57, 3) := by decide +kernel
theorem dX7_thrown_4 : decode cX7_thrown 4 = .ok (.ireturn, 1) := by decide +kernel
theorem dX7_can_0 : decode cX7_can 0 = .ok (.aload_n 0, 1) := by decide +kernel
theorem dX7_can_1 : decode cX7_can 1 = .ok (.iload_n 1, 1) := by decide +kernel
theorem dX7_can_2 : decode cX7_can 2 = .ok (.putfield 57, 3) := by decide +kernel
theorem dX7_can_5 : decode cX7_can 5 = .ok (.iload_n 1, 1) := by decide +kernel
theorem dX7_can_6 : decode cX7_can 6 = .ok (.ifCond .ne 7, 3) := by decide +kernel
theorem dX7_can_9 : decode cX7_can 9 = .ok (.iconst 1, 1) := by decide +kernel
theorem dX7_can_10 : decode cX7_can 10 = .ok (.goto 4, 3) := by decide +kernel
theorem dX7_can_13 : decode cX7_can 13 = .ok (.iconst 0, 1) := by decide +kernel
theorem dX7_can_14 : decode cX7_can 14 = .ok (.ireturn, 1) := by decide +kernel
theorem dX7_isIn_0 : decode cX7_isIn 0 = .ok (.iload_n 0, 1) := by decide +kernel
theorem dX7_isIn_1 : decode cX7_isIn 1 = .ok (.iload_n 1, 1) := by decide +kernel
theorem dX7_isIn_2 : decode cX7_isIn 2 = .ok (.if_icmp .lt 12, 3) := by decide +kernel
theorem dX7_isIn_5 : decode cX7_isIn 5 = .ok (.iload_n 0, 1) := by decide +kernel
theorem dX7_isIn_6 : decode cX7_isIn 6 = .ok (.iload_n 2, 1) := by decide +kernel
theorem dX7_isIn_7 : decode cX7_isIn 7 = .ok (.if_icmp .gt 7, 3) := by decide +kernel
theorem dX7_isIn_10 : decode cX7_isIn 10 = .ok (.iconst 1, 1) := by decide +kernel
theorem dX7_isIn_11 : decode cX7_isIn 11 = .ok (.goto 4, 3) := by decide +kernel
theorem dX7_isIn_14 : decode cX7_isIn 14 = .ok (.iconst 0, 1) := by decide +kernel
theorem dX7_isIn_15 : decode cX7_isIn 15 = .ok (.ireturn, 1) := by decide +kernel
theorem dX7_adds_0 : decode cX7_adds 0 = .ok (.aload_n 0, 1) := by decide +kernel
theorem dX7_adds_1 : decode cX7_adds 1 = .ok (.getfield 7, 3) := by decide +kernel
theorem dX7_adds_4 : decode cX7_adds 4 = .ok (.aload_n 0, 1) := by decide +kernel
theorem dX7_adds_5 : decode cX7_adds 5 = .ok (.getfield 61, 3) := by decide +kernel
theorem dX7_adds_8 : decode cX7_adds 8 = .ok (.iload_n 1, 1) := by decide +kernel
theorem dX7_adds_9 : decode cX7_adds 9 = .ok (.iastore, 1) := by decide +kernel
theorem dX7_adds_10 : decode cX7_adds 10 = .ok (.aload_n 0, 1) := by decide +kernel
theorem dX7_adds_11 : decode cX7_adds 11 = .ok (.dup, 1) := by decide +kernel
theorem dX7_adds_12 : decode cX7_adds 12 = .ok (.getfield 61, 3) := by decide +kernel
theorem dX7_adds_15 : decode cX7_adds 15 = .ok (.iconst 1, 1) := by decide +kernel
theorem dX7_adds_16 : decode cX7_adds 16 = .ok (.iadd, 1) := by decide +kernel
theorem dX7_adds_17 : decode cX7_adds 17 = .ok (.putfield 61, 3) := by decide +kernel
theorem dX7_adds_20 : decode cX7_adds 20 = .ok (.return_, 1) := by decide +kernel
theorem dX7_append_0 : decode cX7_append 0 = .ok (.iload_n 1, 1) := by decide +kernel
theorem dX7_append_1 : decode cX7_append 1 = .ok (.iconst 0, 1) := by decide +kernel
theorem dX7_append_2 : decode cX7_append 2 = .ok (.sipush 255, 3) := by decide +kernel
theorem dX7_append_5 : decode cX7_append 5 = .ok (.invokestatic 64, 3) := by decide +kernel
theorem dX7_append_8 : decode cX7_append 8 = .ok (.ifCond .eq 28, 3) := by decide +kernel
theorem dX7_append_11 : decode cX7_append 11 = .ok (.iload_n 2, 1) := by decide +kernel
theorem dX7_append_12 : decode cX7_append 12 = .ok (.iconst 0, 1) := by decide +kernel
theorem dX7_append_13 : decode cX7_append 13 = .ok (.sipush 255, 3) := by decide +kernel
theorem dX7_append_16 : decode cX7_append 16 = .ok (.invokestatic 64, 3) := by decide +kernel
theorem dX7_append_19 : decode cX7_append 19 = .ok (.ifCond .eq 17, 3) := by decide +kernel
theorem dX7_append_22 : decode cX7_append 22 = .ok (.iload_n 3, 1) := by decide +kernel
theorem dX7_append_23 : decode cX7_append 23 = .ok (.iconst 1, 1) := by decide +kernel
theorem dX7_append_24 : decode cX7_append 24 = .ok (.bipush 64, 2) := by decide +kernel
theorem dX7_append_26 : decode cX7_append 26 = .ok (.invokestatic 64, 3) := by decide +kernel
theorem dX7_append_29 : decode cX7_append 29 = .ok (.ifCond .eq 7, 3) := by decide +kernel
theorem dX7_append_32 : decode cX7_append 32 = .ok (.iconst 1, 1) := by decide +kernel
theorem dX7_append_33 : decode cX7_append 33 = .ok (.goto 4, 3) := by decide +kernel
theorem dX7_append_36 : decode cX7_append 36 = .ok (.iconst 0, 1) := by decide +kernel
theorem dX7_append_37 : decode cX7_append 37 = .ok (.istore 4, 2) := by decide +kernel
theorem dX7_append_39 : decode cX7_append 39 = .ok (.aload_n 0, 1) := by decide +kernel
theorem dX7_append_40 : decode cX7_append 40 = .ok (.iload 4, 2) := by decide +kernel
theorem dX7_append_42 : decode cX7_append 42 = .ok (.ifCond .ne 7, 3) := by decide +kernel
theorem dX7_append_45 : decode cX7_append 45 = .ok (.iconst 1, 1) := by decide +kernel
theorem dX7_append_46 : decode cX7_append 46 = .ok (.goto 20, 3) := by decide +kernel
theorem dX7_append_49 : decode cX7_append 49 = .ok (.aload_n 0, 1) := by decide +kernel
theorem dX7_append_50 : decode cX7_append 50 = .ok (.getfield 61, 3) := by decide +kernel
theorem dX7_append_53 : decode cX7_append 53 = .ok (.iload_n 3, 1) := by decide +kernel
theorem dX7_append_54 : decode cX7_append 54 = .ok (.iadd, 1) := by decide +kernel
theorem dX7_append_55 : decode cX7_append 55 = .ok (.sipush 240, 3) := by decide +kernel
theorem dX7_append_58 : decode cX7_append 58 = .ok (.if_icmp .le 7, 3) := by decide +kernel
theorem dX7_append_61 : decode cX7_append 61 = .ok (.iconst 2, 1) := by decide +kernel
theorem dX7_append_62 : decode cX7_append 62 = .ok (.goto 4, 3) := by decide +kernel
theorem dX7_append_65 : decode cX7_append 65 = .ok (.iconst 0, 1) := by decide +kernel
theorem dX7_append_66 : decode cX7_append 66 = .ok (.invokevirtual 68, 3) := by decide +kernel
theorem dX7_append_69 : decode cX7_append 69 = .ok (.ifCond .ne 5, 3) := by decide +kernel
theorem dX7_append_72 : decode cX7_append 72 = .ok (.iconst 0, 1) := by decide +kernel
theorem dX7_append_73 : decode cX7_append 73 = .ok (.ireturn, 1) := by decide +kernel
theorem dX7_append_74 : decode cX7_append 74 = .ok (.iconst 0, 1) := by decide +kernel
theorem dX7_append_75 : decode cX7_append 75 = .ok (.istore 5, 2) := by decide +kernel
theorem dX7_append_77 : decode cX7_append 77 = .ok (.iload 5, 2) := by decide +kernel
theorem dX7_append_79 : decode cX7_append 79 = .ok (.iload_n 3, 1) := by decide +kernel
theorem dX7_append_80 : decode cX7_append 80 = .ok (.if_icmp .ge 23, 3) := by decide +kernel
theorem dX7_append_83 : decode cX7_append 83 = .ok (.aload_n 0, 1) := by decide +kernel
theorem dX7_append_84 : decode cX7_append 84 = .ok (.iload_n 1, 1) := by decide +kernel
theorem dX7_append_85 : decode cX7_append 85 = .ok (.iload 5, 2) := by decide +kernel
theorem dX7_append_87 : decode cX7_append 87 = .ok (.iload_n 2, 1) := by decide +kernel
theorem dX7_append_88 : decode cX7_append 88 = .ok (.imul, 1) := by decide +kernel
theorem dX7_append_89 : decode cX7_append 89 = .ok (.iadd, 1) := by decide +kernel
theorem dX7_append_90 : decode cX7_append 90 = .ok (.sipush 256, 3) := by decide +kernel
theorem dX7_append_93 : decode cX7_append 93 = .ok (.irem, 1) := by decide +kernel
theorem dX7_append_94 : decode cX7_append 94 = .ok (.invokevirtual 72, 3) := by decide +kernel
theorem dX7_append_97 : decode cX7_append 97 = .ok (.iinc 5 1, 3) := by decide +kernel
theorem dX7_append_100 : decode cX7_append 100 = .ok (.goto (-23), 3) := by decide +kernel
theorem dX7_append_103 : decode cX7_append 103 = .ok (.aload_n 0, 1) := by decide +kernel
theorem dX7_append_104 : decode cX7_append 104 = .ok (.getfield 61, 3) := by decide +kernel
theorem dX7_append_107 : decode cX7_append 107 = .ok (.ireturn, 1) := by decide +kernel
theorem dX7_appendCopy_0 : decode cX7_appendCopy 0 = .ok (.aload_n 0, 1) := by decide +kernel
theorem dX7_appendCopy_1 : decode cX7_appendCopy 1 = .ok (.iload_n 1, 1) := by decide +kernel
theorem dX7_appendCopy_2 : decode cX7_appendCopy 2 = .ok (.iload_n 2, 1) := by decide +kernel
theorem dX7_appendCopy_3 : decode cX7_appendCopy 3 = .ok (.invokevirtual 76, 3) := by decide +kernel
theorem dX7_appendCopy_6 : decode cX7_appendCopy 6 = .ok (.istore 5, 2) := by decide +kernel
theorem dX7_appendCopy_8 : decode cX7_appendCopy 8 = .ok (.iload 5, 2) := by decide +kernel
theorem dX7_appendCopy_10 : decode cX7_appendCopy 10 = .ok (.iconst (-1), 1) := by decide +kernel
theorem dX7_appendCopy_11 : decode cX7_appendCopy 11 = .ok (.if_icmp .eq 41, 3) := by decide +kernel
theorem dX7_appendCopy_14 : decode cX7_appendCopy 14 = .ok (.iload_n 3, 1) := by decide +kernel
theorem dX7_appendCopy_15 : decode cX7_appendCopy 15 = .ok (.ifCond .lt 37, 3) := by decide +kernel
theorem dX7_appendCopy_18 : decode cX7_appendCopy 18 = .ok (.iload 4, 2) := by decide +kernel
theorem dX7_appendCopy_20 : decode cX7_appendCopy 20 = .ok (.ifCond .lt 32, 3) := by decide +kernel
theorem dX7_appendCopy_23 : decode cX7_appendCopy 23 = .ok (.iload_n 3, 1) := by decide +kernel
theorem dX7_appendCopy_24 : decode cX7_appendCopy 24 = .ok (.aload_n 0, 1) := by decide +kernel
theorem dX7_appendCopy_25 : decode cX7_appendCopy 25 = .ok (.getfield 19, 3) := by decide +kernel
theorem dX7_appendCopy_28 : decode cX7_appendCopy 28 = .ok (.iload 5, 2) := by decide +kernel
theorem dX7_appendCopy_30 : decode cX7_appendCopy 30 = .ok (.iaload, 1) := by decide +kernel
theorem dX7_appendCopy_31 : decode cX7_appendCopy 31 = .ok (.if_icmp .gt 21, 3) := by decide +kernel
theorem dX7_appendCopy_34 : decode cX7_appendCopy 34 = .ok (.iload 4, 2) := by decide +kernel
theorem dX7_appendCopy_36 : decode cX7_appendCopy 36 = .ok (.aload_n 0, 1) := by decide +kernel
theorem dX7_appendCopy_37 : decode cX7_appendCopy 37 = .ok (.getfield 19, 3) := by decide +kernel
theorem dX7_appendCopy_40 : decode cX7_appendCopy 40 = .ok (.iload 5, 2) := by decide +kernel
theorem dX7_appendCopy_42 : decode cX7_appendCopy 42 = .ok (.iaload, 1) := by decide +kernel
theorem dX7_appendCopy_43 : decode cX7_appendCopy 43 = .ok (.iload_n 3, 1) := by decide +kernel
theorem dX7_appendCopy_44 : decode cX7_appendCopy 44 = .ok (.isub, 1) := by decide +kernel
theorem dX7_appendCopy_45 : decode cX7_appendCopy 45 = .ok (.if_icmp .gt 7, 3) := by decide +kernel
theorem dX7_appendCopy_48 : decode cX7_appendCopy 48 = .ok (.iconst 1, 1) := by decide +kernel
theorem dX7_appendCopy_49 : decode cX7_appendCopy 49 = .ok (.goto 4, 3) := by decide +kernel
theorem dX7_appendCopy_52 : decode cX7_appendCopy 52 = .ok (.iconst 0, 1) := by decide +kernel
theorem dX7_appendCopy_53 : decode cX7_appendCopy 53 = .ok (.istore 6, 2) := by decide +kernel
theorem dX7_appendCopy_55 : decode cX7_appendCopy 55 = .ok (.aload_n 0, 1) := by decide +kernel
theorem dX7_appendCopy_56 : decode cX7_appendCopy 56 = .ok (.iload 6, 2) := by decide +kernel
theorem dX7_appendCopy_58 : decode cX7_appendCopy 58 = .ok (.ifCond .ne 7, 3) := by decide +kernel
theorem dX7_appendCopy_61 : decode cX7_appendCopy 61 = .ok (.iconst 1, 1) := by decide +kernel
theorem dX7_appendCopy_62 : decode cX7_appendCopy 62 = .ok (.goto 21, 3) := by decide +kernel
theorem dX7_appendCopy_65 : decode cX7_appendCopy 65 = .ok (.aload_n 0, 1) := by decide +kernel
theorem dX7_appendCopy_66 : decode cX7_appendCopy 66 = .ok (.getfield 61, 3) := by decide +kernel
theorem dX7_appendCopy_69 : decode cX7_appendCopy 69 = .ok (.iload 4, 2) := by decide +kernel
theorem dX7_appendCopy_71 : decode cX7_appendCopy 71 = .ok (.iadd, 1) := by decide +kernel
theorem dX7_appendCopy_72 : decode cX7_appendCopy 72 = .ok (.sipush 240, 3) := by decide +kernel
theorem dX7_appendCopy_75 : decode cX7_appendCopy 75 = .ok (.if_icmp .le 7, 3) := by decide +kernel
theorem dX7_appendCopy_78 : decode cX7_appendCopy 78 = .ok (.iconst 2, 1) := by decide +kernel
theorem dX7_appendCopy_79 : decode cX7_appendCopy 79 = .ok (.goto 4, 3) := by decide +kernel
theorem dX7_appendCopy_82 : decode cX7_appendCopy 82 = .ok (.iconst 0, 1) := by decide +kernel
theorem dX7_appendCopy_83 : decode cX7_appendCopy 83 = .ok (.invokevirtual 68, 3) := by decide +kernel
theorem dX7_appendCopy_86 : decode cX7_appendCopy 86 = .ok (.ifCond .ne 5, 3) := by decide +kernel
theorem dX7_appendCopy_89 : decode cX7_appendCopy 89 = .ok (.iconst 0, 1) := by decide +kernel
theorem dX7_appendCopy_90 : decode cX7_appendCopy 90 = .ok (.ireturn, 1) := by decide +kernel
theorem dX7_appendCopy_91 : decode cX7_appendCopy 91 = .ok (.iconst 0, 1) := by decide +kernel
theorem dX7_appendCopy_92 : decode cX7_appendCopy 92 = .ok (.istore 7, 2) := by decide +kernel
theorem dX7_appendCopy_94 : decode cX7_appendCopy 94 = .ok (.iload 7, 2) := by decide +kernel
theorem dX7_appendCopy_96 : decode cX7_appendCopy 96 = .ok (.iload 4, 2) := by decide +kernel
theorem dX7_appendCopy_98 : decode cX7_appendCopy 98 = .ok (.if_icmp .ge 29, 3) := by decide +kernel
theorem dX7_appendCopy_101 : decode cX7_appendCopy 101 = .ok (.aload_n 0, 1) := by decide +kernel
theorem dX7_appendCopy_102 : decode cX7_appendCopy 102 = .ok (.aload_n 0, 1) := by decide +kernel
theorem dX7_appendCopy_103 : decode cX7_appendCopy 103 = .ok (.getfield 31, 3) := by decide +kernel
theorem dX7_appendCopy_106 : decode cX7_appendCopy 106 = .ok (.sipush 240, 3) := by decide +kernel
theorem dX7_appendCopy_109 : decode cX7_appendCopy 109 = .ok (.iload 5, 2) := by decide +kernel
theorem dX7_appendCopy_111 : decode cX7_appendCopy 111 = .ok (.imul, 1) := by decide +kernel
theorem dX7_appendCopy_112 : decode cX7_appendCopy 112 = .ok (.iload_n 3, 1) := by decide +kernel
theorem dX7_appendCopy_113 : decode cX7_appendCopy 113 = .ok (.iadd, 1) := by decide +kernel
theorem dX7_appendCopy_114 : decode cX7_appendCopy 114 = .ok (.iload 7, 2) := by decide +kernel
theorem dX7_appendCopy_116 : decode cX7_appendCopy 116 = .ok (.iadd, 1) := by decide +kernel
theorem dX7_appendCopy_117 : decode cX7_appendCopy 117 = .ok (.iaload, 1) := by decide +kernel
theorem dX7_appendCopy_118 : decode cX7_appendCopy 118 = .ok (.invokevirtual 72, 3) := by decide +kernel
theorem dX7_appendCopy_121 : decode cX7_appendCopy 121 = .ok (.iinc 7 1, 3) := by decide +kernel
theorem dX7_appendCopy_124 : decode cX7_appendCopy 124 = .ok (.goto (-30), 3) := by decide +kernel
theorem dX7_appendCopy_127 : decode cX7_appendCopy 127 = .ok (.aload_n 0, 1) := by decide +kernel
theorem dX7_appendCopy_128 : decode cX7_appendCopy 128 = .ok (.getfield 61, 3) := by decide +kernel
theorem dX7_appendCopy_131 : decode cX7_appendCopy 131 = .ok (.ireturn, 1) := by decide +kernel
theorem dX7_insert_0 : decode cX7_insert 0 = .ok (.aload_n 0, 1) := by decide +kernel
theorem dX7_insert_1 : decode cX7_insert 1 = .ok (.iload_n 1, 1) := by decide +kernel
theorem dX7_insert_2 : decode cX7_insert 2 = .ok (.iconst 0, 1) := by decide +kernel
theorem dX7_insert_3 : decode cX7_insert 3 = .ok (.aload_n 0, 1) := by decide +kernel
theorem dX7_insert_4 : decode cX7_insert 4 = .ok (.getfield 61, 3) := by decide +kernel
theorem dX7_insert_7 : decode cX7_insert 7 = .ok (.invokestatic 64, 3) := by decide +kernel
theorem dX7_insert_10 : decode cX7_insert 10 = .ok (.ifCond .ne 7, 3) := by decide +kernel
theorem dX7_insert_13 : decode cX7_insert 13 = .ok (.iconst 1, 1) := by decide +kernel
theorem dX7_insert_14 : decode cX7_insert 14 = .ok (.goto 33, 3) := by decide +kernel
theorem dX7_insert_17 : decode cX7_insert 17 = .ok (.iload_n 2, 1) := by decide +kernel
theorem dX7_insert_18 : decode cX7_insert 18 = .ok (.iconst 0, 1) := by decide +kernel
theorem dX7_insert_19 : decode cX7_insert 19 = .ok (.sipush 255, 3) := by decide +kernel
theorem dX7_insert_22 : decode cX7_insert 22 = .ok (.invokestatic 64, 3) := by decide +kernel
theorem dX7_insert_25 : decode cX7_insert 25 = .ok (.ifCond .ne 7, 3) := by decide +kernel
theorem dX7_insert_28 : decode cX7_insert 28 = .ok (.iconst 2, 1) := by decide +kernel
theorem dX7_insert_29 : decode cX7_insert 29 = .ok (.goto 18, 3) := by decide +kernel
theorem dX7_insert_32 : decode cX7_insert 32 = .ok (.aload_n 0, 1) := by decide +kernel
theorem dX7_insert_33 : decode cX7_insert 33 = .ok (.getfield 61, 3) := by decide +kernel
theorem dX7_insert_36 : decode cX7_insert 36 = .ok (.sipush 240, 3) := by decide +kernel
theorem dX7_insert_39 : decode cX7_insert 39 = .ok (.if_icmp .ne 7, 3) := by decide +kernel
theorem dX7_insert_42 : decode cX7_insert 42 = .ok (.iconst 3, 1) := by decide +kernel
theorem dX7_insert_43 : decode cX7_insert 43 = .ok (.goto 4, 3) := by decide +kernel
theorem dX7_insert_46 : decode cX7_insert 46 = .ok (.iconst 0, 1) := by decide +kernel
theorem dX7_insert_47 : decode cX7_insert 47 = .ok (.invokevirtual 68, 3) := by decide +kernel
theorem dX7_insert_50 : decode cX7_insert 50 = .ok (.ifCond .ne 5, 3) := by decide +kernel
theorem dX7_insert_53 : decode cX7_insert 53 = .ok (.iconst 0, 1) := by decide +kernel
theorem dX7_insert_54 : decode cX7_insert 54 = .ok (.ireturn, 1) := by decide +kernel
theorem dX7_insert_55 : decode cX7_insert 55 = .ok (.aload_n 0, 1) := by decide +kernel
theorem dX7_insert_56 : decode cX7_insert 56 = .ok (.getfield 61, 3) := by decide +kernel
theorem dX7_insert_59 : decode cX7_insert 59 = .ok (.istore_n 3, 1) := by decide +kernel
theorem dX7_insert_60 : decode cX7_insert 60 = .ok (.iload_n 3, 1) := by decide +kernel
theorem dX7_insert_61 : decode cX7_insert 61 = .ok (.iload_n 1, 1) := by decide +kernel
theorem dX7_insert_62 : decode cX7_insert 62 = .ok (.if_icmp .le 23, 3) := by decide +kernel
theorem dX7_insert_65 : decode cX7_insert 65 = .ok (.aload_n 0, 1) := by decide +kernel
theorem dX7_insert_66 : decode cX7_insert 66 = .ok (.getfield 7, 3) := by decide +kernel
theorem dX7_insert_69 : decode cX7_insert 69 = .ok (.iload_n 3, 1) := by decide +kernel
theorem dX7_insert_70 : decode cX7_insert 70 = .ok (.aload_n 0, 1) := by decide +kernel
theorem dX7_insert_71 : decode cX7_insert 71 = .ok (.getfield 7, 3) := by decide +kernel
theorem dX7_insert_74 : decode cX7_insert 74 = .ok (.iload_n 3, 1) := by decide +kernel
theorem dX7_insert_75 : decode cX7_insert 75 = .ok (.iconst 1, 1) := by decide +kernel
theorem dX7_insert_76 : decode cX7_insert 76 = .ok (.isub, 1) := by decide +kernel
theorem dX7_insert_77 : decode cX7_insert 77 = .ok (.iaload, 1) := by decide +kernel
theorem dX7_insert_78 : decode cX7_insert 78 = .ok (.iastore, 1) := by decide +kernel
theorem dX7_insert_79 : decode cX7_insert 79 = .ok (.iinc 3 (-1), 3) := by decide +kernel
theorem dX7_insert_82 : decode cX7_insert 82 = .ok (.goto (-22), 3) := by decide +kernel
theorem dX7_insert_85 : decode cX7_insert 85 = .ok (.aload_n 0, 1) := by decide +kernel
theorem dX7_insert_86 : decode cX7_insert 86 = .ok (.getfield 7, 3) := by decide +kernel
theorem dX7_insert_89 : decode cX7_insert 89 = .ok (.iload_n 1, 1) := by decide +kernel
theorem dX7_insert_90 : decode cX7_insert 90 = .ok (.iload_n 2, 1) := by decide +kernel
theorem dX7_insert_91 : decode cX7_insert 91 = .ok (.iastore, 1) := by decide +kernel
theorem dX7_insert_92 : decode cX7_insert 92 = .ok (.aload_n 0, 1) := by decide +kernel
theorem dX7_insert_93 : decode cX7_insert 93 = .ok (.dup, 1) := by decide +kernel
theorem dX7_insert_94 : decode cX7_insert 94 = .ok (.getfield 61, 3) := by decide +kernel
theorem dX7_insert_97 : decode cX7_insert 97 = .ok (.iconst 1, 1) := by decide +kernel
theorem dX7_insert_98 : decode cX7_insert 98 = .ok (.iadd, 1) := by decide +kernel
theorem dX7_insert_99 : decode cX7_insert 99 = .ok (.putfield 61, 3) := by decide +kernel
theorem dX7_insert_102 : decode cX7_insert 102 = .ok (.aload_n 0, 1) := by decide +kernel
theorem dX7_insert_103 : decode cX7_insert 103 = .ok (.getfield 61, 3) := by decide +kernel
theorem dX7_insert_106 : decode cX7_insert 106 = .ok (.ireturn, 1) := by decide +kernel
theorem dX7_cut_0 : decode cX7_cut 0 = .ok (.aload_n 0, 1) := by decide +kernel
theorem dX7_cut_1 : decode cX7_cut 1 = .ok (.iload_n 1, 1) := by decide +kernel
theorem dX7_cut_2 : decode cX7_cut 2 = .ok (.ifCond .lt 25, 3) := by decide +kernel
theorem dX7_cut_5 : decode cX7_cut 5 = .ok (.iload_n 2, 1) := by decide +kernel
theorem dX7_cut_6 : decode cX7_cut 6 = .ok (.ifCond .lt 21, 3) := by decide +kernel
theorem dX7_cut_9 : decode cX7_cut 9 = .ok (.iload_n 1, 1) := by decide +kernel
theorem dX7_cut_10 : decode cX7_cut 10 = .ok (.aload_n 0, 1) := by decide +kernel
theorem dX7_cut_11 : decode cX7_cut 11 = .ok (.getfield 61, 3) := by decide +kernel
theorem dX7_cut_14 : decode cX7_cut 14 = .ok (.if_icmp .gt 13, 3) := by decide +kernel
theorem dX7_cut_17 : decode cX7_cut 17 = .ok (.iload_n 2, 1) := by decide +kernel
theorem dX7_cut_18 : decode cX7_cut 18 = .ok (.aload_n 0, 1) := by decide +kernel
theorem dX7_cut_19 : decode cX7_cut 19 = .ok (.getfield 61, 3) := by decide +kernel
theorem dX7_cut_22 : decode cX7_cut 22 = .ok (.iload_n 1, 1) := by decide +kernel
theorem dX7_cut_23 : decode cX7_cut 23 = .ok (.isub, 1) := by decide +kernel
theorem dX7_cut_24 : decode cX7_cut 24 = .ok (.if_icmp .le 7, 3) := by decide +kernel
theorem dX7_cut_27 : decode cX7_cut 27 = .ok (.iconst 1, 1) := by decide +kernel
theorem dX7_cut_28 : decode cX7_cut 28 = .ok (.goto 4, 3) := by decide +kernel
theorem dX7_cut_31 : decode cX7_cut 31 = .ok (.iconst 0, 1) := by decide +kernel
theorem dX7_cut_32 : decode cX7_cut 32 = .ok (.invokevirtual 68, 3) := by decide +kernel
theorem dX7_cut_35 : decode cX7_cut 35 = .ok (.ifCond .ne 5, 3) := by decide +kernel
theorem dX7_cut_38 : decode cX7_cut 38 = .ok (.iconst 0, 1) := by decide +kernel
theorem dX7_cut_39 : decode cX7_cut 39 = .ok (.ireturn, 1) := by decide +kernel
theorem dX7_cut_40 : decode cX7_cut 40 = .ok (.aload_n 0, 1) := by decide +kernel
theorem dX7_cut_41 : decode cX7_cut 41 = .ok (.dup, 1) := by decide +kernel
theorem dX7_cut_42 : decode cX7_cut 42 = .ok (.getfield 61, 3) := by decide +kernel
theorem dX7_cut_45 : decode cX7_cut 45 = .ok (.iload_n 2, 1) := by decide +kernel
theorem dX7_cut_46 : decode cX7_cut 46 = .ok (.isub, 1) := by decide +kernel
theorem dX7_cut_47 : decode cX7_cut 47 = .ok (.putfield 61, 3) := by decide +kernel
theorem dX7_cut_50 : decode cX7_cut 50 = .ok (.iload_n 1, 1) := by decide +kernel
theorem dX7_cut_51 : decode cX7_cut 51 = .ok (.istore_n 3, 1) := by decide +kernel
theorem dX7_cut_52 : decode cX7_cut 52 = .ok (.iload_n 3, 1) := by decide +kernel
theorem dX7_cut_53 : decode cX7_cut 53 = .ok (.aload_n 0, 1) := by decide +kernel
theorem dX7_cut_54 : decode cX7_cut 54 = .ok (.getfield 61, 3) := by decide +kernel
theorem dX7_cut_57 : decode cX7_cut 57 = .ok (.if_icmp .ge 23, 3) := by decide +kernel
theorem dX7_cut_60 : decode cX7_cut 60 = .ok (.aload_n 0, 1) := by decide +kernel
theorem dX7_cut_61 : decode cX7_cut 61 = .ok (.getfield 7, 3) := by decide +kernel
theorem dX7_cut_64 : decode cX7_cut 64 = .ok (.iload_n 3, 1) := by decide +kernel
theorem dX7_cut_65 : decode cX7_cut 65 = .ok (.aload_n 0, 1) := by decide +kernel
theorem dX7_cut_66 : decode cX7_cut 66 = .ok (.getfield 7, 3) := by decide +kernel
theorem dX7_cut_69 : decode cX7_cut 69 = .ok (.iload_n 3, 1) := by decide +kernel
theorem dX7_cut_70 : decode cX7_cut 70 = .ok (.iload_n 2, 1) := by decide +kernel
theorem dX7_cut_71 : decode cX7_cut 71 = .ok (.iadd, 1) := by decide +kernel
theorem dX7_cut_72 : decode cX7_cut 72 = .ok (.iaload, 1) := by decide +kernel
theorem dX7_cut_73 : decode cX7_cut 73 = .ok (.iastore, 1) := by decide +kernel
theorem dX7_cut_74 : decode cX7_cut 74 = .ok (.iinc 3 1, 3) := by decide +kernel
theorem dX7_cut_77 : decode cX7_cut 77 = .ok (.goto (-25), 3) := by decide +kernel
theorem dX7_cut_80 : decode cX7_cut 80 = .ok (.aload_n 0, 1) := by decide +kernel
theorem dX7_cut_81 : decode cX7_cut 81 = .ok (.getfield 61, 3) := by decide +kernel
theorem dX7_cut_84 : decode cX7_cut 84 = .ok (.ireturn, 1) := by decide +kernel
theorem dX7_clearDraft_0 : decode cX7_clearDraft 0 = .ok (.aload_n 0, 1) := by decide +kernel
theorem dX7_clearDraft_1 : decode cX7_clearDraft 1 = .ok (.iconst 0, 1) := by decide +kernel
theorem dX7_clearDraft_2 : decode cX7_clearDraft 2 = .ok (.putfield 57, 3) := by decide +kernel
theorem dX7_clearDraft_5 : decode cX7_clearDraft 5 = .ok (.aload_n 0, 1) := by decide +kernel
theorem dX7_clearDraft_6 : decode cX7_clearDraft 6 = .ok (.getfield 61, 3) := by decide +kernel
theorem dX7_clearDraft_9 : decode cX7_clearDraft 9 = .ok (.istore_n 1, 1) := by decide +kernel
theorem dX7_clearDraft_10 : decode cX7_clearDraft 10 = .ok (.aload_n 0, 1) := by decide +kernel
theorem dX7_clearDraft_11 : decode cX7_clearDraft 11 = .ok (.iconst 0, 1) := by decide +kernel
theorem dX7_clearDraft_12 : decode cX7_clearDraft 12 = .ok (.putfield 61, 3) := by decide +kernel
theorem dX7_clearDraft_15 : decode cX7_clearDraft 15 = .ok (.iload_n 1, 1) := by decide +kernel
theorem dX7_clearDraft_16 : decode cX7_clearDraft 16 = .ok (.ireturn, 1) := by decide +kernel
theorem dX7_draftLength_0 : decode cX7_draftLength 0 = .ok (.aload_n 0, 1) := by decide +kernel
theorem dX7_draftLength_1 : decode cX7_draftLength 1 = .ok (.iconst 0, 1) := by decide +kernel
theorem dX7_draftLength_2 : decode cX7_draftLength 2 = .ok (.putfield 57, 3) := by decide +kernel
theorem dX7_draftLength_5 : decode cX7_draftLength 5 = .ok (.aload_n 0, 1) := by decide +kernel
theorem dX7_draftLength_6 : decode cX7_draftLength 6 = .ok (.getfield 61, 3) := by decide +kernel
theorem dX7_draftLength_9 : decode cX7_draftLength 9 = .ok (.ireturn, 1) := by decide +kernel
theorem dX7_draftAt_0 : decode cX7_draftAt 0 = .ok (.aload_n 0, 1) := by decide +kernel
theorem dX7_draftAt_1 : decode cX7_draftAt 1 = .ok (.iload_n 1, 1) := by decide +kernel
theorem dX7_draftAt_2 : decode cX7_draftAt 2 = .ok (.iconst 0, 1) := by decide +kernel
theorem dX7_draftAt_3 : decode cX7_draftAt 3 = .ok (.aload_n 0, 1) := by decide +kernel
theorem dX7_draftAt_4 : decode cX7_draftAt 4 = .ok (.getfield 61, 3) := by decide +kernel
theorem dX7_draftAt_7 : decode cX7_draftAt 7 = .ok (.iconst 1, 1) := by decide +kernel
theorem dX7_draftAt_8 : decode cX7_draftAt 8 = .ok (.isub, 1) := by decide +kernel
theorem dX7_draftAt_9 : decode cX7_draftAt 9 = .ok (.invokestatic 64, 3) := by decide +kernel
theorem dX7_draftAt_12 : decode cX7_draftAt 12 = .ok (.ifCond .eq 7, 3) := by decide +kernel
theorem dX7_draftAt_15 : decode cX7_draftAt 15 = .ok (.iconst 0, 1) := by decide +kernel
theorem dX7_draftAt_16 : decode cX7_draftAt 16 = .ok (.goto 4, 3) := by decide +kernel
theorem dX7_draftAt_19 : decode cX7_draftAt 19 = .ok (.iconst 1, 1) := by decide +kernel
theorem dX7_draftAt_20 : decode cX7_draftAt 20 = .ok (.invokevirtual 68, 3) := by decide +kernel
theorem dX7_draftAt_23 : decode cX7_draftAt 23 = .ok (.ifCond .eq 12, 3) := by decide +kernel
theorem dX7_draftAt_26 : decode cX7_draftAt 26 = .ok (.aload_n 0, 1) := by decide +kernel
theorem dX7_draftAt_27 : decode cX7_draftAt 27 = .ok (.getfield 7, 3) := by decide +kernel
theorem dX7_draftAt_30 : decode cX7_draftAt 30 = .ok (.iload_n 1, 1) := by decide +kernel
theorem dX7_draftAt_31 : decode cX7_draftAt 31 = .ok (.iaload, 1) := by decide +kernel
theorem dX7_draftAt_32 : decode cX7_draftAt 32 = .ok (.goto 4, 3) := by decide +kernel
theorem dX7_draftAt_35 : decode cX7_draftAt 35 = .ok (.iconst 0, 1) := by decide +kernel
theorem dX7_draftAt_36 : decode cX7_draftAt 36 = .ok (.ireturn, 1) := by decide +kernel
theorem dX7_end_0 : decode cX7_end 0 = .ok (.iconst 0, 1) := by decide +kernel
theorem dX7_end_1 : decode cX7_end 1 = .ok (.istore_n 2, 1) := by decide +kernel
theorem dX7_end_2 : decode cX7_end 2 = .ok (.iload_n 1, 1) := by decide +kernel
theorem dX7_end_3 : decode cX7_end 3 = .ok (.istore_n 3, 1) := by decide +kernel
theorem dX7_end_4 : decode cX7_end 4 = .ok (.iconst 0, 1) := by decide +kernel
theorem dX7_end_5 : decode cX7_end 5 = .ok (.istore 4, 2) := by decide +kernel
theorem dX7_end_7 : decode cX7_end 7 = .ok (.iload_n 3, 1) := by decide +kernel
theorem dX7_end_8 : decode cX7_end 8 = .ok (.aload_n 0, 1) := by decide +kernel
theorem dX7_end_9 : decode cX7_end 9 = .ok (.getfield 61, 3) := by decide +kernel
theorem dX7_end_12 : decode cX7_end 12 = .ok (.if_icmp .ge 75, 3) := by decide +kernel
theorem dX7_end_15 : decode cX7_end 15 = .ok (.iload 4, 2) := by decide +kernel
theorem dX7_end_17 : decode cX7_end 17 = .ok (.ifCond .ne 70, 3) := by decide +kernel
theorem dX7_end_20 : decode cX7_end 20 = .ok (.iload_n 2, 1) := by decide +kernel
theorem dX7_end_21 : decode cX7_end 21 = .ok (.aload_n 0, 1) := by decide +kernel
theorem dX7_end_22 : decode cX7_end 22 = .ok (.getfield 7, 3) := by decide +kernel
theorem dX7_end_25 : decode cX7_end 25 = .ok (.iload_n 3, 1) := by decide +kernel
theorem dX7_end_26 : decode cX7_end 26 = .ok (.iaload, 1) := by decide +kernel
theorem dX7_end_27 : decode cX7_end 27 = .ok (.iload_n 3, 1) := by decide +kernel
theorem dX7_end_28 : decode cX7_end 28 = .ok (.iload_n 1, 1) := by decide +kernel
theorem dX7_end_29 : decode cX7_end 29 = .ok (.isub, 1) := by decide +kernel
theorem dX7_end_30 : decode cX7_end 30 = .ok (.bipush 8, 2) := by decide +kernel
theorem dX7_end_32 : decode cX7_end 32 = .ok (.if_icmp .lt 15, 3) := by decide +kernel
theorem dX7_end_35 : decode cX7_end 35 = .ok (.aload_n 0, 1) := by decide +kernel
theorem dX7_end_36 : decode cX7_end 36 = .ok (.getfield 7, 3) := by decide +kernel
theorem dX7_end_39 : decode cX7_end 39 = .ok (.iload_n 3, 1) := by decide +kernel
theorem dX7_end_40 : decode cX7_end 40 = .ok (.bipush 8, 2) := by decide +kernel
theorem dX7_end_42 : decode cX7_end 42 = .ok (.isub, 1) := by decide +kernel
theorem dX7_end_43 : decode cX7_end 43 = .ok (.iaload, 1) := by decide +kernel
theorem dX7_end_44 : decode cX7_end 44 = .ok (.goto 4, 3) := by decide +kernel
theorem dX7_end_47 : decode cX7_end 47 = .ok (.iconst 0, 1) := by decide +kernel
theorem dX7_end_48 : decode cX7_end 48 = .ok (.isub, 1) := by decide +kernel
theorem dX7_end_49 : decode cX7_end 49 = .ok (.iadd, 1) := by decide +kernel
theorem dX7_end_50 : decode cX7_end 50 = .ok (.istore_n 2, 1) := by decide +kernel
theorem dX7_end_51 : decode cX7_end 51 = .ok (.iinc 3 1, 3) := by decide +kernel
theorem dX7_end_54 : decode cX7_end 54 = .ok (.iload_n 3, 1) := by decide +kernel
theorem dX7_end_55 : decode cX7_end 55 = .ok (.iload_n 1, 1) := by decide +kernel
theorem dX7_end_56 : decode cX7_end 56 = .ok (.isub, 1) := by decide +kernel
theorem dX7_end_57 : decode cX7_end 57 = .ok (.bipush 8, 2) := by decide +kernel
theorem dX7_end_59 : decode cX7_end 59 = .ok (.if_icmp .lt 10, 3) := by decide +kernel
theorem dX7_end_62 : decode cX7_end 62 = .ok (.iload_n 2, 1) := by decide +kernel
theorem dX7_end_63 : decode cX7_end 63 = .ok (.bipush 16, 2) := by decide +kernel
theorem dX7_end_65 : decode cX7_end 65 = .ok (.irem, 1) := by decide +kernel
theorem dX7_end_66 : decode cX7_end 66 = .ok (.ifCond .eq 11, 3) := by decide +kernel
theorem dX7_end_69 : decode cX7_end 69 = .ok (.iload_n 3, 1) := by decide +kernel
theorem dX7_end_70 : decode cX7_end 70 = .ok (.iload_n 1, 1) := by decide +kernel
theorem dX7_end_71 : decode cX7_end 71 = .ok (.isub, 1) := by decide +kernel
theorem dX7_end_72 : decode cX7_end 72 = .ok (.bipush 32, 2) := by decide +kernel
theorem dX7_end_74 : decode cX7_end 74 = .ok (.if_icmp .ne 7, 3) := by decide +kernel
theorem dX7_end_77 : decode cX7_end 77 = .ok (.iconst 1, 1) := by decide +kernel
theorem dX7_end_78 : decode cX7_end 78 = .ok (.goto 4, 3) := by decide +kernel
theorem dX7_end_81 : decode cX7_end 81 = .ok (.iconst 0, 1) := by decide +kernel
theorem dX7_end_82 : decode cX7_end 82 = .ok (.istore 4, 2) := by decide +kernel
theorem dX7_end_84 : decode cX7_end 84 = .ok (.goto (-77), 3) := by decide +kernel
theorem dX7_end_87 : decode cX7_end 87 = .ok (.iload_n 3, 1) := by decide +kernel
theorem dX7_end_88 : decode cX7_end 88 = .ok (.ireturn, 1) := by decide +kernel
theorem dX7_find_0 : decode cX7_find 0 = .ok (.iconst (-1), 1) := by decide +kernel
theorem dX7_find_1 : decode cX7_find 1 = .ok (.istore_n 3, 1) := by decide +kernel
theorem dX7_find_2 : decode cX7_find 2 = .ok (.iconst 0, 1) := by decide +kernel
theorem dX7_find_3 : decode cX7_find 3 = .ok (.istore 4, 2) := by decide +kernel
theorem dX7_find_5 : decode cX7_find 5 = .ok (.iload 4, 2) := by decide +kernel
theorem dX7_find_7 : decode cX7_find 7 = .ok (.aload_n 0, 1) := by decide +kernel
theorem dX7_find_8 : decode cX7_find 8 = .ok (.getfield 80, 3) := by decide +kernel
theorem dX7_find_11 : decode cX7_find 11 = .ok (.if_icmp .ge 110, 3) := by decide +kernel
theorem dX7_find_14 : decode cX7_find 14 = .ok (.iload_n 3, 1) := by decide +kernel
theorem dX7_find_15 : decode cX7_find 15 = .ok (.iconst (-1), 1) := by decide +kernel
theorem dX7_find_16 : decode cX7_find 16 = .ok (.if_icmp .ne 105, 3) := by decide +kernel
theorem dX7_find_19 : decode cX7_find 19 = .ok (.aload_n 0, 1) := by decide +kernel
theorem dX7_find_20 : decode cX7_find 20 = .ok (.getfield 43, 3) := by decide +kernel
theorem dX7_find_23 : decode cX7_find 23 = .ok (.iload 4, 2) := by decide +kernel
theorem dX7_find_25 : decode cX7_find 25 = .ok (.iaload, 1) := by decide +kernel
theorem dX7_find_26 : decode cX7_find 26 = .ok (.iload_n 2, 1) := by decide +kernel
theorem dX7_find_27 : decode cX7_find 27 = .ok (.iload_n 1, 1) := by decide +kernel
theorem dX7_find_28 : decode cX7_find 28 = .ok (.isub, 1) := by decide +kernel
theorem dX7_find_29 : decode cX7_find 29 = .ok (.if_icmp .ne 7, 3) := by decide +kernel
theorem dX7_find_32 : decode cX7_find 32 = .ok (.iconst 1, 1) := by decide +kernel
theorem dX7_find_33 : decode cX7_find 33 = .ok (.goto 4, 3) := by decide +kernel
theorem dX7_find_36 : decode cX7_find 36 = .ok (.iconst 0, 1) := by decide +kernel
theorem dX7_find_37 : decode cX7_find 37 = .ok (.istore 5, 2) := by decide +kernel
theorem dX7_find_39 : decode cX7_find 39 = .ok (.iconst 0, 1) := by decide +kernel
theorem dX7_find_40 : decode cX7_find 40 = .ok (.istore 6, 2) := by decide +kernel
theorem dX7_find_42 : decode cX7_find 42 = .ok (.iload 6, 2) := by decide +kernel
theorem dX7_find_44 : decode cX7_find 44 = .ok (.aload_n 0, 1) := by decide +kernel
theorem dX7_find_45 : decode cX7_find 45 = .ok (.getfield 43, 3) := by decide +kernel
theorem dX7_find_48 : decode cX7_find 48 = .ok (.iload 4, 2) := by decide +kernel
theorem dX7_find_50 : decode cX7_find 50 = .ok (.iaload, 1) := by decide +kernel
theorem dX7_find_51 : decode cX7_find 51 = .ok (.if_icmp .ge 52, 3) := by decide +kernel
theorem dX7_find_54 : decode cX7_find 54 = .ok (.iload 5, 2) := by decide +kernel
theorem dX7_find_56 : decode cX7_find 56 = .ok (.ifCond .eq 47, 3) := by decide +kernel
theorem dX7_find_59 : decode cX7_find 59 = .ok (.aload_n 0, 1) := by decide +kernel
theorem dX7_find_60 : decode cX7_find 60 = .ok (.getfield 50, 3) := by decide +kernel
theorem dX7_find_63 : decode cX7_find 63 = .ok (.aload_n 0, 1) := by decide +kernel
theorem dX7_find_64 : decode cX7_find 64 = .ok (.getfield 40, 3) := by decide +kernel
theorem dX7_find_67 : decode cX7_find 67 = .ok (.iload 4, 2) := by decide +kernel
theorem dX7_find_69 : decode cX7_find 69 = .ok (.iaload, 1) := by decide +kernel
theorem dX7_find_70 : decode cX7_find 70 = .ok (.iload 6, 2) := by decide +kernel
theorem dX7_find_72 : decode cX7_find 72 = .ok (.iadd, 1) := by decide +kernel
theorem dX7_find_73 : decode cX7_find 73 = .ok (.baload, 1) := by decide +kernel
theorem dX7_find_74 : decode cX7_find 74 = .ok (.sipush 255, 3) := by decide +kernel
theorem dX7_find_77 : decode cX7_find 77 = .ok (.iand, 1) := by decide +kernel
theorem dX7_find_78 : decode cX7_find 78 = .ok (.aload_n 0, 1) := by decide +kernel
theorem dX7_find_79 : decode cX7_find 79 = .ok (.getfield 7, 3) := by decide +kernel
theorem dX7_find_82 : decode cX7_find 82 = .ok (.iload_n 1, 1) := by decide +kernel
theorem dX7_find_83 : decode cX7_find 83 = .ok (.iload 6, 2) := by decide +kernel
theorem dX7_find_85 : decode cX7_find 85 = .ok (.iadd, 1) := by decide +kernel
theorem dX7_find_86 : decode cX7_find 86 = .ok (.iaload, 1) := by decide +kernel
theorem dX7_find_87 : decode cX7_find 87 = .ok (.if_icmp .ne 7, 3) := by decide +kernel
theorem dX7_find_90 : decode cX7_find 90 = .ok (.iconst 1, 1) := by decide +kernel
theorem dX7_find_91 : decode cX7_find 91 = .ok (.goto 4, 3) := by decide +kernel
theorem dX7_find_94 : decode cX7_find 94 = .ok (.iconst 0, 1) := by decide +kernel
theorem dX7_find_95 : decode cX7_find 95 = .ok (.istore 5, 2) := by decide +kernel
theorem dX7_find_97 : decode cX7_find 97 = .ok (.iinc 6 1, 3) := by decide +kernel
theorem dX7_find_100 : decode cX7_find 100 = .ok (.goto (-58), 3) := by decide +kernel
theorem dX7_find_103 : decode cX7_find 103 = .ok (.iload 5, 2) := by decide +kernel
theorem dX7_find_105 : decode cX7_find 105 = .ok (.ifCond .eq 8, 3) := by decide +kernel
theorem dX7_find_108 : decode cX7_find 108 = .ok (.iload 4, 2) := by decide +kernel
theorem dX7_find_110 : decode cX7_find 110 = .ok (.goto 4, 3) := by decide +kernel
theorem dX7_find_113 : decode cX7_find 113 = .ok (.iload_n 3, 1) := by decide +kernel
theorem dX7_find_114 : decode cX7_find 114 = .ok (.istore_n 3, 1) := by decide +kernel
theorem dX7_find_115 : decode cX7_find 115 = .ok (.iinc 4 1, 3) := by decide +kernel
theorem dX7_find_118 : decode cX7_find 118 = .ok (.goto (-113), 3) := by decide +kernel
theorem dX7_find_121 : decode cX7_find 121 = .ok (.iload_n 3, 1) := by decide +kernel
theorem dX7_find_122 : decode cX7_find 122 = .ok (.ireturn, 1) := by decide +kernel
theorem dX7_row_0 : decode cX7_row 0 = .ok (.iconst (-1), 1) := by decide +kernel
theorem dX7_row_1 : decode cX7_row 1 = .ok (.istore_n 2, 1) := by decide +kernel
theorem dX7_row_2 : decode cX7_row 2 = .ok (.iconst 0, 1) := by decide +kernel
theorem dX7_row_3 : decode cX7_row 3 = .ok (.istore_n 3, 1) := by decide +kernel
theorem dX7_row_4 : decode cX7_row 4 = .ok (.iload_n 3, 1) := by decide +kernel
theorem dX7_row_5 : decode cX7_row 5 = .ok (.aload_n 0, 1) := by decide +kernel
theorem dX7_row_6 : decode cX7_row 6 = .ok (.getfield 80, 3) := by decide +kernel
theorem dX7_row_9 : decode cX7_row 9 = .ok (.if_icmp .ge 25, 3) := by decide +kernel
theorem dX7_row_12 : decode cX7_row 12 = .ok (.aload_n 0, 1) := by decide +kernel
theorem dX7_row_13 : decode cX7_row 13 = .ok (.getfield 37, 3) := by decide +kernel
theorem dX7_row_16 : decode cX7_row 16 = .ok (.iload_n 3, 1) := by decide +kernel
theorem dX7_row_17 : decode cX7_row 17 = .ok (.iaload, 1) := by decide +kernel
theorem dX7_row_18 : decode cX7_row 18 = .ok (.iload_n 1, 1) := by decide +kernel
theorem dX7_row_19 : decode cX7_row 19 = .ok (.if_icmp .ne 7, 3) := by decide +kernel
theorem dX7_row_22 : decode cX7_row 22 = .ok (.iload_n 3, 1) := by decide +kernel
theorem dX7_row_23 : decode cX7_row 23 = .ok (.goto 4, 3) := by decide +kernel
theorem dX7_row_26 : decode cX7_row 26 = .ok (.iload_n 2, 1) := by decide +kernel
theorem dX7_row_27 : decode cX7_row 27 = .ok (.istore_n 2, 1) := by decide +kernel
theorem dX7_row_28 : decode cX7_row 28 = .ok (.iinc 3 1, 3) := by decide +kernel
theorem dX7_row_31 : decode cX7_row 31 = .ok (.goto (-27), 3) := by decide +kernel
theorem dX7_row_34 : decode cX7_row 34 = .ok (.iload_n 2, 1) := by decide +kernel
theorem dX7_row_35 : decode cX7_row 35 = .ok (.ireturn, 1) := by decide +kernel
theorem dX7_bytesIn_0 : decode cX7_bytesIn 0 = .ok (.iconst 0, 1) := by decide +kernel
theorem dX7_bytesIn_1 : decode cX7_bytesIn 1 = .ok (.istore_n 2, 1) := by decide +kernel
theorem dX7_bytesIn_2 : decode cX7_bytesIn 2 = .ok (.iconst 0, 1) := by decide +kernel
theorem dX7_bytesIn_3 : decode cX7_bytesIn 3 = .ok (.istore_n 3, 1) := by decide +kernel
theorem dX7_bytesIn_4 : decode cX7_bytesIn 4 = .ok (.iload_n 3, 1) := by decide +kernel
theorem dX7_bytesIn_5 : decode cX7_bytesIn 5 = .ok (.aload_n 0, 1) := by decide +kernel
theorem dX7_bytesIn_6 : decode cX7_bytesIn 6 = .ok (.getfield 80, 3) := by decide +kernel
theorem dX7_bytesIn_9 : decode cX7_bytesIn 9 = .ok (.if_icmp .ge 32, 3) := by decide +kernel
theorem dX7_bytesIn_12 : decode cX7_bytesIn 12 = .ok (.iload_n 2, 1) := by decide +kernel
theorem dX7_bytesIn_13 : decode cX7_bytesIn 13 = .ok (.aload_n 0, 1) := by decide +kernel
theorem dX7_bytesIn_14 : decode cX7_bytesIn 14 = .ok (.getfield 46, 3) := by decide +kernel
theorem dX7_bytesIn_17 : decode cX7_bytesIn 17 = .ok (.iload_n 3, 1) := by decide +kernel
theorem dX7_bytesIn_18 : decode cX7_bytesIn 18 = .ok (.iaload, 1) := by decide +kernel
theorem dX7_bytesIn_19 : decode cX7_bytesIn 19 = .ok (.iload_n 1, 1) := by decide +kernel
theorem dX7_bytesIn_20 : decode cX7_bytesIn 20 = .ok (.if_icmp .ne 12, 3) := by decide +kernel
theorem dX7_bytesIn_23 : decode cX7_bytesIn 23 = .ok (.aload_n 0, 1) := by decide +kernel
theorem dX7_bytesIn_24 : decode cX7_bytesIn 24 = .ok (.getfield 43, 3) := by decide +kernel
theorem dX7_bytesIn_27 : decode cX7_bytesIn 27 = .ok (.iload_n 3, 1) := by decide +kernel
theorem dX7_bytesIn_28 : decode cX7_bytesIn 28 = .ok (.iaload, 1) := by decide +kernel
theorem dX7_bytesIn_29 : decode cX7_bytesIn 29 = .ok (.goto 4, 3) := by decide +kernel
theorem dX7_bytesIn_32 : decode cX7_bytesIn 32 = .ok (.iconst 0, 1) := by decide +kernel
theorem dX7_bytesIn_33 : decode cX7_bytesIn 33 = .ok (.iadd, 1) := by decide +kernel
theorem dX7_bytesIn_34 : decode cX7_bytesIn 34 = .ok (.istore_n 2, 1) := by decide +kernel
theorem dX7_bytesIn_35 : decode cX7_bytesIn 35 = .ok (.iinc 3 1, 3) := by decide +kernel
theorem dX7_bytesIn_38 : decode cX7_bytesIn 38 = .ok (.goto (-34), 3) := by decide +kernel
theorem dX7_bytesIn_41 : decode cX7_bytesIn 41 = .ok (.iload_n 2, 1) := by decide +kernel
theorem dX7_bytesIn_42 : decode cX7_bytesIn 42 = .ok (.ireturn, 1) := by decide +kernel
theorem dX7_putRow_0 : decode cX7_putRow 0 = .ok (.aload_n 0, 1) := by decide +kernel
theorem dX7_putRow_1 : decode cX7_putRow 1 = .ok (.aload_n 0, 1) := by decide +kernel
theorem dX7_putRow_2 : decode cX7_putRow 2 = .ok (.getfield 83, 3) := by decide +kernel
theorem dX7_putRow_5 : decode cX7_putRow 5 = .ok (.invokevirtual 86, 3) := by decide +kernel
theorem dX7_putRow_8 : decode cX7_putRow 8 = .ok (.iload_n 3, 1) := by decide +kernel
theorem dX7_putRow_9 : decode cX7_putRow 9 = .ok (.iadd, 1) := by decide +kernel
theorem dX7_putRow_10 : decode cX7_putRow 10 = .ok (.sipush 128, 3) := by decide +kernel
theorem dX7_putRow_13 : decode cX7_putRow 13 = .ok (.if_icmp .le 13, 3) := by decide +kernel
theorem dX7_putRow_16 : decode cX7_putRow 16 = .ok (.aload_n 0, 1) := by decide +kernel
theorem dX7_putRow_17 : decode cX7_putRow 17 = .ok (.dup, 1) := by decide +kernel
theorem dX7_putRow_18 : decode cX7_putRow 18 = .ok (.getfield 83, 3) := by decide +kernel
theorem dX7_putRow_21 : decode cX7_putRow 21 = .ok (.iconst 1, 1) := by decide +kernel
theorem dX7_putRow_22 : decode cX7_putRow 22 = .ok (.iadd, 1) := by decide +kernel
theorem dX7_putRow_23 : decode cX7_putRow 23 = .ok (.putfield 83, 3) := by decide +kernel
theorem dX7_putRow_26 : decode cX7_putRow 26 = .ok (.aload_n 0, 1) := by decide +kernel
theorem dX7_putRow_27 : decode cX7_putRow 27 = .ok (.getfield 37, 3) := by decide +kernel
theorem dX7_putRow_30 : decode cX7_putRow 30 = .ok (.aload_n 0, 1) := by decide +kernel
theorem dX7_putRow_31 : decode cX7_putRow 31 = .ok (.getfield 80, 3) := by decide +kernel
theorem dX7_putRow_34 : decode cX7_putRow 34 = .ok (.iload_n 1, 1) := by decide +kernel
theorem dX7_putRow_35 : decode cX7_putRow 35 = .ok (.iastore, 1) := by decide +kernel
theorem dX7_putRow_36 : decode cX7_putRow 36 = .ok (.aload_n 0, 1) := by decide +kernel
theorem dX7_putRow_37 : decode cX7_putRow 37 = .ok (.getfield 40, 3) := by decide +kernel
theorem dX7_putRow_40 : decode cX7_putRow 40 = .ok (.aload_n 0, 1) := by decide +kernel
theorem dX7_putRow_41 : decode cX7_putRow 41 = .ok (.getfield 80, 3) := by decide +kernel
theorem dX7_putRow_44 : decode cX7_putRow 44 = .ok (.iload_n 2, 1) := by decide +kernel
theorem dX7_putRow_45 : decode cX7_putRow 45 = .ok (.iastore, 1) := by decide +kernel
theorem dX7_putRow_46 : decode cX7_putRow 46 = .ok (.aload_n 0, 1) := by decide +kernel
theorem dX7_putRow_47 : decode cX7_putRow 47 = .ok (.getfield 43, 3) := by decide +kernel
theorem dX7_putRow_50 : decode cX7_putRow 50 = .ok (.aload_n 0, 1) := by decide +kernel
theorem dX7_putRow_51 : decode cX7_putRow 51 = .ok (.getfield 80, 3) := by decide +kernel
theorem dX7_putRow_54 : decode cX7_putRow 54 = .ok (.iload_n 3, 1) := by decide +kernel
theorem dX7_putRow_55 : decode cX7_putRow 55 = .ok (.iastore, 1) := by decide +kernel
theorem dX7_putRow_56 : decode cX7_putRow 56 = .ok (.aload_n 0, 1) := by decide +kernel
theorem dX7_putRow_57 : decode cX7_putRow 57 = .ok (.getfield 46, 3) := by decide +kernel
theorem dX7_putRow_60 : decode cX7_putRow 60 = .ok (.aload_n 0, 1) := by decide +kernel
theorem dX7_putRow_61 : decode cX7_putRow 61 = .ok (.getfield 80, 3) := by decide +kernel
theorem dX7_putRow_64 : decode cX7_putRow 64 = .ok (.aload_n 0, 1) := by decide +kernel
theorem dX7_putRow_65 : decode cX7_putRow 65 = .ok (.getfield 83, 3) := by decide +kernel
theorem dX7_putRow_68 : decode cX7_putRow 68 = .ok (.iastore, 1) := by decide +kernel
theorem dX7_putRow_69 : decode cX7_putRow 69 = .ok (.aload_n 0, 1) := by decide +kernel
theorem dX7_putRow_70 : decode cX7_putRow 70 = .ok (.dup, 1) := by decide +kernel
theorem dX7_putRow_71 : decode cX7_putRow 71 = .ok (.getfield 80, 3) := by decide +kernel
theorem dX7_putRow_74 : decode cX7_putRow 74 = .ok (.iconst 1, 1) := by decide +kernel
theorem dX7_putRow_75 : decode cX7_putRow 75 = .ok (.iadd, 1) := by decide +kernel
theorem dX7_putRow_76 : decode cX7_putRow 76 = .ok (.putfield 80, 3) := by decide +kernel
theorem dX7_putRow_79 : decode cX7_putRow 79 = .ok (.return_, 1) := by decide +kernel
theorem dX7_dropRow_0 : decode cX7_dropRow 0 = .ok (.aload_n 0, 1) := by decide +kernel
theorem dX7_dropRow_1 : decode cX7_dropRow 1 = .ok (.dup, 1) := by decide +kernel
theorem dX7_dropRow_2 : decode cX7_dropRow 2 = .ok (.getfield 80, 3) := by decide +kernel
theorem dX7_dropRow_5 : decode cX7_dropRow 5 = .ok (.iconst 1, 1) := by decide +kernel
theorem dX7_dropRow_6 : decode cX7_dropRow 6 = .ok (.isub, 1) := by decide +kernel
theorem dX7_dropRow_7 : decode cX7_dropRow 7 = .ok (.putfield 80, 3) := by decide +kernel
theorem dX7_dropRow_10 : decode cX7_dropRow 10 = .ok (.iload_n 1, 1) := by decide +kernel
theorem dX7_dropRow_11 : decode cX7_dropRow 11 = .ok (.istore_n 2, 1) := by decide +kernel
theorem dX7_dropRow_12 : decode cX7_dropRow 12 = .ok (.iload_n 2, 1) := by decide +kernel
theorem dX7_dropRow_13 : decode cX7_dropRow 13 = .ok (.aload_n 0, 1) := by decide +kernel
theorem dX7_dropRow_14 : decode cX7_dropRow 14 = .ok (.getfield 80, 3) := by decide +kernel
theorem dX7_dropRow_17 : decode cX7_dropRow 17 = .ok (.if_icmp .ge 65, 3) := by decide +kernel
theorem dX7_dropRow_20 : decode cX7_dropRow 20 = .ok (.aload_n 0, 1) := by decide +kernel
theorem dX7_dropRow_21 : decode cX7_dropRow 21 = .ok (.getfield 37, 3) := by decide +kernel
theorem dX7_dropRow_24 : decode cX7_dropRow 24 = .ok (.iload_n 2, 1) := by decide +kernel
theorem dX7_dropRow_25 : decode cX7_dropRow 25 = .ok (.aload_n 0, 1) := by decide +kernel
theorem dX7_dropRow_26 : decode cX7_dropRow 26 = .ok (.getfield 37, 3) := by decide +kernel
theorem dX7_dropRow_29 : decode cX7_dropRow 29 = .ok (.iload_n 2, 1) := by decide +kernel
theorem dX7_dropRow_30 : decode cX7_dropRow 30 = .ok (.iconst 1, 1) := by decide +kernel
theorem dX7_dropRow_31 : decode cX7_dropRow 31 = .ok (.iadd, 1) := by decide +kernel
theorem dX7_dropRow_32 : decode cX7_dropRow 32 = .ok (.iaload, 1) := by decide +kernel
theorem dX7_dropRow_33 : decode cX7_dropRow 33 = .ok (.iastore, 1) := by decide +kernel
theorem dX7_dropRow_34 : decode cX7_dropRow 34 = .ok (.aload_n 0, 1) := by decide +kernel
theorem dX7_dropRow_35 : decode cX7_dropRow 35 = .ok (.getfield 40, 3) := by decide +kernel
theorem dX7_dropRow_38 : decode cX7_dropRow 38 = .ok (.iload_n 2, 1) := by decide +kernel
theorem dX7_dropRow_39 : decode cX7_dropRow 39 = .ok (.aload_n 0, 1) := by decide +kernel
theorem dX7_dropRow_40 : decode cX7_dropRow 40 = .ok (.getfield 40, 3) := by decide +kernel
theorem dX7_dropRow_43 : decode cX7_dropRow 43 = .ok (.iload_n 2, 1) := by decide +kernel
theorem dX7_dropRow_44 : decode cX7_dropRow 44 = .ok (.iconst 1, 1) := by decide +kernel
theorem dX7_dropRow_45 : decode cX7_dropRow 45 = .ok (.iadd, 1) := by decide +kernel
theorem dX7_dropRow_46 : decode cX7_dropRow 46 = .ok (.iaload, 1) := by decide +kernel
theorem dX7_dropRow_47 : decode cX7_dropRow 47 = .ok (.iastore, 1) := by decide +kernel
theorem dX7_dropRow_48 : decode cX7_dropRow 48 = .ok (.aload_n 0, 1) := by decide +kernel
theorem dX7_dropRow_49 : decode cX7_dropRow 49 = .ok (.getfield 43, 3) := by decide +kernel
theorem dX7_dropRow_52 : decode cX7_dropRow 52 = .ok (.iload_n 2, 1) := by decide +kernel
theorem dX7_dropRow_53 : decode cX7_dropRow 53 = .ok (.aload_n 0, 1) := by decide +kernel
theorem dX7_dropRow_54 : decode cX7_dropRow 54 = .ok (.getfield 43, 3) := by decide +kernel
theorem dX7_dropRow_57 : decode cX7_dropRow 57 = .ok (.iload_n 2, 1) := by decide +kernel
theorem dX7_dropRow_58 : decode cX7_dropRow 58 = .ok (.iconst 1, 1) := by decide +kernel
theorem dX7_dropRow_59 : decode cX7_dropRow 59 = .ok (.iadd, 1) := by decide +kernel
theorem dX7_dropRow_60 : decode cX7_dropRow 60 = .ok (.iaload, 1) := by decide +kernel
theorem dX7_dropRow_61 : decode cX7_dropRow 61 = .ok (.iastore, 1) := by decide +kernel
theorem dX7_dropRow_62 : decode cX7_dropRow 62 = .ok (.aload_n 0, 1) := by decide +kernel
theorem dX7_dropRow_63 : decode cX7_dropRow 63 = .ok (.getfield 46, 3) := by decide +kernel
theorem dX7_dropRow_66 : decode cX7_dropRow 66 = .ok (.iload_n 2, 1) := by decide +kernel
theorem dX7_dropRow_67 : decode cX7_dropRow 67 = .ok (.aload_n 0, 1) := by decide +kernel
theorem dX7_dropRow_68 : decode cX7_dropRow 68 = .ok (.getfield 46, 3) := by decide +kernel
theorem dX7_dropRow_71 : decode cX7_dropRow 71 = .ok (.iload_n 2, 1) := by decide +kernel
theorem dX7_dropRow_72 : decode cX7_dropRow 72 = .ok (.iconst 1, 1) := by decide +kernel
theorem dX7_dropRow_73 : decode cX7_dropRow 73 = .ok (.iadd, 1) := by decide +kernel
theorem dX7_dropRow_74 : decode cX7_dropRow 74 = .ok (.iaload, 1) := by decide +kernel
theorem dX7_dropRow_75 : decode cX7_dropRow 75 = .ok (.iastore, 1) := by decide +kernel
theorem dX7_dropRow_76 : decode cX7_dropRow 76 = .ok (.iinc 2 1, 3) := by decide +kernel
theorem dX7_dropRow_79 : decode cX7_dropRow 79 = .ok (.goto (-67), 3) := by decide +kernel
theorem dX7_dropRow_82 : decode cX7_dropRow 82 = .ok (.return_, 1) := by decide +kernel
theorem dX7_usesOf_0 : decode cX7_usesOf 0 = .ok (.iconst 0, 1) := by decide +kernel
theorem dX7_usesOf_1 : decode cX7_usesOf 1 = .ok (.istore_n 2, 1) := by decide +kernel
theorem dX7_usesOf_2 : decode cX7_usesOf 2 = .ok (.iconst 0, 1) := by decide +kernel
theorem dX7_usesOf_3 : decode cX7_usesOf 3 = .ok (.istore_n 3, 1) := by decide +kernel
theorem dX7_usesOf_4 : decode cX7_usesOf 4 = .ok (.iload_n 3, 1) := by decide +kernel
theorem dX7_usesOf_5 : decode cX7_usesOf 5 = .ok (.bipush 20, 2) := by decide +kernel
theorem dX7_usesOf_7 : decode cX7_usesOf 7 = .ok (.if_icmp .ge 63, 3) := by decide +kernel
theorem dX7_usesOf_10 : decode cX7_usesOf 10 = .ok (.iconst 0, 1) := by decide +kernel
theorem dX7_usesOf_11 : decode cX7_usesOf 11 = .ok (.istore 4, 2) := by decide +kernel
theorem dX7_usesOf_13 : decode cX7_usesOf 13 = .ok (.iload 4, 2) := by decide +kernel
theorem dX7_usesOf_15 : decode cX7_usesOf 15 = .ok (.aload_n 0, 1) := by decide +kernel
theorem dX7_usesOf_16 : decode cX7_usesOf 16 = .ok (.getfield 25, 3) := by decide +kernel
theorem dX7_usesOf_19 : decode cX7_usesOf 19 = .ok (.iload_n 3, 1) := by decide +kernel
theorem dX7_usesOf_20 : decode cX7_usesOf 20 = .ok (.iaload, 1) := by decide +kernel
theorem dX7_usesOf_21 : decode cX7_usesOf 21 = .ok (.if_icmp .ge 43, 3) := by decide +kernel
theorem dX7_usesOf_24 : decode cX7_usesOf 24 = .ok (.aload_n 0, 1) := by decide +kernel
theorem dX7_usesOf_25 : decode cX7_usesOf 25 = .ok (.getfield 13, 3) := by decide +kernel
theorem dX7_usesOf_28 : decode cX7_usesOf 28 = .ok (.iload_n 3, 1) := by decide +kernel
theorem dX7_usesOf_29 : decode cX7_usesOf 29 = .ok (.iaload, 1) := by decide +kernel
theorem dX7_usesOf_30 : decode cX7_usesOf 30 = .ok (.iconst (-1), 1) := by decide +kernel
theorem dX7_usesOf_31 : decode cX7_usesOf 31 = .ok (.if_icmp .eq 33, 3) := by decide +kernel
theorem dX7_usesOf_34 : decode cX7_usesOf 34 = .ok (.iload_n 2, 1) := by decide +kernel
theorem dX7_usesOf_35 : decode cX7_usesOf 35 = .ok (.aload_n 0, 1) := by decide +kernel
theorem dX7_usesOf_36 : decode cX7_usesOf 36 = .ok (.getfield 28, 3) := by decide +kernel
theorem dX7_usesOf_39 : decode cX7_usesOf 39 = .ok (.bipush 30, 2) := by decide +kernel
theorem dX7_usesOf_41 : decode cX7_usesOf 41 = .ok (.iload_n 3, 1) := by decide +kernel
theorem dX7_usesOf_42 : decode cX7_usesOf 42 = .ok (.imul, 1) := by decide +kernel
theorem dX7_usesOf_43 : decode cX7_usesOf 43 = .ok (.iload 4, 2) := by decide +kernel
theorem dX7_usesOf_45 : decode cX7_usesOf 45 = .ok (.iadd, 1) := by decide +kernel
theorem dX7_usesOf_46 : decode cX7_usesOf 46 = .ok (.iaload, 1) := by decide +kernel
theorem dX7_usesOf_47 : decode cX7_usesOf 47 = .ok (.iload_n 1, 1) := by decide +kernel
theorem dX7_usesOf_48 : decode cX7_usesOf 48 = .ok (.if_icmp .ne 7, 3) := by decide +kernel
theorem dX7_usesOf_51 : decode cX7_usesOf 51 = .ok (.iconst 1, 1) := by decide +kernel
theorem dX7_usesOf_52 : decode cX7_usesOf 52 = .ok (.goto 4, 3) := by decide +kernel
theorem dX7_usesOf_55 : decode cX7_usesOf 55 = .ok (.iconst 0, 1) := by decide +kernel
theorem dX7_usesOf_56 : decode cX7_usesOf 56 = .ok (.iadd, 1) := by decide +kernel
theorem dX7_usesOf_57 : decode cX7_usesOf 57 = .ok (.istore_n 2, 1) := by decide +kernel
theorem dX7_usesOf_58 : decode cX7_usesOf 58 = .ok (.iinc 4 1, 3) := by decide +kernel
theorem dX7_usesOf_61 : decode cX7_usesOf 61 = .ok (.goto (-48), 3) := by decide +kernel
theorem dX7_usesOf_64 : decode cX7_usesOf 64 = .ok (.iinc 3 1, 3) := by decide +kernel
theorem dX7_usesOf_67 : decode cX7_usesOf 67 = .ok (.goto (-63), 3) := by decide +kernel
theorem dX7_usesOf_70 : decode cX7_usesOf 70 = .ok (.iload_n 2, 1) := by decide +kernel
theorem dX7_usesOf_71 : decode cX7_usesOf 71 = .ok (.ireturn, 1) := by decide +kernel
theorem dX7_isCached_0 : decode cX7_isCached 0 = .ok (.aload_n 0, 1) := by decide +kernel
theorem dX7_isCached_1 : decode cX7_isCached 1 = .ok (.getfield 54, 3) := by decide +kernel
theorem dX7_isCached_4 : decode cX7_isCached 4 = .ok (.iconst 0, 1) := by decide +kernel
theorem dX7_isCached_5 : decode cX7_isCached 5 = .ok (.iaload, 1) := by decide +kernel
theorem dX7_isCached_6 : decode cX7_isCached 6 = .ok (.iload_n 1, 1) := by decide +kernel
theorem dX7_isCached_7 : decode cX7_isCached 7 = .ok (.if_icmp .eq 23, 3) := by decide +kernel
theorem dX7_isCached_10 : decode cX7_isCached 10 = .ok (.aload_n 0, 1) := by decide +kernel
theorem dX7_isCached_11 : decode cX7_isCached 11 = .ok (.getfield 54, 3) := by decide +kernel
theorem dX7_isCached_14 : decode cX7_isCached 14 = .ok (.iconst 1, 1) := by decide +kernel
theorem dX7_isCached_15 : decode cX7_isCached 15 = .ok (.iaload, 1) := by decide +kernel
theorem dX7_isCached_16 : decode cX7_isCached 16 = .ok (.iload_n 1, 1) := by decide +kernel
theorem dX7_isCached_17 : decode cX7_isCached 17 = .ok (.if_icmp .eq 13, 3) := by decide +kernel
theorem dX7_isCached_20 : decode cX7_isCached 20 = .ok (.aload_n 0, 1) := by decide +kernel
theorem dX7_isCached_21 : decode cX7_isCached 21 = .ok (.getfield 54, 3) := by decide +kernel
theorem dX7_isCached_24 : decode cX7_isCached 24 = .ok (.iconst 2, 1) := by decide +kernel
theorem dX7_isCached_25 : decode cX7_isCached 25 = .ok (.iaload, 1) := by decide +kernel
theorem dX7_isCached_26 : decode cX7_isCached 26 = .ok (.iload_n 1, 1) := by decide +kernel
theorem dX7_isCached_27 : decode cX7_isCached 27 = .ok (.if_icmp .ne 7, 3) := by decide +kernel
theorem dX7_isCached_30 : decode cX7_isCached 30 = .ok (.iconst 1, 1) := by decide +kernel
theorem dX7_isCached_31 : decode cX7_isCached 31 = .ok (.goto 4, 3) := by decide +kernel
theorem dX7_isCached_34 : decode cX7_isCached 34 = .ok (.iconst 0, 1) := by decide +kernel
theorem dX7_isCached_35 : decode cX7_isCached 35 = .ok (.ireturn, 1) := by decide +kernel
theorem dX7_leaveCache_0 : decode cX7_leaveCache 0 = .ok (.iconst 0, 1) := by decide +kernel
theorem dX7_leaveCache_1 : decode cX7_leaveCache 1 = .ok (.istore_n 2, 1) := by decide +kernel
theorem dX7_leaveCache_2 : decode cX7_leaveCache 2 = .ok (.iconst 0, 1) := by decide +kernel
theorem dX7_leaveCache_3 : decode cX7_leaveCache 3 = .ok (.istore_n 3, 1) := by decide +kernel
theorem dX7_leaveCache_4 : decode cX7_leaveCache 4 = .ok (.iload_n 3, 1) := by decide +kernel
theorem dX7_leaveCache_5 : decode cX7_leaveCache 5 = .ok (.iconst 3, 1) := by decide +kernel
theorem dX7_leaveCache_6 : decode cX7_leaveCache 6 = .ok (.if_icmp .ge 41, 3) := by decide +kernel
theorem dX7_leaveCache_9 : decode cX7_leaveCache 9 = .ok (.aload_n 0, 1) := by decide +kernel
theorem dX7_leaveCache_10 : decode cX7_leaveCache 10 = .ok (.getfield 54, 3) := by decide +kernel
theorem dX7_leaveCache_13 : decode cX7_leaveCache 13 = .ok (.iload_n 3, 1) := by decide +kernel
theorem dX7_leaveCache_14 : decode cX7_leaveCache 14 = .ok (.iaload, 1) := by decide +kernel
theorem dX7_leaveCache_15 : decode cX7_leaveCache 15 = .ok (.istore 4, 2) := by decide +kernel
theorem dX7_leaveCache_17 : decode cX7_leaveCache 17 = .ok (.aload_n 0, 1) := by decide +kernel
theorem dX7_leaveCache_18 : decode cX7_leaveCache 18 = .ok (.getfield 54, 3) := by decide +kernel
theorem dX7_leaveCache_21 : decode cX7_leaveCache 21 = .ok (.iload_n 3, 1) := by decide +kernel
theorem dX7_leaveCache_22 : decode cX7_leaveCache 22 = .ok (.iconst (-1), 1) := by decide +kernel
theorem dX7_leaveCache_23 : decode cX7_leaveCache 23 = .ok (.iastore, 1) := by decide +kernel
theorem dX7_leaveCache_24 : decode cX7_leaveCache 24 = .ok (.iload 4, 2) := by decide +kernel
theorem dX7_leaveCache_26 : decode cX7_leaveCache 26 = .ok (.iload_n 1, 1) := by decide +kernel
theorem dX7_leaveCache_27 : decode cX7_leaveCache 27 = .ok (.if_icmp .eq 14, 3) := by decide +kernel
theorem dX7_leaveCache_30 : decode cX7_leaveCache 30 = .ok (.aload_n 0, 1) := by decide +kernel
theorem dX7_leaveCache_31 : decode cX7_leaveCache 31 = .ok (.getfield 54, 3) := by decide +kernel
theorem dX7_leaveCache_34 : decode cX7_leaveCache 34 = .ok (.iload_n 2, 1) := by decide +kernel
theorem dX7_leaveCache_35 : decode cX7_leaveCache 35 = .ok (.iload 4, 2) := by decide +kernel
theorem dX7_leaveCache_37 : decode cX7_leaveCache 37 = .ok (.iastore, 1) := by decide +kernel
theorem dX7_leaveCache_38 : decode cX7_leaveCache 38 = .ok (.iinc 2 1, 3) := by decide +kernel
theorem dX7_leaveCache_41 : decode cX7_leaveCache 41 = .ok (.iinc 3 1, 3) := by decide +kernel
theorem dX7_leaveCache_44 : decode cX7_leaveCache 44 = .ok (.goto (-40), 3) := by decide +kernel
theorem dX7_leaveCache_47 : decode cX7_leaveCache 47 = .ok (.return_, 1) := by decide +kernel
theorem dX7_use_0 : decode cX7_use 0 = .ok (.aload_n 0, 1) := by decide +kernel
theorem dX7_use_1 : decode cX7_use 1 = .ok (.iload_n 1, 1) := by decide +kernel
theorem dX7_use_2 : decode cX7_use 2 = .ok (.invokevirtual 90, 3) := by decide +kernel
theorem dX7_use_5 : decode cX7_use 5 = .ok (.aload_n 0, 1) := by decide +kernel
theorem dX7_use_6 : decode cX7_use 6 = .ok (.getfield 54, 3) := by decide +kernel
theorem dX7_use_9 : decode cX7_use 9 = .ok (.iconst 2, 1) := by decide +kernel
theorem dX7_use_10 : decode cX7_use 10 = .ok (.aload_n 0, 1) := by decide +kernel
theorem dX7_use_11 : decode cX7_use 11 = .ok (.getfield 54, 3) := by decide +kernel
theorem dX7_use_14 : decode cX7_use 14 = .ok (.iconst 1, 1) := by decide +kernel
theorem dX7_use_15 : decode cX7_use 15 = .ok (.iaload, 1) := by decide +kernel
theorem dX7_use_16 : decode cX7_use 16 = .ok (.iastore, 1) := by decide +kernel
theorem dX7_use_17 : decode cX7_use 17 = .ok (.aload_n 0, 1) := by decide +kernel
theorem dX7_use_18 : decode cX7_use 18 = .ok (.getfield 54, 3) := by decide +kernel
theorem dX7_use_21 : decode cX7_use 21 = .ok (.iconst 1, 1) := by decide +kernel
theorem dX7_use_22 : decode cX7_use 22 = .ok (.aload_n 0, 1) := by decide +kernel
theorem dX7_use_23 : decode cX7_use 23 = .ok (.getfield 54, 3) := by decide +kernel
theorem dX7_use_26 : decode cX7_use 26 = .ok (.iconst 0, 1) := by decide +kernel
theorem dX7_use_27 : decode cX7_use 27 = .ok (.iaload, 1) := by decide +kernel
theorem dX7_use_28 : decode cX7_use 28 = .ok (.iastore, 1) := by decide +kernel
theorem dX7_use_29 : decode cX7_use 29 = .ok (.aload_n 0, 1) := by decide +kernel
theorem dX7_use_30 : decode cX7_use 30 = .ok (.getfield 54, 3) := by decide +kernel
theorem dX7_use_33 : decode cX7_use 33 = .ok (.iconst 0, 1) := by decide +kernel
theorem dX7_use_34 : decode cX7_use 34 = .ok (.iload_n 1, 1) := by decide +kernel
theorem dX7_use_35 : decode cX7_use 35 = .ok (.iastore, 1) := by decide +kernel
theorem dX7_use_36 : decode cX7_use 36 = .ok (.return_, 1) := by decide +kernel
theorem dX7_place_0 : decode cX7_place 0 = .ok (.iconst (-1), 1) := by decide +kernel
theorem dX7_place_1 : decode cX7_place 1 = .ok (.istore_n 3, 1) := by decide +kernel
theorem dX7_place_2 : decode cX7_place 2 = .ok (.iconst 0, 1) := by decide +kernel
theorem dX7_place_3 : decode cX7_place 3 = .ok (.istore 4, 2) := by decide +kernel
theorem dX7_place_5 : decode cX7_place 5 = .ok (.iload 4, 2) := by decide +kernel
theorem dX7_place_7 : decode cX7_place 7 = .ok (.bipush 20, 2) := by decide +kernel
theorem dX7_place_9 : decode cX7_place 9 = .ok (.if_icmp .ge 49, 3) := by decide +kernel
theorem dX7_place_12 : decode cX7_place 12 = .ok (.aload_n 0, 1) := by decide +kernel
theorem dX7_place_13 : decode cX7_place 13 = .ok (.getfield 13, 3) := by decide +kernel
theorem dX7_place_16 : decode cX7_place 16 = .ok (.iload 4, 2) := by decide +kernel
theorem dX7_place_18 : decode cX7_place 18 = .ok (.iaload, 1) := by decide +kernel
theorem dX7_place_19 : decode cX7_place 19 = .ok (.iconst (-1), 1) := by decide +kernel
theorem dX7_place_20 : decode cX7_place 20 = .ok (.if_icmp .eq 30, 3) := by decide +kernel
theorem dX7_place_23 : decode cX7_place 23 = .ok (.aload_n 0, 1) := by decide +kernel
theorem dX7_place_24 : decode cX7_place 24 = .ok (.getfield 13, 3) := by decide +kernel
theorem dX7_place_27 : decode cX7_place 27 = .ok (.iload 4, 2) := by decide +kernel
theorem dX7_place_29 : decode cX7_place 29 = .ok (.iaload, 1) := by decide +kernel
theorem dX7_place_30 : decode cX7_place 30 = .ok (.iload_n 1, 1) := by decide +kernel
theorem dX7_place_31 : decode cX7_place 31 = .ok (.if_icmp .ne 19, 3) := by decide +kernel
theorem dX7_place_34 : decode cX7_place 34 = .ok (.aload_n 0, 1) := by decide +kernel
theorem dX7_place_35 : decode cX7_place 35 = .ok (.getfield 16, 3) := by decide +kernel
theorem dX7_place_38 : decode cX7_place 38 = .ok (.iload 4, 2) := by decide +kernel
theorem dX7_place_40 : decode cX7_place 40 = .ok (.iaload, 1) := by decide +kernel
theorem dX7_place_41 : decode cX7_place 41 = .ok (.iload_n 2, 1) := by decide +kernel
theorem dX7_place_42 : decode cX7_place 42 = .ok (.if_icmp .ne 8, 3) := by decide +kernel
theorem dX7_place_45 : decode cX7_place 45 = .ok (.iload 4, 2) := by decide +kernel
theorem dX7_place_47 : decode cX7_place 47 = .ok (.goto 4, 3) := by decide +kernel
theorem dX7_place_50 : decode cX7_place 50 = .ok (.iload_n 3, 1) := by decide +kernel
theorem dX7_place_51 : decode cX7_place 51 = .ok (.istore_n 3, 1) := by decide +kernel
theorem dX7_place_52 : decode cX7_place 52 = .ok (.iinc 4 1, 3) := by decide +kernel
theorem dX7_place_55 : decode cX7_place 55 = .ok (.goto (-50), 3) := by decide +kernel
theorem dX7_place_58 : decode cX7_place 58 = .ok (.iload_n 3, 1) := by decide +kernel
theorem dX7_place_59 : decode cX7_place 59 = .ok (.ireturn, 1) := by decide +kernel
theorem dX7_keptVersions_0 : decode cX7_keptVersions 0 = .ok (.iconst 0, 1) := by decide +kernel
theorem dX7_keptVersions_1 : decode cX7_keptVersions 1 = .ok (.istore_n 1, 1) := by decide +kernel
theorem dX7_keptVersions_2 : decode cX7_keptVersions 2 = .ok (.iconst 0, 1) := by decide +kernel
theorem dX7_keptVersions_3 : decode cX7_keptVersions 3 = .ok (.istore_n 2, 1) := by decide +kernel
theorem dX7_keptVersions_4 : decode cX7_keptVersions 4 = .ok (.iload_n 2, 1) := by decide +kernel
theorem dX7_keptVersions_5 : decode cX7_keptVersions 5 = .ok (.bipush 20, 2) := by decide +kernel
theorem dX7_keptVersions_7 : decode cX7_keptVersions 7 = .ok (.if_icmp .ge 27, 3) := by decide +kernel
theorem dX7_keptVersions_10 : decode cX7_keptVersions 10 = .ok (.iload_n 1, 1) := by decide +kernel
theorem dX7_keptVersions_11 : decode cX7_keptVersions 11 = .ok (.aload_n 0, 1) := by decide +kernel
theorem dX7_keptVersions_12 : decode cX7_keptVersions 12 = .ok (.getfield 13, 3) := by decide +kernel
theorem dX7_keptVersions_15 : decode cX7_keptVersions 15 = .ok (.iload_n 2, 1) := by decide +kernel
theorem dX7_keptVersions_16 : decode cX7_keptVersions 16 = .ok (.iaload, 1) := by decide +kernel
theorem dX7_keptVersions_17 : decode cX7_keptVersions 17 = .ok (.iconst (-1), 1) := by decide +kernel
theorem dX7_keptVersions_18 : decode cX7_keptVersions 18 = .ok (.if_icmp .ne 7, 3) := by decide +kernel
theorem dX7_keptVersions_21 : decode cX7_keptVersions 21 = .ok (.iconst 0, 1) := by decide +kernel
theorem dX7_keptVersions_22 : decode cX7_keptVersions 22 = .ok (.goto 4, 3) := by decide +kernel
theorem dX7_keptVersions_25 : decode cX7_keptVersions 25 = .ok (.iconst 1, 1) := by decide +kernel
theorem dX7_keptVersions_26 : decode cX7_keptVersions 26 = .ok (.iadd, 1) := by decide +kernel
theorem dX7_keptVersions_27 : decode cX7_keptVersions 27 = .ok (.istore_n 1, 1) := by decide +kernel
theorem dX7_keptVersions_28 : decode cX7_keptVersions 28 = .ok (.iinc 2 1, 3) := by decide +kernel
theorem dX7_keptVersions_31 : decode cX7_keptVersions 31 = .ok (.goto (-27), 3) := by decide +kernel
theorem dX7_keptVersions_34 : decode cX7_keptVersions 34 = .ok (.iload_n 1, 1) := by decide +kernel
theorem dX7_keptVersions_35 : decode cX7_keptVersions 35 = .ok (.ireturn, 1) := by decide +kernel
theorem dX7_latestOf_0 : decode cX7_latestOf 0 = .ok (.iconst (-1), 1) := by decide +kernel
theorem dX7_latestOf_1 : decode cX7_latestOf 1 = .ok (.istore_n 2, 1) := by decide +kernel
theorem dX7_latestOf_2 : decode cX7_latestOf 2 = .ok (.iconst 0, 1) := by decide +kernel
theorem dX7_latestOf_3 : decode cX7_latestOf 3 = .ok (.istore_n 3, 1) := by decide +kernel
theorem dX7_latestOf_4 : decode cX7_latestOf 4 = .ok (.iload_n 3, 1) := by decide +kernel
theorem dX7_latestOf_5 : decode cX7_latestOf 5 = .ok (.bipush 20, 2) := by decide +kernel
theorem dX7_latestOf_7 : decode cX7_latestOf 7 = .ok (.if_icmp .ge 40, 3) := by decide +kernel
theorem dX7_latestOf_10 : decode cX7_latestOf 10 = .ok (.aload_n 0, 1) := by decide +kernel
theorem dX7_latestOf_11 : decode cX7_latestOf 11 = .ok (.getfield 13, 3) := by decide +kernel
theorem dX7_latestOf_14 : decode cX7_latestOf 14 = .ok (.iload_n 3, 1) := by decide +kernel
theorem dX7_latestOf_15 : decode cX7_latestOf 15 = .ok (.iaload, 1) := by decide +kernel
theorem dX7_latestOf_16 : decode cX7_latestOf 16 = .ok (.iload_n 1, 1) := by decide +kernel
theorem dX7_latestOf_17 : decode cX7_latestOf 17 = .ok (.if_icmp .ne 22, 3) := by decide +kernel
theorem dX7_latestOf_20 : decode cX7_latestOf 20 = .ok (.aload_n 0, 1) := by decide +kernel
theorem dX7_latestOf_21 : decode cX7_latestOf 21 = .ok (.getfield 16, 3) := by decide +kernel
theorem dX7_latestOf_24 : decode cX7_latestOf 24 = .ok (.iload_n 3, 1) := by decide +kernel
theorem dX7_latestOf_25 : decode cX7_latestOf 25 = .ok (.iaload, 1) := by decide +kernel
theorem dX7_latestOf_26 : decode cX7_latestOf 26 = .ok (.iload_n 2, 1) := by decide +kernel
theorem dX7_latestOf_27 : decode cX7_latestOf 27 = .ok (.if_icmp .le 12, 3) := by decide +kernel
theorem dX7_latestOf_30 : decode cX7_latestOf 30 = .ok (.aload_n 0, 1) := by decide +kernel
theorem dX7_latestOf_31 : decode cX7_latestOf 31 = .ok (.getfield 16, 3) := by decide +kernel
theorem dX7_latestOf_34 : decode cX7_latestOf 34 = .ok (.iload_n 3, 1) := by decide +kernel
theorem dX7_latestOf_35 : decode cX7_latestOf 35 = .ok (.iaload, 1) := by decide +kernel
theorem dX7_latestOf_36 : decode cX7_latestOf 36 = .ok (.goto 4, 3) := by decide +kernel
theorem dX7_latestOf_39 : decode cX7_latestOf 39 = .ok (.iload_n 2, 1) := by decide +kernel
theorem dX7_latestOf_40 : decode cX7_latestOf 40 = .ok (.istore_n 2, 1) := by decide +kernel
theorem dX7_latestOf_41 : decode cX7_latestOf 41 = .ok (.iinc 3 1, 3) := by decide +kernel
theorem dX7_latestOf_44 : decode cX7_latestOf 44 = .ok (.goto (-40), 3) := by decide +kernel
theorem dX7_latestOf_47 : decode cX7_latestOf 47 = .ok (.iload_n 2, 1) := by decide +kernel
theorem dX7_latestOf_48 : decode cX7_latestOf 48 = .ok (.ireturn, 1) := by decide +kernel
theorem dX7_difference_0 : decode cX7_difference 0 = .ok (.aload_n 0, 1) := by decide +kernel
theorem dX7_difference_1 : decode cX7_difference 1 = .ok (.getfield 25, 3) := by decide +kernel
theorem dX7_difference_4 : decode cX7_difference 4 = .ok (.iload_n 1, 1) := by decide +kernel
theorem dX7_difference_5 : decode cX7_difference 5 = .ok (.iaload, 1) := by decide +kernel
theorem dX7_difference_6 : decode cX7_difference 6 = .ok (.istore_n 3, 1) := by decide +kernel
theorem dX7_difference_7 : decode cX7_difference 7 = .ok (.iconst 0, 1) := by decide +kernel
theorem dX7_difference_8 : decode cX7_difference 8 = .ok (.istore 4, 2) := by decide +kernel
theorem dX7_difference_10 : decode cX7_difference 10 = .ok (.iload 4, 2) := by decide +kernel
theorem dX7_difference_12 : decode cX7_difference 12 = .ok (.iload_n 3, 1) := by decide +kernel
theorem dX7_difference_13 : decode cX7_difference 13 = .ok (.if_icmp .ge 47, 3) := by decide +kernel
theorem dX7_difference_16 : decode cX7_difference 16 = .ok (.iload 4, 2) := by decide +kernel
theorem dX7_difference_18 : decode cX7_difference 18 = .ok (.aload_n 0, 1) := by decide +kernel
theorem dX7_difference_19 : decode cX7_difference 19 = .ok (.getfield 25, 3) := by decide +kernel
theorem dX7_difference_22 : decode cX7_difference 22 = .ok (.iload_n 2, 1) := by decide +kernel
theorem dX7_difference_23 : decode cX7_difference 23 = .ok (.iaload, 1) := by decide +kernel
theorem dX7_difference_24 : decode cX7_difference 24 = .ok (.if_icmp .ge 36, 3) := by decide +kernel
theorem dX7_difference_27 : decode cX7_difference 27 = .ok (.aload_n 0, 1) := by decide +kernel
theorem dX7_difference_28 : decode cX7_difference 28 = .ok (.getfield 28, 3) := by decide +kernel
theorem dX7_difference_31 : decode cX7_difference 31 = .ok (.bipush 30, 2) := by decide +kernel
theorem dX7_difference_33 : decode cX7_difference 33 = .ok (.iload_n 1, 1) := by decide +kernel
theorem dX7_difference_34 : decode cX7_difference 34 = .ok (.imul, 1) := by decide +kernel
theorem dX7_difference_35 : decode cX7_difference 35 = .ok (.iload 4, 2) := by decide +kernel
theorem dX7_difference_37 : decode cX7_difference 37 = .ok (.iadd, 1) := by decide +kernel
theorem dX7_difference_38 : decode cX7_difference 38 = .ok (.iaload, 1) := by decide +kernel
theorem dX7_difference_39 : decode cX7_difference 39 = .ok (.aload_n 0, 1) := by decide +kernel
theorem dX7_difference_40 : decode cX7_difference 40 = .ok (.getfield 28, 3) := by decide +kernel
theorem dX7_difference_43 : decode cX7_difference 43 = .ok (.bipush 30, 2) := by decide +kernel
theorem dX7_difference_45 : decode cX7_difference 45 = .ok (.iload_n 2, 1) := by decide +kernel
theorem dX7_difference_46 : decode cX7_difference 46 = .ok (.imul, 1) := by decide +kernel
theorem dX7_difference_47 : decode cX7_difference 47 = .ok (.iload 4, 2) := by decide +kernel
theorem dX7_difference_49 : decode cX7_difference 49 = .ok (.iadd, 1) := by decide +kernel
theorem dX7_difference_50 : decode cX7_difference 50 = .ok (.iaload, 1) := by decide +kernel
theorem dX7_difference_51 : decode cX7_difference 51 = .ok (.if_icmp .ne 9, 3) := by decide +kernel
theorem dX7_difference_54 : decode cX7_difference 54 = .ok (.iinc 4 1, 3) := by decide +kernel
theorem dX7_difference_57 : decode cX7_difference 57 = .ok (.goto (-47), 3) := by decide +kernel
theorem dX7_difference_60 : decode cX7_difference 60 = .ok (.iconst 0, 1) := by decide +kernel
theorem dX7_difference_61 : decode cX7_difference 61 = .ok (.istore 5, 2) := by decide +kernel
theorem dX7_difference_63 : decode cX7_difference 63 = .ok (.iload 5, 2) := by decide +kernel
theorem dX7_difference_65 : decode cX7_difference 65 = .ok (.iload_n 3, 1) := by decide +kernel
theorem dX7_difference_66 : decode cX7_difference 66 = .ok (.iload 4, 2) := by decide +kernel
theorem dX7_difference_68 : decode cX7_difference 68 = .ok (.isub, 1) := by decide +kernel
theorem dX7_difference_69 : decode cX7_difference 69 = .ok (.if_icmp .ge 63, 3) := by decide +kernel
theorem dX7_difference_72 : decode cX7_difference 72 = .ok (.iload 5, 2) := by decide +kernel
theorem dX7_difference_74 : decode cX7_difference 74 = .ok (.aload_n 0, 1) := by decide +kernel
theorem dX7_difference_75 : decode cX7_difference 75 = .ok (.getfield 25, 3) := by decide +kernel
theorem dX7_difference_78 : decode cX7_difference 78 = .ok (.iload_n 2, 1) := by decide +kernel
theorem dX7_difference_79 : decode cX7_difference 79 = .ok (.iaload, 1) := by decide +kernel
theorem dX7_difference_80 : decode cX7_difference 80 = .ok (.iload 4, 2) := by decide +kernel
theorem dX7_difference_82 : decode cX7_difference 82 = .ok (.isub, 1) := by decide +kernel
theorem dX7_difference_83 : decode cX7_difference 83 = .ok (.if_icmp .ge 49, 3) := by decide +kernel
theorem dX7_difference_86 : decode cX7_difference 86 = .ok (.aload_n 0, 1) := by decide +kernel
theorem dX7_difference_87 : decode cX7_difference 87 = .ok (.getfield 28, 3) := by decide +kernel
theorem dX7_difference_90 : decode cX7_difference 90 = .ok (.bipush 30, 2) := by decide +kernel
theorem dX7_difference_92 : decode cX7_difference 92 = .ok (.iload_n 1, 1) := by decide +kernel
theorem dX7_difference_93 : decode cX7_difference 93 = .ok (.imul, 1) := by decide +kernel
theorem dX7_difference_94 : decode cX7_difference 94 = .ok (.iload_n 3, 1) := by decide +kernel
theorem dX7_difference_95 : decode cX7_difference 95 = .ok (.iadd, 1) := by decide +kernel
theorem dX7_difference_96 : decode cX7_difference 96 = .ok (.iconst 1, 1) := by decide +kernel
theorem dX7_difference_97 : decode cX7_difference 97 = .ok (.isub, 1) := by decide +kernel
theorem dX7_difference_98 : decode cX7_difference 98 = .ok (.iload 5, 2) := by decide +kernel
theorem dX7_difference_100 : decode cX7_difference 100 = .ok (.isub, 1) := by decide +kernel
theorem dX7_difference_101 : decode cX7_difference 101 = .ok (.iaload, 1) := by decide +kernel
theorem dX7_difference_102 : decode cX7_difference 102 = .ok (.aload_n 0, 1) := by decide +kernel
theorem dX7_difference_103 : decode cX7_difference 103 = .ok (.getfield 28, 3) := by decide +kernel
theorem dX7_difference_106 : decode cX7_difference 106 = .ok (.bipush 30, 2) := by decide +kernel
theorem dX7_difference_108 : decode cX7_difference 108 = .ok (.iload_n 2, 1) := by decide +kernel
theorem dX7_difference_109 : decode cX7_difference 109 = .ok (.imul, 1) := by decide +kernel
theorem dX7_difference_110 : decode cX7_difference 110 = .ok (.aload_n 0, 1) := by decide +kernel
theorem dX7_difference_111 : decode cX7_difference 111 = .ok (.getfield 25, 3) := by decide +kernel
theorem dX7_difference_114 : decode cX7_difference 114 = .ok (.iload_n 2, 1) := by decide +kernel
theorem dX7_difference_115 : decode cX7_difference 115 = .ok (.iaload, 1) := by decide +kernel
theorem dX7_difference_116 : decode cX7_difference 116 = .ok (.iadd, 1) := by decide +kernel
theorem dX7_difference_117 : decode cX7_difference 117 = .ok (.iconst 1, 1) := by decide +kernel
theorem dX7_difference_118 : decode cX7_difference 118 = .ok (.isub, 1) := by decide +kernel
theorem dX7_difference_119 : decode cX7_difference 119 = .ok (.iload 5, 2) := by decide +kernel
theorem dX7_difference_121 : decode cX7_difference 121 = .ok (.isub, 1) := by decide +kernel
theorem dX7_difference_122 : decode cX7_difference 122 = .ok (.iaload, 1) := by decide +kernel
theorem dX7_difference_123 : decode cX7_difference 123 = .ok (.if_icmp .ne 9, 3) := by decide +kernel
theorem dX7_difference_126 : decode cX7_difference 126 = .ok (.iinc 5 1, 3) := by decide +kernel
theorem dX7_difference_129 : decode cX7_difference 129 = .ok (.goto (-66), 3) := by decide +kernel
theorem dX7_difference_132 : decode cX7_difference 132 = .ok (.iload_n 3, 1) := by decide +kernel
theorem dX7_difference_133 : decode cX7_difference 133 = .ok (.iload 4, 2) := by decide +kernel
theorem dX7_difference_135 : decode cX7_difference 135 = .ok (.isub, 1) := by decide +kernel
theorem dX7_difference_136 : decode cX7_difference 136 = .ok (.iload 5, 2) := by decide +kernel
theorem dX7_difference_138 : decode cX7_difference 138 = .ok (.isub, 1) := by decide +kernel
theorem dX7_difference_139 : decode cX7_difference 139 = .ok (.iconst 2, 1) := by decide +kernel
theorem dX7_difference_140 : decode cX7_difference 140 = .ok (.iadd, 1) := by decide +kernel
theorem dX7_difference_141 : decode cX7_difference 141 = .ok (.ireturn, 1) := by decide +kernel
theorem dX7_chain_0 : decode cX7_chain 0 = .ok (.iconst 0, 1) := by decide +kernel
theorem dX7_chain_1 : decode cX7_chain 1 = .ok (.istore_n 2, 1) := by decide +kernel
theorem dX7_chain_2 : decode cX7_chain 2 = .ok (.iload_n 1, 1) := by decide +kernel
theorem dX7_chain_3 : decode cX7_chain 3 = .ok (.istore_n 3, 1) := by decide +kernel
theorem dX7_chain_4 : decode cX7_chain 4 = .ok (.aload_n 0, 1) := by decide +kernel
theorem dX7_chain_5 : decode cX7_chain 5 = .ok (.getfield 22, 3) := by decide +kernel
theorem dX7_chain_8 : decode cX7_chain 8 = .ok (.iload_n 3, 1) := by decide +kernel
theorem dX7_chain_9 : decode cX7_chain 9 = .ok (.iaload, 1) := by decide +kernel
theorem dX7_chain_10 : decode cX7_chain 10 = .ok (.iconst (-1), 1) := by decide +kernel
theorem dX7_chain_11 : decode cX7_chain 11 = .ok (.if_icmp .eq 26, 3) := by decide +kernel
theorem dX7_chain_14 : decode cX7_chain 14 = .ok (.iinc 2 1, 3) := by decide +kernel
theorem dX7_chain_17 : decode cX7_chain 17 = .ok (.aload_n 0, 1) := by decide +kernel
theorem dX7_chain_18 : decode cX7_chain 18 = .ok (.aload_n 0, 1) := by decide +kernel
theorem dX7_chain_19 : decode cX7_chain 19 = .ok (.getfield 13, 3) := by decide +kernel
theorem dX7_chain_22 : decode cX7_chain 22 = .ok (.iload_n 3, 1) := by decide +kernel
theorem dX7_chain_23 : decode cX7_chain 23 = .ok (.iaload, 1) := by decide +kernel
theorem dX7_chain_24 : decode cX7_chain 24 = .ok (.aload_n 0, 1) := by decide +kernel
theorem dX7_chain_25 : decode cX7_chain 25 = .ok (.getfield 22, 3) := by decide +kernel
theorem dX7_chain_28 : decode cX7_chain 28 = .ok (.iload_n 3, 1) := by decide +kernel
theorem dX7_chain_29 : decode cX7_chain 29 = .ok (.iaload, 1) := by decide +kernel
theorem dX7_chain_30 : decode cX7_chain 30 = .ok (.invokevirtual 76, 3) := by decide +kernel
theorem dX7_chain_33 : decode cX7_chain 33 = .ok (.istore_n 3, 1) := by decide +kernel
theorem dX7_chain_34 : decode cX7_chain 34 = .ok (.goto (-30), 3) := by decide +kernel
theorem dX7_chain_37 : decode cX7_chain 37 = .ok (.iload_n 2, 1) := by decide +kernel
theorem dX7_chain_38 : decode cX7_chain 38 = .ok (.ireturn, 1) := by decide +kernel
theorem dX7_save_0 : decode cX7_save 0 = .ok (.aload_n 0, 1) := by decide +kernel
theorem dX7_save_1 : decode cX7_save 1 = .ok (.iload_n 1, 1) := by decide +kernel
theorem dX7_save_2 : decode cX7_save 2 = .ok (.iconst 0, 1) := by decide +kernel
theorem dX7_save_3 : decode cX7_save 3 = .ok (.iconst 5, 1) := by decide +kernel
theorem dX7_save_4 : decode cX7_save 4 = .ok (.invokestatic 64, 3) := by decide +kernel
theorem dX7_save_7 : decode cX7_save 7 = .ok (.ifCond .ne 7, 3) := by decide +kernel
theorem dX7_save_10 : decode cX7_save 10 = .ok (.iconst 1, 1) := by decide +kernel
theorem dX7_save_11 : decode cX7_save 11 = .ok (.goto 17, 3) := by decide +kernel
theorem dX7_save_14 : decode cX7_save 14 = .ok (.aload_n 0, 1) := by decide +kernel
theorem dX7_save_15 : decode cX7_save 15 = .ok (.invokevirtual 93, 3) := by decide +kernel
theorem dX7_save_18 : decode cX7_save 18 = .ok (.bipush 20, 2) := by decide +kernel
theorem dX7_save_20 : decode cX7_save 20 = .ok (.if_icmp .ne 7, 3) := by decide +kernel
theorem dX7_save_23 : decode cX7_save 23 = .ok (.iconst 2, 1) := by decide +kernel
theorem dX7_save_24 : decode cX7_save 24 = .ok (.goto 4, 3) := by decide +kernel
theorem dX7_save_27 : decode cX7_save 27 = .ok (.iconst 0, 1) := by decide +kernel
theorem dX7_save_28 : decode cX7_save 28 = .ok (.invokevirtual 68, 3) := by decide +kernel
theorem dX7_save_31 : decode cX7_save 31 = .ok (.ifCond .ne 5, 3) := by decide +kernel
theorem dX7_save_34 : decode cX7_save 34 = .ok (.iconst 0, 1) := by decide +kernel
theorem dX7_save_35 : decode cX7_save 35 = .ok (.ireturn, 1) := by decide +kernel
theorem dX7_save_36 : decode cX7_save 36 = .ok (.iconst 0, 1) := by decide +kernel
theorem dX7_save_37 : decode cX7_save 37 = .ok (.istore_n 2, 1) := by decide +kernel
theorem dX7_save_38 : decode cX7_save 38 = .ok (.aload_n 0, 1) := by decide +kernel
theorem dX7_save_39 : decode cX7_save 39 = .ok (.getfield 13, 3) := by decide +kernel
theorem dX7_save_42 : decode cX7_save 42 = .ok (.iload_n 2, 1) := by decide +kernel
theorem dX7_save_43 : decode cX7_save 43 = .ok (.iaload, 1) := by decide +kernel
theorem dX7_save_44 : decode cX7_save 44 = .ok (.iconst (-1), 1) := by decide +kernel
theorem dX7_save_45 : decode cX7_save 45 = .ok (.if_icmp .eq 9, 3) := by decide +kernel
theorem dX7_save_48 : decode cX7_save 48 = .ok (.iinc 2 1, 3) := by decide +kernel
theorem dX7_save_51 : decode cX7_save 51 = .ok (.goto (-13), 3) := by decide +kernel
theorem dX7_save_54 : decode cX7_save 54 = .ok (.aload_n 0, 1) := by decide +kernel
theorem dX7_save_55 : decode cX7_save 55 = .ok (.iload_n 1, 1) := by decide +kernel
theorem dX7_save_56 : decode cX7_save 56 = .ok (.invokevirtual 97, 3) := by decide +kernel
theorem dX7_save_59 : decode cX7_save 59 = .ok (.istore_n 3, 1) := by decide +kernel
theorem dX7_save_60 : decode cX7_save 60 = .ok (.aload_n 0, 1) := by decide +kernel
theorem dX7_save_61 : decode cX7_save 61 = .ok (.getfield 25, 3) := by decide +kernel
theorem dX7_save_64 : decode cX7_save 64 = .ok (.iload_n 2, 1) := by decide +kernel
theorem dX7_save_65 : decode cX7_save 65 = .ok (.iconst 0, 1) := by decide +kernel
theorem dX7_save_66 : decode cX7_save 66 = .ok (.iastore, 1) := by decide +kernel
theorem dX7_save_67 : decode cX7_save 67 = .ok (.iconst 0, 1) := by decide +kernel
theorem dX7_save_68 : decode cX7_save 68 = .ok (.istore 4, 2) := by decide +kernel
theorem dX7_save_70 : decode cX7_save 70 = .ok (.iload 4, 2) := by decide +kernel
theorem dX7_save_72 : decode cX7_save 72 = .ok (.aload_n 0, 1) := by decide +kernel
theorem dX7_save_73 : decode cX7_save 73 = .ok (.getfield 61, 3) := by decide +kernel
theorem dX7_save_76 : decode cX7_save 76 = .ok (.if_icmp .ge 222, 3) := by decide +kernel
theorem dX7_save_79 : decode cX7_save 79 = .ok (.aload_n 0, 1) := by decide +kernel
theorem dX7_save_80 : decode cX7_save 80 = .ok (.iload 4, 2) := by decide +kernel
theorem dX7_save_82 : decode cX7_save 82 = .ok (.aload_n 0, 1) := by decide +kernel
theorem dX7_save_83 : decode cX7_save 83 = .ok (.iload 4, 2) := by decide +kernel
theorem dX7_save_85 : decode cX7_save 85 = .ok (.invokevirtual 100, 3) := by decide +kernel
theorem dX7_save_88 : decode cX7_save 88 = .ok (.invokevirtual 103, 3) := by decide +kernel
theorem dX7_save_91 : decode cX7_save 91 = .ok (.istore 5, 2) := by decide +kernel
theorem dX7_save_93 : decode cX7_save 93 = .ok (.iload 5, 2) := by decide +kernel
theorem dX7_save_95 : decode cX7_save 95 = .ok (.iconst (-1), 1) := by decide +kernel
theorem dX7_save_96 : decode cX7_save 96 = .ok (.if_icmp .eq 30, 3) := by decide +kernel
theorem dX7_save_99 : decode cX7_save 99 = .ok (.aload_n 0, 1) := by decide +kernel
theorem dX7_save_100 : decode cX7_save 100 = .ok (.aload_n 0, 1) := by decide +kernel
theorem dX7_save_101 : decode cX7_save 101 = .ok (.getfield 46, 3) := by decide +kernel
theorem dX7_save_104 : decode cX7_save 104 = .ok (.iload 5, 2) := by decide +kernel
theorem dX7_save_106 : decode cX7_save 106 = .ok (.iaload, 1) := by decide +kernel
theorem dX7_save_107 : decode cX7_save 107 = .ok (.invokevirtual 106, 3) := by decide +kernel
theorem dX7_save_110 : decode cX7_save 110 = .ok (.ifCond .eq 16, 3) := by decide +kernel
theorem dX7_save_113 : decode cX7_save 113 = .ok (.aload_n 0, 1) := by decide +kernel
theorem dX7_save_114 : decode cX7_save 114 = .ok (.dup, 1) := by decide +kernel
theorem dX7_save_115 : decode cX7_save 115 = .ok (.getfield 109, 3) := by decide +kernel
theorem dX7_save_118 : decode cX7_save 118 = .ok (.iconst 1, 1) := by decide +kernel
theorem dX7_save_119 : decode cX7_save 119 = .ok (.iadd, 1) := by decide +kernel
theorem dX7_save_120 : decode cX7_save 120 = .ok (.putfield 109, 3) := by decide +kernel
theorem dX7_save_123 : decode cX7_save 123 = .ok (.goto 120, 3) := by decide +kernel
theorem dX7_save_126 : decode cX7_save 126 = .ok (.aload_n 0, 1) := by decide +kernel
theorem dX7_save_127 : decode cX7_save 127 = .ok (.dup, 1) := by decide +kernel
theorem dX7_save_128 : decode cX7_save 128 = .ok (.getfield 112, 3) := by decide +kernel
theorem dX7_save_131 : decode cX7_save 131 = .ok (.iconst 1, 1) := by decide +kernel
theorem dX7_save_132 : decode cX7_save 132 = .ok (.iadd, 1) := by decide +kernel
theorem dX7_save_133 : decode cX7_save 133 = .ok (.putfield 112, 3) := by decide +kernel
theorem dX7_save_136 : decode cX7_save 136 = .ok (.iload 5, 2) := by decide +kernel
theorem dX7_save_138 : decode cX7_save 138 = .ok (.iconst (-1), 1) := by decide +kernel
theorem dX7_save_139 : decode cX7_save 139 = .ok (.if_icmp .ne 104, 3) := by decide +kernel
theorem dX7_save_142 : decode cX7_save 142 = .ok (.iload 4, 2) := by decide +kernel
theorem dX7_save_144 : decode cX7_save 144 = .ok (.istore 6, 2) := by decide +kernel
theorem dX7_save_146 : decode cX7_save 146 = .ok (.iload 6, 2) := by decide +kernel
theorem dX7_save_148 : decode cX7_save 148 = .ok (.aload_n 0, 1) := by decide +kernel
theorem dX7_save_149 : decode cX7_save 149 = .ok (.iload 4, 2) := by decide +kernel
theorem dX7_save_151 : decode cX7_save 151 = .ok (.invokevirtual 100, 3) := by decide +kernel
theorem dX7_save_154 : decode cX7_save 154 = .ok (.if_icmp .ge 32, 3) := by decide +kernel
theorem dX7_save_157 : decode cX7_save 157 = .ok (.aload_n 0, 1) := by decide +kernel
theorem dX7_save_158 : decode cX7_save 158 = .ok (.getfield 50, 3) := by decide +kernel
theorem dX7_save_161 : decode cX7_save 161 = .ok (.aload_n 0, 1) := by decide +kernel
theorem dX7_save_162 : decode cX7_save 162 = .ok (.getfield 115, 3) := by decide +kernel
theorem dX7_save_165 : decode cX7_save 165 = .ok (.iload 6, 2) := by decide +kernel
theorem dX7_save_167 : decode cX7_save 167 = .ok (.iadd, 1) := by decide +kernel
theorem dX7_save_168 : decode cX7_save 168 = .ok (.iload 4, 2) := by decide +kernel
theorem dX7_save_170 : decode cX7_save 170 = .ok (.isub, 1) := by decide +kernel
theorem dX7_save_171 : decode cX7_save 171 = .ok (.aload_n 0, 1) := by decide +kernel
theorem dX7_save_172 : decode cX7_save 172 = .ok (.getfield 7, 3) := by decide +kernel
theorem dX7_save_175 : decode cX7_save 175 = .ok (.iload 6, 2) := by decide +kernel
theorem dX7_save_177 : decode cX7_save 177 = .ok (.iaload, 1) := by decide +kernel
theorem dX7_save_178 : decode cX7_save 178 = .ok (.i2b, 1) := by decide +kernel
theorem dX7_save_179 : decode cX7_save 179 = .ok (.bastore, 1) := by decide +kernel
theorem dX7_save_180 : decode cX7_save 180 = .ok (.iinc 6 1, 3) := by decide +kernel
theorem dX7_save_183 : decode cX7_save 183 = .ok (.goto (-37), 3) := by decide +kernel
theorem dX7_save_186 : decode cX7_save 186 = .ok (.aload_n 0, 1) := by decide +kernel
theorem dX7_save_187 : decode cX7_save 187 = .ok (.aload_n 0, 1) := by decide +kernel
theorem dX7_save_188 : decode cX7_save 188 = .ok (.getfield 118, 3) := by decide +kernel
theorem dX7_save_191 : decode cX7_save 191 = .ok (.aload_n 0, 1) := by decide +kernel
theorem dX7_save_192 : decode cX7_save 192 = .ok (.getfield 115, 3) := by decide +kernel
theorem dX7_save_195 : decode cX7_save 195 = .ok (.aload_n 0, 1) := by decide +kernel
theorem dX7_save_196 : decode cX7_save 196 = .ok (.iload 4, 2) := by decide +kernel
theorem dX7_save_198 : decode cX7_save 198 = .ok (.invokevirtual 100, 3) := by decide +kernel
theorem dX7_save_201 : decode cX7_save 201 = .ok (.iload 4, 2) := by decide +kernel
theorem dX7_save_203 : decode cX7_save 203 = .ok (.isub, 1) := by decide +kernel
theorem dX7_save_204 : decode cX7_save 204 = .ok (.invokevirtual 121, 3) := by decide +kernel
theorem dX7_save_207 : decode cX7_save 207 = .ok (.aload_n 0, 1) := by decide +kernel
theorem dX7_save_208 : decode cX7_save 208 = .ok (.dup, 1) := by decide +kernel
theorem dX7_save_209 : decode cX7_save 209 = .ok (.getfield 115, 3) := by decide +kernel
theorem dX7_save_212 : decode cX7_save 212 = .ok (.aload_n 0, 1) := by decide +kernel
theorem dX7_save_213 : decode cX7_save 213 = .ok (.iload 4, 2) := by decide +kernel
theorem dX7_save_215 : decode cX7_save 215 = .ok (.invokevirtual 100, 3) := by decide +kernel
theorem dX7_save_218 : decode cX7_save 218 = .ok (.iload 4, 2) := by decide +kernel
theorem dX7_save_220 : decode cX7_save 220 = .ok (.isub, 1) := by decide +kernel
theorem dX7_save_221 : decode cX7_save 221 = .ok (.iadd, 1) := by decide +kernel
theorem dX7_save_222 : decode cX7_save 222 = .ok (.putfield 115, 3) := by decide +kernel
theorem dX7_save_225 : decode cX7_save 225 = .ok (.aload_n 0, 1) := by decide +kernel
theorem dX7_save_226 : decode cX7_save 226 = .ok (.dup, 1) := by decide +kernel
theorem dX7_save_227 : decode cX7_save 227 = .ok (.getfield 118, 3) := by decide +kernel
theorem dX7_save_230 : decode cX7_save 230 = .ok (.iconst 1, 1) := by decide +kernel
theorem dX7_save_231 : decode cX7_save 231 = .ok (.iadd, 1) := by decide +kernel
theorem dX7_save_232 : decode cX7_save 232 = .ok (.putfield 118, 3) := by decide +kernel
theorem dX7_save_235 : decode cX7_save 235 = .ok (.aload_n 0, 1) := by decide +kernel
theorem dX7_save_236 : decode cX7_save 236 = .ok (.getfield 80, 3) := by decide +kernel
theorem dX7_save_239 : decode cX7_save 239 = .ok (.iconst 1, 1) := by decide +kernel
theorem dX7_save_240 : decode cX7_save 240 = .ok (.isub, 1) := by decide +kernel
theorem dX7_save_241 : decode cX7_save 241 = .ok (.istore 5, 2) := by decide +kernel
theorem dX7_save_243 : decode cX7_save 243 = .ok (.aload_n 0, 1) := by decide +kernel
theorem dX7_save_244 : decode cX7_save 244 = .ok (.aload_n 0, 1) := by decide +kernel
theorem dX7_save_245 : decode cX7_save 245 = .ok (.getfield 46, 3) := by decide +kernel
theorem dX7_save_248 : decode cX7_save 248 = .ok (.iload 5, 2) := by decide +kernel
theorem dX7_save_250 : decode cX7_save 250 = .ok (.iaload, 1) := by decide +kernel
theorem dX7_save_251 : decode cX7_save 251 = .ok (.invokevirtual 125, 3) := by decide +kernel
theorem dX7_save_254 : decode cX7_save 254 = .ok (.aload_n 0, 1) := by decide +kernel
theorem dX7_save_255 : decode cX7_save 255 = .ok (.getfield 28, 3) := by decide +kernel
theorem dX7_save_258 : decode cX7_save 258 = .ok (.bipush 30, 2) := by decide +kernel
theorem dX7_save_260 : decode cX7_save 260 = .ok (.iload_n 2, 1) := by decide +kernel
theorem dX7_save_261 : decode cX7_save 261 = .ok (.imul, 1) := by decide +kernel
theorem dX7_save_262 : decode cX7_save 262 = .ok (.aload_n 0, 1) := by decide +kernel
theorem dX7_save_263 : decode cX7_save 263 = .ok (.getfield 25, 3) := by decide +kernel
theorem dX7_save_266 : decode cX7_save 266 = .ok (.iload_n 2, 1) := by decide +kernel
theorem dX7_save_267 : decode cX7_save 267 = .ok (.iaload, 1) := by decide +kernel
theorem dX7_save_268 : decode cX7_save 268 = .ok (.iadd, 1) := by decide +kernel
theorem dX7_save_269 : decode cX7_save 269 = .ok (.aload_n 0, 1) := by decide +kernel
theorem dX7_save_270 : decode cX7_save 270 = .ok (.getfield 37, 3) := by decide +kernel
theorem dX7_save_273 : decode cX7_save 273 = .ok (.iload 5, 2) := by decide +kernel
theorem dX7_save_275 : decode cX7_save 275 = .ok (.iaload, 1) := by decide +kernel
theorem dX7_save_276 : decode cX7_save 276 = .ok (.iastore, 1) := by decide +kernel
theorem dX7_save_277 : decode cX7_save 277 = .ok (.aload_n 0, 1) := by decide +kernel
theorem dX7_save_278 : decode cX7_save 278 = .ok (.getfield 25, 3) := by decide +kernel
theorem dX7_save_281 : decode cX7_save 281 = .ok (.iload_n 2, 1) := by decide +kernel
theorem dX7_save_282 : decode cX7_save 282 = .ok (.dup2, 1) := by decide +kernel
theorem dX7_save_283 : decode cX7_save 283 = .ok (.iaload, 1) := by decide +kernel
theorem dX7_save_284 : decode cX7_save 284 = .ok (.iconst 1, 1) := by decide +kernel
theorem dX7_save_285 : decode cX7_save 285 = .ok (.iadd, 1) := by decide +kernel
theorem dX7_save_286 : decode cX7_save 286 = .ok (.iastore, 1) := by decide +kernel
theorem dX7_save_287 : decode cX7_save 287 = .ok (.aload_n 0, 1) := by decide +kernel
theorem dX7_save_288 : decode cX7_save 288 = .ok (.iload 4, 2) := by decide +kernel
theorem dX7_save_290 : decode cX7_save 290 = .ok (.invokevirtual 100, 3) := by decide +kernel
theorem dX7_save_293 : decode cX7_save 293 = .ok (.istore 4, 2) := by decide +kernel
theorem dX7_save_295 : decode cX7_save 295 = .ok (.goto (-225), 3) := by decide +kernel
theorem dX7_save_298 : decode cX7_save 298 = .ok (.aload_n 0, 1) := by decide +kernel
theorem dX7_save_299 : decode cX7_save 299 = .ok (.getfield 13, 3) := by decide +kernel
theorem dX7_save_302 : decode cX7_save 302 = .ok (.iload_n 2, 1) := by decide +kernel
theorem dX7_save_303 : decode cX7_save 303 = .ok (.iload_n 1, 1) := by decide +kernel
theorem dX7_save_304 : decode cX7_save 304 = .ok (.iastore, 1) := by decide +kernel
theorem dX7_save_305 : decode cX7_save 305 = .ok (.aload_n 0, 1) := by decide +kernel
theorem dX7_save_306 : decode cX7_save 306 = .ok (.getfield 16, 3) := by decide +kernel
theorem dX7_save_309 : decode cX7_save 309 = .ok (.iload_n 2, 1) := by decide +kernel
theorem dX7_save_310 : decode cX7_save 310 = .ok (.aload_n 0, 1) := by decide +kernel
theorem dX7_save_311 : decode cX7_save 311 = .ok (.getfield 34, 3) := by decide +kernel
theorem dX7_save_314 : decode cX7_save 314 = .ok (.iload_n 1, 1) := by decide +kernel
theorem dX7_save_315 : decode cX7_save 315 = .ok (.iaload, 1) := by decide +kernel
theorem dX7_save_316 : decode cX7_save 316 = .ok (.iastore, 1) := by decide +kernel
theorem dX7_save_317 : decode cX7_save 317 = .ok (.aload_n 0, 1) := by decide +kernel
theorem dX7_save_318 : decode cX7_save 318 = .ok (.getfield 34, 3) := by decide +kernel
theorem dX7_save_321 : decode cX7_save 321 = .ok (.iload_n 1, 1) := by decide +kernel
theorem dX7_save_322 : decode cX7_save 322 = .ok (.dup2, 1) := by decide +kernel
theorem dX7_save_323 : decode cX7_save 323 = .ok (.iaload, 1) := by decide +kernel
theorem dX7_save_324 : decode cX7_save 324 = .ok (.iconst 1, 1) := by decide +kernel
theorem dX7_save_325 : decode cX7_save 325 = .ok (.iadd, 1) := by decide +kernel
theorem dX7_save_326 : decode cX7_save 326 = .ok (.iastore, 1) := by decide +kernel
theorem dX7_save_327 : decode cX7_save 327 = .ok (.aload_n 0, 1) := by decide +kernel
theorem dX7_save_328 : decode cX7_save 328 = .ok (.getfield 19, 3) := by decide +kernel
theorem dX7_save_331 : decode cX7_save 331 = .ok (.iload_n 2, 1) := by decide +kernel
theorem dX7_save_332 : decode cX7_save 332 = .ok (.aload_n 0, 1) := by decide +kernel
theorem dX7_save_333 : decode cX7_save 333 = .ok (.getfield 61, 3) := by decide +kernel
theorem dX7_save_336 : decode cX7_save 336 = .ok (.iastore, 1) := by decide +kernel
theorem dX7_save_337 : decode cX7_save 337 = .ok (.iconst 0, 1) := by decide +kernel
theorem dX7_save_338 : decode cX7_save 338 = .ok (.istore 4, 2) := by decide +kernel
theorem dX7_save_340 : decode cX7_save 340 = .ok (.iload 4, 2) := by decide +kernel
theorem dX7_save_342 : decode cX7_save 342 = .ok (.aload_n 0, 1) := by decide +kernel
theorem dX7_save_343 : decode cX7_save 343 = .ok (.getfield 61, 3) := by decide +kernel
theorem dX7_save_346 : decode cX7_save 346 = .ok (.if_icmp .ge 29, 3) := by decide +kernel
theorem dX7_save_349 : decode cX7_save 349 = .ok (.aload_n 0, 1) := by decide +kernel
theorem dX7_save_350 : decode cX7_save 350 = .ok (.getfield 31, 3) := by decide +kernel
theorem dX7_save_353 : decode cX7_save 353 = .ok (.sipush 240, 3) := by decide +kernel
theorem dX7_save_356 : decode cX7_save 356 = .ok (.iload_n 2, 1) := by decide +kernel
theorem dX7_save_357 : decode cX7_save 357 = .ok (.imul, 1) := by decide +kernel
theorem dX7_save_358 : decode cX7_save 358 = .ok (.iload 4, 2) := by decide +kernel
theorem dX7_save_360 : decode cX7_save 360 = .ok (.iadd, 1) := by decide +kernel
theorem dX7_save_361 : decode cX7_save 361 = .ok (.aload_n 0, 1) := by decide +kernel
theorem dX7_save_362 : decode cX7_save 362 = .ok (.getfield 7, 3) := by decide +kernel
theorem dX7_save_365 : decode cX7_save 365 = .ok (.iload 4, 2) := by decide +kernel
theorem dX7_save_367 : decode cX7_save 367 = .ok (.iaload, 1) := by decide +kernel
theorem dX7_save_368 : decode cX7_save 368 = .ok (.iastore, 1) := by decide +kernel
theorem dX7_save_369 : decode cX7_save 369 = .ok (.iinc 4 1, 3) := by decide +kernel
theorem dX7_save_372 : decode cX7_save 372 = .ok (.goto (-32), 3) := by decide +kernel
theorem dX7_save_375 : decode cX7_save 375 = .ok (.iload_n 3, 1) := by decide +kernel
theorem dX7_save_376 : decode cX7_save 376 = .ok (.iconst (-1), 1) := by decide +kernel
theorem dX7_save_377 : decode cX7_save 377 = .ok (.if_icmp .ne 7, 3) := by decide +kernel
theorem dX7_save_380 : decode cX7_save 380 = .ok (.iconst (-1), 1) := by decide +kernel
theorem dX7_save_381 : decode cX7_save 381 = .ok (.goto 9, 3) := by decide +kernel
theorem dX7_save_384 : decode cX7_save 384 = .ok (.aload_n 0, 1) := by decide +kernel
theorem dX7_save_385 : decode cX7_save 385 = .ok (.iload_n 1, 1) := by decide +kernel
theorem dX7_save_386 : decode cX7_save 386 = .ok (.iload_n 3, 1) := by decide +kernel
theorem dX7_save_387 : decode cX7_save 387 = .ok (.invokevirtual 76, 3) := by decide +kernel
theorem dX7_save_390 : decode cX7_save 390 = .ok (.istore 4, 2) := by decide +kernel
theorem dX7_save_392 : decode cX7_save 392 = .ok (.iload 4, 2) := by decide +kernel
theorem dX7_save_394 : decode cX7_save 394 = .ok (.iconst (-1), 1) := by decide +kernel
theorem dX7_save_395 : decode cX7_save 395 = .ok (.if_icmp .eq 29, 3) := by decide +kernel
theorem dX7_save_398 : decode cX7_save 398 = .ok (.aload_n 0, 1) := by decide +kernel
theorem dX7_save_399 : decode cX7_save 399 = .ok (.iload 4, 2) := by decide +kernel
theorem dX7_save_401 : decode cX7_save 401 = .ok (.invokevirtual 128, 3) := by decide +kernel
theorem dX7_save_404 : decode cX7_save 404 = .ok (.iconst 3, 1) := by decide +kernel
theorem dX7_save_405 : decode cX7_save 405 = .ok (.if_icmp .eq 19, 3) := by decide +kernel
theorem dX7_save_408 : decode cX7_save 408 = .ok (.aload_n 0, 1) := by decide +kernel
theorem dX7_save_409 : decode cX7_save 409 = .ok (.iload_n 2, 1) := by decide +kernel
theorem dX7_save_410 : decode cX7_save 410 = .ok (.iload 4, 2) := by decide +kernel
theorem dX7_save_412 : decode cX7_save 412 = .ok (.invokevirtual 131, 3) := by decide +kernel
theorem dX7_save_415 : decode cX7_save 415 = .ok (.aload_n 0, 1) := by decide +kernel
theorem dX7_save_416 : decode cX7_save 416 = .ok (.getfield 25, 3) := by decide +kernel
theorem dX7_save_419 : decode cX7_save 419 = .ok (.iload_n 2, 1) := by decide +kernel
theorem dX7_save_420 : decode cX7_save 420 = .ok (.iaload, 1) := by decide +kernel
theorem dX7_save_421 : decode cX7_save 421 = .ok (.if_icmp .lt 7, 3) := by decide +kernel
theorem dX7_save_424 : decode cX7_save 424 = .ok (.iconst 1, 1) := by decide +kernel
theorem dX7_save_425 : decode cX7_save 425 = .ok (.goto 4, 3) := by decide +kernel
theorem dX7_save_428 : decode cX7_save 428 = .ok (.iconst 0, 1) := by decide +kernel
theorem dX7_save_429 : decode cX7_save 429 = .ok (.istore 5, 2) := by decide +kernel
theorem dX7_save_431 : decode cX7_save 431 = .ok (.aload_n 0, 1) := by decide +kernel
theorem dX7_save_432 : decode cX7_save 432 = .ok (.getfield 22, 3) := by decide +kernel
theorem dX7_save_435 : decode cX7_save 435 = .ok (.iload_n 2, 1) := by decide +kernel
theorem dX7_save_436 : decode cX7_save 436 = .ok (.iload 5, 2) := by decide +kernel
theorem dX7_save_438 : decode cX7_save 438 = .ok (.ifCond .eq 7, 3) := by decide +kernel
theorem dX7_save_441 : decode cX7_save 441 = .ok (.iconst (-1), 1) := by decide +kernel
theorem dX7_save_442 : decode cX7_save 442 = .ok (.goto 4, 3) := by decide +kernel
theorem dX7_save_445 : decode cX7_save 445 = .ok (.iload_n 3, 1) := by decide +kernel
theorem dX7_save_446 : decode cX7_save 446 = .ok (.iastore, 1) := by decide +kernel
theorem dX7_save_447 : decode cX7_save 447 = .ok (.aload_n 0, 1) := by decide +kernel
theorem dX7_save_448 : decode cX7_save 448 = .ok (.getfield 16, 3) := by decide +kernel
theorem dX7_save_451 : decode cX7_save 451 = .ok (.iload_n 2, 1) := by decide +kernel
theorem dX7_save_452 : decode cX7_save 452 = .ok (.iaload, 1) := by decide +kernel
theorem dX7_save_453 : decode cX7_save 453 = .ok (.ireturn, 1) := by decide +kernel
theorem dX7_wouldStore_0 : decode cX7_wouldStore 0 = .ok (.aload_n 0, 1) := by decide +kernel
theorem dX7_wouldStore_1 : decode cX7_wouldStore 1 = .ok (.iconst 0, 1) := by decide +kernel
theorem dX7_wouldStore_2 : decode cX7_wouldStore 2 = .ok (.putfield 57, 3) := by decide +kernel
theorem dX7_wouldStore_5 : decode cX7_wouldStore 5 = .ok (.iconst 0, 1) := by decide +kernel
theorem dX7_wouldStore_6 : decode cX7_wouldStore 6 = .ok (.istore_n 1, 1) := by decide +kernel
theorem dX7_wouldStore_7 : decode cX7_wouldStore 7 = .ok (.iconst 0, 1) := by decide +kernel
theorem dX7_wouldStore_8 : decode cX7_wouldStore 8 = .ok (.istore_n 2, 1) := by decide +kernel
theorem dX7_wouldStore_9 : decode cX7_wouldStore 9 = .ok (.iload_n 2, 1) := by decide +kernel
theorem dX7_wouldStore_10 : decode cX7_wouldStore 10 = .ok (.aload_n 0, 1) := by decide +kernel
theorem dX7_wouldStore_11 : decode cX7_wouldStore 11 = .ok (.getfield 61, 3) := by decide +kernel
theorem dX7_wouldStore_14 : decode cX7_wouldStore 14 = .ok (.if_icmp .ge 158, 3) := by decide +kernel
theorem dX7_wouldStore_17 : decode cX7_wouldStore 17 = .ok (.aload_n 0, 1) := by decide +kernel
theorem dX7_wouldStore_18 : decode cX7_wouldStore 18 = .ok (.iload_n 2, 1) := by decide +kernel
theorem dX7_wouldStore_19 : decode cX7_wouldStore 19 = .ok (.invokevirtual 100, 3) := by decide +kernel
theorem dX7_wouldStore_22 : decode cX7_wouldStore 22 = .ok (.iload_n 2, 1) := by decide +kernel
theorem dX7_wouldStore_23 : decode cX7_wouldStore 23 = .ok (.isub, 1) := by decide +kernel
theorem dX7_wouldStore_24 : decode cX7_wouldStore 24 = .ok (.istore_n 3, 1) := by decide +kernel
theorem dX7_wouldStore_25 : decode cX7_wouldStore 25 = .ok (.aload_n 0, 1) := by decide +kernel
theorem dX7_wouldStore_26 : decode cX7_wouldStore 26 = .ok (.iload_n 2, 1) := by decide +kernel
theorem dX7_wouldStore_27 : decode cX7_wouldStore 27 = .ok (.iload_n 2, 1) := by decide +kernel
theorem dX7_wouldStore_28 : decode cX7_wouldStore 28 = .ok (.iload_n 3, 1) := by decide +kernel
theorem dX7_wouldStore_29 : decode cX7_wouldStore 29 = .ok (.iadd, 1) := by decide +kernel
theorem dX7_wouldStore_30 : decode cX7_wouldStore 30 = .ok (.invokevirtual 103, 3) := by decide +kernel
theorem dX7_wouldStore_33 : decode cX7_wouldStore 33 = .ok (.iconst (-1), 1) := by decide +kernel
theorem dX7_wouldStore_34 : decode cX7_wouldStore 34 = .ok (.if_icmp .ne 7, 3) := by decide +kernel
theorem dX7_wouldStore_37 : decode cX7_wouldStore 37 = .ok (.iconst 1, 1) := by decide +kernel
theorem dX7_wouldStore_38 : decode cX7_wouldStore 38 = .ok (.goto 4, 3) := by decide +kernel
theorem dX7_wouldStore_41 : decode cX7_wouldStore 41 = .ok (.iconst 0, 1) := by decide +kernel
theorem dX7_wouldStore_42 : decode cX7_wouldStore 42 = .ok (.istore 4, 2) := by decide +kernel
theorem dX7_wouldStore_44 : decode cX7_wouldStore 44 = .ok (.iconst 0, 1) := by decide +kernel
theorem dX7_wouldStore_45 : decode cX7_wouldStore 45 = .ok (.istore 5, 2) := by decide +kernel
theorem dX7_wouldStore_47 : decode cX7_wouldStore 47 = .ok (.iload 5, 2) := by decide +kernel
theorem dX7_wouldStore_49 : decode cX7_wouldStore 49 = .ok (.iload_n 2, 1) := by decide +kernel
theorem dX7_wouldStore_50 : decode cX7_wouldStore 50 = .ok (.if_icmp .ge 100, 3) := by decide +kernel
theorem dX7_wouldStore_53 : decode cX7_wouldStore 53 = .ok (.iload 4, 2) := by decide +kernel
theorem dX7_wouldStore_55 : decode cX7_wouldStore 55 = .ok (.ifCond .eq 95, 3) := by decide +kernel
theorem dX7_wouldStore_58 : decode cX7_wouldStore 58 = .ok (.aload_n 0, 1) := by decide +kernel
theorem dX7_wouldStore_59 : decode cX7_wouldStore 59 = .ok (.iload 5, 2) := by decide +kernel
theorem dX7_wouldStore_61 : decode cX7_wouldStore 61 = .ok (.invokevirtual 100, 3) := by decide +kernel
theorem dX7_wouldStore_64 : decode cX7_wouldStore 64 = .ok (.iload 5, 2) := by decide +kernel
theorem dX7_wouldStore_66 : decode cX7_wouldStore 66 = .ok (.isub, 1) := by decide +kernel
theorem dX7_wouldStore_67 : decode cX7_wouldStore 67 = .ok (.iload_n 3, 1) := by decide +kernel
theorem dX7_wouldStore_68 : decode cX7_wouldStore 68 = .ok (.if_icmp .ne 7, 3) := by decide +kernel
theorem dX7_wouldStore_71 : decode cX7_wouldStore 71 = .ok (.iconst 1, 1) := by decide +kernel
theorem dX7_wouldStore_72 : decode cX7_wouldStore 72 = .ok (.goto 4, 3) := by decide +kernel
theorem dX7_wouldStore_75 : decode cX7_wouldStore 75 = .ok (.iconst 0, 1) := by decide +kernel
theorem dX7_wouldStore_76 : decode cX7_wouldStore 76 = .ok (.istore 6, 2) := by decide +kernel
theorem dX7_wouldStore_78 : decode cX7_wouldStore 78 = .ok (.iconst 0, 1) := by decide +kernel
theorem dX7_wouldStore_79 : decode cX7_wouldStore 79 = .ok (.istore 7, 2) := by decide +kernel
theorem dX7_wouldStore_81 : decode cX7_wouldStore 81 = .ok (.iload 7, 2) := by decide +kernel
theorem dX7_wouldStore_83 : decode cX7_wouldStore 83 = .ok (.iload_n 3, 1) := by decide +kernel
theorem dX7_wouldStore_84 : decode cX7_wouldStore 84 = .ok (.if_icmp .ge 43, 3) := by decide +kernel
theorem dX7_wouldStore_87 : decode cX7_wouldStore 87 = .ok (.iload 6, 2) := by decide +kernel
theorem dX7_wouldStore_89 : decode cX7_wouldStore 89 = .ok (.ifCond .eq 38, 3) := by decide +kernel
theorem dX7_wouldStore_92 : decode cX7_wouldStore 92 = .ok (.aload_n 0, 1) := by decide +kernel
theorem dX7_wouldStore_93 : decode cX7_wouldStore 93 = .ok (.getfield 7, 3) := by decide +kernel
theorem dX7_wouldStore_96 : decode cX7_wouldStore 96 = .ok (.iload 5, 2) := by decide +kernel
theorem dX7_wouldStore_98 : decode cX7_wouldStore 98 = .ok (.iload 7, 2) := by decide +kernel
theorem dX7_wouldStore_100 : decode cX7_wouldStore 100 = .ok (.iadd, 1) := by decide +kernel
theorem dX7_wouldStore_101 : decode cX7_wouldStore 101 = .ok (.iaload, 1) := by decide +kernel
theorem dX7_wouldStore_102 : decode cX7_wouldStore 102 = .ok (.aload_n 0, 1) := by decide +kernel
theorem dX7_wouldStore_103 : decode cX7_wouldStore 103 = .ok (.getfield 7, 3) := by decide +kernel
theorem dX7_wouldStore_106 : decode cX7_wouldStore 106 = .ok (.iload_n 2, 1) := by decide +kernel
theorem dX7_wouldStore_107 : decode cX7_wouldStore 107 = .ok (.iload 7, 2) := by decide +kernel
theorem dX7_wouldStore_109 : decode cX7_wouldStore 109 = .ok (.iadd, 1) := by decide +kernel
theorem dX7_wouldStore_110 : decode cX7_wouldStore 110 = .ok (.iaload, 1) := by decide +kernel
theorem dX7_wouldStore_111 : decode cX7_wouldStore 111 = .ok (.if_icmp .ne 7, 3) := by decide +kernel
theorem dX7_wouldStore_114 : decode cX7_wouldStore 114 = .ok (.iconst 1, 1) := by decide +kernel
theorem dX7_wouldStore_115 : decode cX7_wouldStore 115 = .ok (.goto 4, 3) := by decide +kernel
theorem dX7_wouldStore_118 : decode cX7_wouldStore 118 = .ok (.iconst 0, 1) := by decide +kernel
theorem dX7_wouldStore_119 : decode cX7_wouldStore 119 = .ok (.istore 6, 2) := by decide +kernel
theorem dX7_wouldStore_121 : decode cX7_wouldStore 121 = .ok (.iinc 7 1, 3) := by decide +kernel
theorem dX7_wouldStore_124 : decode cX7_wouldStore 124 = .ok (.goto (-43), 3) := by decide +kernel
theorem dX7_wouldStore_127 : decode cX7_wouldStore 127 = .ok (.iload 6, 2) := by decide +kernel
theorem dX7_wouldStore_129 : decode cX7_wouldStore 129 = .ok (.ifCond .ne 7, 3) := by decide +kernel
theorem dX7_wouldStore_132 : decode cX7_wouldStore 132 = .ok (.iconst 1, 1) := by decide +kernel
theorem dX7_wouldStore_133 : decode cX7_wouldStore 133 = .ok (.goto 4, 3) := by decide +kernel
theorem dX7_wouldStore_136 : decode cX7_wouldStore 136 = .ok (.iconst 0, 1) := by decide +kernel
theorem dX7_wouldStore_137 : decode cX7_wouldStore 137 = .ok (.istore 4, 2) := by decide +kernel
theorem dX7_wouldStore_139 : decode cX7_wouldStore 139 = .ok (.aload_n 0, 1) := by decide +kernel
theorem dX7_wouldStore_140 : decode cX7_wouldStore 140 = .ok (.iload 5, 2) := by decide +kernel
theorem dX7_wouldStore_142 : decode cX7_wouldStore 142 = .ok (.invokevirtual 100, 3) := by decide +kernel
theorem dX7_wouldStore_145 : decode cX7_wouldStore 145 = .ok (.istore 5, 2) := by decide +kernel
theorem dX7_wouldStore_147 : decode cX7_wouldStore 147 = .ok (.goto (-100), 3) := by decide +kernel
theorem dX7_wouldStore_150 : decode cX7_wouldStore 150 = .ok (.iload_n 1, 1) := by decide +kernel
theorem dX7_wouldStore_151 : decode cX7_wouldStore 151 = .ok (.iload 4, 2) := by decide +kernel
theorem dX7_wouldStore_153 : decode cX7_wouldStore 153 = .ok (.ifCond .eq 7, 3) := by decide +kernel
theorem dX7_wouldStore_156 : decode cX7_wouldStore 156 = .ok (.iload_n 3, 1) := by decide +kernel
theorem dX7_wouldStore_157 : decode cX7_wouldStore 157 = .ok (.goto 4, 3) := by decide +kernel
theorem dX7_wouldStore_160 : decode cX7_wouldStore 160 = .ok (.iconst 0, 1) := by decide +kernel
theorem dX7_wouldStore_161 : decode cX7_wouldStore 161 = .ok (.iadd, 1) := by decide +kernel
theorem dX7_wouldStore_162 : decode cX7_wouldStore 162 = .ok (.istore_n 1, 1) := by decide +kernel
theorem dX7_wouldStore_163 : decode cX7_wouldStore 163 = .ok (.aload_n 0, 1) := by decide +kernel
theorem dX7_wouldStore_164 : decode cX7_wouldStore 164 = .ok (.iload_n 2, 1) := by decide +kernel
theorem dX7_wouldStore_165 : decode cX7_wouldStore 165 = .ok (.invokevirtual 100, 3) := by decide +kernel
theorem dX7_wouldStore_168 : decode cX7_wouldStore 168 = .ok (.istore_n 2, 1) := by decide +kernel
theorem dX7_wouldStore_169 : decode cX7_wouldStore 169 = .ok (.goto (-160), 3) := by decide +kernel
theorem dX7_wouldStore_172 : decode cX7_wouldStore 172 = .ok (.iload_n 1, 1) := by decide +kernel
theorem dX7_wouldStore_173 : decode cX7_wouldStore 173 = .ok (.ireturn, 1) := by decide +kernel
theorem dX7_forget_0 : decode cX7_forget 0 = .ok (.aload_n 0, 1) := by decide +kernel
theorem dX7_forget_1 : decode cX7_forget 1 = .ok (.iload_n 1, 1) := by decide +kernel
theorem dX7_forget_2 : decode cX7_forget 2 = .ok (.iload_n 2, 1) := by decide +kernel
theorem dX7_forget_3 : decode cX7_forget 3 = .ok (.invokevirtual 76, 3) := by decide +kernel
theorem dX7_forget_6 : decode cX7_forget 6 = .ok (.istore_n 3, 1) := by decide +kernel
theorem dX7_forget_7 : decode cX7_forget 7 = .ok (.aload_n 0, 1) := by decide +kernel
theorem dX7_forget_8 : decode cX7_forget 8 = .ok (.iload_n 3, 1) := by decide +kernel
theorem dX7_forget_9 : decode cX7_forget 9 = .ok (.iconst (-1), 1) := by decide +kernel
theorem dX7_forget_10 : decode cX7_forget 10 = .ok (.if_icmp .ne 7, 3) := by decide +kernel
theorem dX7_forget_13 : decode cX7_forget 13 = .ok (.iconst 1, 1) := by decide +kernel
theorem dX7_forget_14 : decode cX7_forget 14 = .ok (.goto 4, 3) := by decide +kernel
theorem dX7_forget_17 : decode cX7_forget 17 = .ok (.iconst 0, 1) := by decide +kernel
theorem dX7_forget_18 : decode cX7_forget 18 = .ok (.invokevirtual 68, 3) := by decide +kernel
theorem dX7_forget_21 : decode cX7_forget 21 = .ok (.ifCond .ne 5, 3) := by decide +kernel
theorem dX7_forget_24 : decode cX7_forget 24 = .ok (.iconst 0, 1) := by decide +kernel
theorem dX7_forget_25 : decode cX7_forget 25 = .ok (.ireturn, 1) := by decide +kernel
theorem dX7_forget_26 : decode cX7_forget 26 = .ok (.aload_n 0, 1) := by decide +kernel
theorem dX7_forget_27 : decode cX7_forget 27 = .ok (.getfield 13, 3) := by decide +kernel
theorem dX7_forget_30 : decode cX7_forget 30 = .ok (.iload_n 3, 1) := by decide +kernel
theorem dX7_forget_31 : decode cX7_forget 31 = .ok (.iconst (-1), 1) := by decide +kernel
theorem dX7_forget_32 : decode cX7_forget 32 = .ok (.iastore, 1) := by decide +kernel
theorem dX7_forget_33 : decode cX7_forget 33 = .ok (.iconst 0, 1) := by decide +kernel
theorem dX7_forget_34 : decode cX7_forget 34 = .ok (.istore 4, 2) := by decide +kernel
theorem dX7_forget_36 : decode cX7_forget 36 = .ok (.iload 4, 2) := by decide +kernel
theorem dX7_forget_38 : decode cX7_forget 38 = .ok (.bipush 20, 2) := by decide +kernel
theorem dX7_forget_40 : decode cX7_forget 40 = .ok (.if_icmp .ge 49, 3) := by decide +kernel
theorem dX7_forget_43 : decode cX7_forget 43 = .ok (.aload_n 0, 1) := by decide +kernel
theorem dX7_forget_44 : decode cX7_forget 44 = .ok (.getfield 22, 3) := by decide +kernel
theorem dX7_forget_47 : decode cX7_forget 47 = .ok (.iload 4, 2) := by decide +kernel
theorem dX7_forget_49 : decode cX7_forget 49 = .ok (.aload_n 0, 1) := by decide +kernel
theorem dX7_forget_50 : decode cX7_forget 50 = .ok (.getfield 13, 3) := by decide +kernel
theorem dX7_forget_53 : decode cX7_forget 53 = .ok (.iload 4, 2) := by decide +kernel
theorem dX7_forget_55 : decode cX7_forget 55 = .ok (.iaload, 1) := by decide +kernel
theorem dX7_forget_56 : decode cX7_forget 56 = .ok (.iload_n 1, 1) := by decide +kernel
theorem dX7_forget_57 : decode cX7_forget 57 = .ok (.if_icmp .ne 18, 3) := by decide +kernel
theorem dX7_forget_60 : decode cX7_forget 60 = .ok (.aload_n 0, 1) := by decide +kernel
theorem dX7_forget_61 : decode cX7_forget 61 = .ok (.getfield 22, 3) := by decide +kernel
theorem dX7_forget_64 : decode cX7_forget 64 = .ok (.iload 4, 2) := by decide +kernel
theorem dX7_forget_66 : decode cX7_forget 66 = .ok (.iaload, 1) := by decide +kernel
theorem dX7_forget_67 : decode cX7_forget 67 = .ok (.iload_n 2, 1) := by decide +kernel
theorem dX7_forget_68 : decode cX7_forget 68 = .ok (.if_icmp .ne 7, 3) := by decide +kernel
theorem dX7_forget_71 : decode cX7_forget 71 = .ok (.iconst (-1), 1) := by decide +kernel
theorem dX7_forget_72 : decode cX7_forget 72 = .ok (.goto 10, 3) := by decide +kernel
theorem dX7_forget_75 : decode cX7_forget 75 = .ok (.aload_n 0, 1) := by decide +kernel
theorem dX7_forget_76 : decode cX7_forget 76 = .ok (.getfield 22, 3) := by decide +kernel
theorem dX7_forget_79 : decode cX7_forget 79 = .ok (.iload 4, 2) := by decide +kernel
theorem dX7_forget_81 : decode cX7_forget 81 = .ok (.iaload, 1) := by decide +kernel
theorem dX7_forget_82 : decode cX7_forget 82 = .ok (.iastore, 1) := by decide +kernel
theorem dX7_forget_83 : decode cX7_forget 83 = .ok (.iinc 4 1, 3) := by decide +kernel
theorem dX7_forget_86 : decode cX7_forget 86 = .ok (.goto (-50), 3) := by decide +kernel
theorem dX7_forget_89 : decode cX7_forget 89 = .ok (.aload_n 0, 1) := by decide +kernel
theorem dX7_forget_90 : decode cX7_forget 90 = .ok (.invokevirtual 93, 3) := by decide +kernel
theorem dX7_forget_93 : decode cX7_forget 93 = .ok (.ireturn, 1) := by decide +kernel
theorem dX7_liveIn_0 : decode cX7_liveIn 0 = .ok (.iconst 0, 1) := by decide +kernel
theorem dX7_liveIn_1 : decode cX7_liveIn 1 = .ok (.istore_n 2, 1) := by decide +kernel
theorem dX7_liveIn_2 : decode cX7_liveIn 2 = .ok (.iconst 0, 1) := by decide +kernel
theorem dX7_liveIn_3 : decode cX7_liveIn 3 = .ok (.istore_n 3, 1) := by decide +kernel
theorem dX7_liveIn_4 : decode cX7_liveIn 4 = .ok (.iload_n 3, 1) := by decide +kernel
theorem dX7_liveIn_5 : decode cX7_liveIn 5 = .ok (.aload_n 0, 1) := by decide +kernel
theorem dX7_liveIn_6 : decode cX7_liveIn 6 = .ok (.getfield 80, 3) := by decide +kernel
theorem dX7_liveIn_9 : decode cX7_liveIn 9 = .ok (.if_icmp .ge 45, 3) := by decide +kernel
theorem dX7_liveIn_12 : decode cX7_liveIn 12 = .ok (.iload_n 2, 1) := by decide +kernel
theorem dX7_liveIn_13 : decode cX7_liveIn 13 = .ok (.aload_n 0, 1) := by decide +kernel
theorem dX7_liveIn_14 : decode cX7_liveIn 14 = .ok (.getfield 46, 3) := by decide +kernel
theorem dX7_liveIn_17 : decode cX7_liveIn 17 = .ok (.iload_n 3, 1) := by decide +kernel
theorem dX7_liveIn_18 : decode cX7_liveIn 18 = .ok (.iaload, 1) := by decide +kernel
theorem dX7_liveIn_19 : decode cX7_liveIn 19 = .ok (.iload_n 1, 1) := by decide +kernel
theorem dX7_liveIn_20 : decode cX7_liveIn 20 = .ok (.if_icmp .ne 25, 3) := by decide +kernel
theorem dX7_liveIn_23 : decode cX7_liveIn 23 = .ok (.aload_n 0, 1) := by decide +kernel
theorem dX7_liveIn_24 : decode cX7_liveIn 24 = .ok (.aload_n 0, 1) := by decide +kernel
theorem dX7_liveIn_25 : decode cX7_liveIn 25 = .ok (.getfield 37, 3) := by decide +kernel
theorem dX7_liveIn_28 : decode cX7_liveIn 28 = .ok (.iload_n 3, 1) := by decide +kernel
theorem dX7_liveIn_29 : decode cX7_liveIn 29 = .ok (.iaload, 1) := by decide +kernel
theorem dX7_liveIn_30 : decode cX7_liveIn 30 = .ok (.invokevirtual 134, 3) := by decide +kernel
theorem dX7_liveIn_33 : decode cX7_liveIn 33 = .ok (.ifCond .le 12, 3) := by decide +kernel
theorem dX7_liveIn_36 : decode cX7_liveIn 36 = .ok (.aload_n 0, 1) := by decide +kernel
theorem dX7_liveIn_37 : decode cX7_liveIn 37 = .ok (.getfield 43, 3) := by decide +kernel
theorem dX7_liveIn_40 : decode cX7_liveIn 40 = .ok (.iload_n 3, 1) := by decide +kernel
theorem dX7_liveIn_41 : decode cX7_liveIn 41 = .ok (.iaload, 1) := by decide +kernel
theorem dX7_liveIn_42 : decode cX7_liveIn 42 = .ok (.goto 4, 3) := by decide +kernel
theorem dX7_liveIn_45 : decode cX7_liveIn 45 = .ok (.iconst 0, 1) := by decide +kernel
theorem dX7_liveIn_46 : decode cX7_liveIn 46 = .ok (.iadd, 1) := by decide +kernel
theorem dX7_liveIn_47 : decode cX7_liveIn 47 = .ok (.istore_n 2, 1) := by decide +kernel
theorem dX7_liveIn_48 : decode cX7_liveIn 48 = .ok (.iinc 3 1, 3) := by decide +kernel
theorem dX7_liveIn_51 : decode cX7_liveIn 51 = .ok (.goto (-47), 3) := by decide +kernel
theorem dX7_liveIn_54 : decode cX7_liveIn 54 = .ok (.iload_n 2, 1) := by decide +kernel
theorem dX7_liveIn_55 : decode cX7_liveIn 55 = .ok (.ireturn, 1) := by decide +kernel
theorem dX7_collect_0 : decode cX7_collect 0 = .ok (.aload_n 0, 1) := by decide +kernel
theorem dX7_collect_1 : decode cX7_collect 1 = .ok (.iconst 0, 1) := by decide +kernel
theorem dX7_collect_2 : decode cX7_collect 2 = .ok (.putfield 57, 3) := by decide +kernel
theorem dX7_collect_5 : decode cX7_collect 5 = .ok (.iconst 0, 1) := by decide +kernel
theorem dX7_collect_6 : decode cX7_collect 6 = .ok (.istore_n 1, 1) := by decide +kernel
theorem dX7_collect_7 : decode cX7_collect 7 = .ok (.aload_n 0, 1) := by decide +kernel
theorem dX7_collect_8 : decode cX7_collect 8 = .ok (.getfield 83, 3) := by decide +kernel
theorem dX7_collect_11 : decode cX7_collect 11 = .ok (.istore_n 2, 1) := by decide +kernel
theorem dX7_collect_12 : decode cX7_collect 12 = .ok (.iconst 0, 1) := by decide +kernel
theorem dX7_collect_13 : decode cX7_collect 13 = .ok (.istore_n 3, 1) := by decide +kernel
theorem dX7_collect_14 : decode cX7_collect 14 = .ok (.iload_n 3, 1) := by decide +kernel
theorem dX7_collect_15 : decode cX7_collect 15 = .ok (.iload_n 2, 1) := by decide +kernel
theorem dX7_collect_16 : decode cX7_collect 16 = .ok (.if_icmp .ge 128, 3) := by decide +kernel
theorem dX7_collect_19 : decode cX7_collect 19 = .ok (.aload_n 0, 1) := by decide +kernel
theorem dX7_collect_20 : decode cX7_collect 20 = .ok (.iload_n 3, 1) := by decide +kernel
theorem dX7_collect_21 : decode cX7_collect 21 = .ok (.invokevirtual 137, 3) := by decide +kernel
theorem dX7_collect_24 : decode cX7_collect 24 = .ok (.istore 4, 2) := by decide +kernel
theorem dX7_collect_26 : decode cX7_collect 26 = .ok (.iconst 2, 1) := by decide +kernel
theorem dX7_collect_27 : decode cX7_collect 27 = .ok (.iload 4, 2) := by decide +kernel
theorem dX7_collect_29 : decode cX7_collect 29 = .ok (.imul, 1) := by decide +kernel
theorem dX7_collect_30 : decode cX7_collect 30 = .ok (.aload_n 0, 1) := by decide +kernel
theorem dX7_collect_31 : decode cX7_collect 31 = .ok (.iload_n 3, 1) := by decide +kernel
theorem dX7_collect_32 : decode cX7_collect 32 = .ok (.invokevirtual 86, 3) := by decide +kernel
theorem dX7_collect_35 : decode cX7_collect 35 = .ok (.if_icmp .ge 103, 3) := by decide +kernel
theorem dX7_collect_38 : decode cX7_collect 38 = .ok (.iload_n 1, 1) := by decide +kernel
theorem dX7_collect_39 : decode cX7_collect 39 = .ok (.aload_n 0, 1) := by decide +kernel
theorem dX7_collect_40 : decode cX7_collect 40 = .ok (.iload_n 3, 1) := by decide +kernel
theorem dX7_collect_41 : decode cX7_collect 41 = .ok (.invokevirtual 86, 3) := by decide +kernel
theorem dX7_collect_44 : decode cX7_collect 44 = .ok (.iload 4, 2) := by decide +kernel
theorem dX7_collect_46 : decode cX7_collect 46 = .ok (.isub, 1) := by decide +kernel
theorem dX7_collect_47 : decode cX7_collect 47 = .ok (.iadd, 1) := by decide +kernel
theorem dX7_collect_48 : decode cX7_collect 48 = .ok (.istore_n 1, 1) := by decide +kernel
theorem dX7_collect_49 : decode cX7_collect 49 = .ok (.iconst 0, 1) := by decide +kernel
theorem dX7_collect_50 : decode cX7_collect 50 = .ok (.istore 5, 2) := by decide +kernel
theorem dX7_collect_52 : decode cX7_collect 52 = .ok (.iload 5, 2) := by decide +kernel
theorem dX7_collect_54 : decode cX7_collect 54 = .ok (.aload_n 0, 1) := by decide +kernel
theorem dX7_collect_55 : decode cX7_collect 55 = .ok (.getfield 80, 3) := by decide +kernel
theorem dX7_collect_58 : decode cX7_collect 58 = .ok (.if_icmp .ge 75, 3) := by decide +kernel
theorem dX7_collect_61 : decode cX7_collect 61 = .ok (.aload_n 0, 1) := by decide +kernel
theorem dX7_collect_62 : decode cX7_collect 62 = .ok (.getfield 46, 3) := by decide +kernel
theorem dX7_collect_65 : decode cX7_collect 65 = .ok (.iload 5, 2) := by decide +kernel
theorem dX7_collect_67 : decode cX7_collect 67 = .ok (.iaload, 1) := by decide +kernel
theorem dX7_collect_68 : decode cX7_collect 68 = .ok (.iload_n 3, 1) := by decide +kernel
theorem dX7_collect_69 : decode cX7_collect 69 = .ok (.if_icmp .eq 9, 3) := by decide +kernel
theorem dX7_collect_72 : decode cX7_collect 72 = .ok (.iinc 5 1, 3) := by decide +kernel
theorem dX7_collect_75 : decode cX7_collect 75 = .ok (.goto (-23), 3) := by decide +kernel
theorem dX7_collect_78 : decode cX7_collect 78 = .ok (.aload_n 0, 1) := by decide +kernel
theorem dX7_collect_79 : decode cX7_collect 79 = .ok (.getfield 37, 3) := by decide +kernel
theorem dX7_collect_82 : decode cX7_collect 82 = .ok (.iload 5, 2) := by decide +kernel
theorem dX7_collect_84 : decode cX7_collect 84 = .ok (.iaload, 1) := by decide +kernel
theorem dX7_collect_85 : decode cX7_collect 85 = .ok (.istore 6, 2) := by decide +kernel
theorem dX7_collect_87 : decode cX7_collect 87 = .ok (.aload_n 0, 1) := by decide +kernel
theorem dX7_collect_88 : decode cX7_collect 88 = .ok (.getfield 40, 3) := by decide +kernel
theorem dX7_collect_91 : decode cX7_collect 91 = .ok (.iload 5, 2) := by decide +kernel
theorem dX7_collect_93 : decode cX7_collect 93 = .ok (.iaload, 1) := by decide +kernel
theorem dX7_collect_94 : decode cX7_collect 94 = .ok (.istore 7, 2) := by decide +kernel
theorem dX7_collect_96 : decode cX7_collect 96 = .ok (.aload_n 0, 1) := by decide +kernel
theorem dX7_collect_97 : decode cX7_collect 97 = .ok (.getfield 43, 3) := by decide +kernel
theorem dX7_collect_100 : decode cX7_collect 100 = .ok (.iload 5, 2) := by decide +kernel
theorem dX7_collect_102 : decode cX7_collect 102 = .ok (.iaload, 1) := by decide +kernel
theorem dX7_collect_103 : decode cX7_collect 103 = .ok (.istore 8, 2) := by decide +kernel
theorem dX7_collect_105 : decode cX7_collect 105 = .ok (.aload_n 0, 1) := by decide +kernel
theorem dX7_collect_106 : decode cX7_collect 106 = .ok (.iload 5, 2) := by decide +kernel
theorem dX7_collect_108 : decode cX7_collect 108 = .ok (.invokevirtual 140, 3) := by decide +kernel
theorem dX7_collect_111 : decode cX7_collect 111 = .ok (.aload_n 0, 1) := by decide +kernel
theorem dX7_collect_112 : decode cX7_collect 112 = .ok (.iload 6, 2) := by decide +kernel
theorem dX7_collect_114 : decode cX7_collect 114 = .ok (.invokevirtual 134, 3) := by decide +kernel
theorem dX7_collect_117 : decode cX7_collect 117 = .ok (.ifCond .le 13, 3) := by decide +kernel
theorem dX7_collect_120 : decode cX7_collect 120 = .ok (.aload_n 0, 1) := by decide +kernel
theorem dX7_collect_121 : decode cX7_collect 121 = .ok (.iload 6, 2) := by decide +kernel
theorem dX7_collect_123 : decode cX7_collect 123 = .ok (.iload 7, 2) := by decide +kernel
theorem dX7_collect_125 : decode cX7_collect 125 = .ok (.iload 8, 2) := by decide +kernel
theorem dX7_collect_127 : decode cX7_collect 127 = .ok (.invokevirtual 121, 3) := by decide +kernel
theorem dX7_collect_130 : decode cX7_collect 130 = .ok (.goto (-78), 3) := by decide +kernel
theorem dX7_collect_133 : decode cX7_collect 133 = .ok (.aload_n 0, 1) := by decide +kernel
theorem dX7_collect_134 : decode cX7_collect 134 = .ok (.iload_n 3, 1) := by decide +kernel
theorem dX7_collect_135 : decode cX7_collect 135 = .ok (.invokevirtual 90, 3) := by decide +kernel
theorem dX7_collect_138 : decode cX7_collect 138 = .ok (.iinc 3 1, 3) := by decide +kernel
theorem dX7_collect_141 : decode cX7_collect 141 = .ok (.goto (-127), 3) := by decide +kernel
theorem dX7_collect_144 : decode cX7_collect 144 = .ok (.iload_n 1, 1) := by decide +kernel
theorem dX7_collect_145 : decode cX7_collect 145 = .ok (.ireturn, 1) := by decide +kernel
theorem dX7_versions_0 : decode cX7_versions 0 = .ok (.aload_n 0, 1) := by decide +kernel
theorem dX7_versions_1 : decode cX7_versions 1 = .ok (.iconst 0, 1) := by decide +kernel
theorem dX7_versions_2 : decode cX7_versions 2 = .ok (.putfield 57, 3) := by decide +kernel
theorem dX7_versions_5 : decode cX7_versions 5 = .ok (.aload_n 0, 1) := by decide +kernel
theorem dX7_versions_6 : decode cX7_versions 6 = .ok (.invokevirtual 93, 3) := by decide +kernel
theorem dX7_versions_9 : decode cX7_versions 9 = .ok (.ireturn, 1) := by decide +kernel
theorem dX7_isKept_0 : decode cX7_isKept 0 = .ok (.aload_n 0, 1) := by decide +kernel
theorem dX7_isKept_1 : decode cX7_isKept 1 = .ok (.iload_n 1, 1) := by decide +kernel
theorem dX7_isKept_2 : decode cX7_isKept 2 = .ok (.iconst 0, 1) := by decide +kernel
theorem dX7_isKept_3 : decode cX7_isKept 3 = .ok (.iconst 5, 1) := by decide +kernel
theorem dX7_isKept_4 : decode cX7_isKept 4 = .ok (.invokestatic 64, 3) := by decide +kernel
theorem dX7_isKept_7 : decode cX7_isKept 7 = .ok (.ifCond .eq 7, 3) := by decide +kernel
theorem dX7_isKept_10 : decode cX7_isKept 10 = .ok (.iconst 0, 1) := by decide +kernel
theorem dX7_isKept_11 : decode cX7_isKept 11 = .ok (.goto 4, 3) := by decide +kernel
theorem dX7_isKept_14 : decode cX7_isKept 14 = .ok (.iconst 1, 1) := by decide +kernel
theorem dX7_isKept_15 : decode cX7_isKept 15 = .ok (.invokevirtual 68, 3) := by decide +kernel
theorem dX7_isKept_18 : decode cX7_isKept 18 = .ok (.ifCond .eq 17, 3) := by decide +kernel
theorem dX7_isKept_21 : decode cX7_isKept 21 = .ok (.aload_n 0, 1) := by decide +kernel
theorem dX7_isKept_22 : decode cX7_isKept 22 = .ok (.iload_n 1, 1) := by decide +kernel
theorem dX7_isKept_23 : decode cX7_isKept 23 = .ok (.iload_n 2, 1) := by decide +kernel
theorem dX7_isKept_24 : decode cX7_isKept 24 = .ok (.invokevirtual 76, 3) := by decide +kernel
theorem dX7_isKept_27 : decode cX7_isKept 27 = .ok (.iconst (-1), 1) := by decide +kernel
theorem dX7_isKept_28 : decode cX7_isKept 28 = .ok (.if_icmp .eq 7, 3) := by decide +kernel
theorem dX7_isKept_31 : decode cX7_isKept 31 = .ok (.iconst 1, 1) := by decide +kernel
theorem dX7_isKept_32 : decode cX7_isKept 32 = .ok (.goto 4, 3) := by decide +kernel
theorem dX7_isKept_35 : decode cX7_isKept 35 = .ok (.iconst 0, 1) := by decide +kernel
theorem dX7_isKept_36 : decode cX7_isKept 36 = .ok (.ireturn, 1) := by decide +kernel
theorem dX7_latest_0 : decode cX7_latest 0 = .ok (.aload_n 0, 1) := by decide +kernel
theorem dX7_latest_1 : decode cX7_latest 1 = .ok (.iload_n 1, 1) := by decide +kernel
theorem dX7_latest_2 : decode cX7_latest 2 = .ok (.iconst 0, 1) := by decide +kernel
theorem dX7_latest_3 : decode cX7_latest 3 = .ok (.iconst 5, 1) := by decide +kernel
theorem dX7_latest_4 : decode cX7_latest 4 = .ok (.invokestatic 64, 3) := by decide +kernel
theorem dX7_latest_7 : decode cX7_latest 7 = .ok (.ifCond .eq 7, 3) := by decide +kernel
theorem dX7_latest_10 : decode cX7_latest 10 = .ok (.iconst 0, 1) := by decide +kernel
theorem dX7_latest_11 : decode cX7_latest 11 = .ok (.goto 4, 3) := by decide +kernel
theorem dX7_latest_14 : decode cX7_latest 14 = .ok (.iconst 1, 1) := by decide +kernel
theorem dX7_latest_15 : decode cX7_latest 15 = .ok (.invokevirtual 68, 3) := by decide +kernel
theorem dX7_latest_18 : decode cX7_latest 18 = .ok (.ifCond .eq 11, 3) := by decide +kernel
theorem dX7_latest_21 : decode cX7_latest 21 = .ok (.aload_n 0, 1) := by decide +kernel
theorem dX7_latest_22 : decode cX7_latest 22 = .ok (.iload_n 1, 1) := by decide +kernel
theorem dX7_latest_23 : decode cX7_latest 23 = .ok (.invokevirtual 97, 3) := by decide +kernel
theorem dX7_latest_26 : decode cX7_latest 26 = .ok (.goto 4, 3) := by decide +kernel
theorem dX7_latest_29 : decode cX7_latest 29 = .ok (.iconst 0, 1) := by decide +kernel
theorem dX7_latest_30 : decode cX7_latest 30 = .ok (.ireturn, 1) := by decide +kernel
theorem dX7_isVersion_0 : decode cX7_isVersion 0 = .ok (.aload_n 0, 1) := by decide +kernel
theorem dX7_isVersion_1 : decode cX7_isVersion 1 = .ok (.aload_n 0, 1) := by decide +kernel
theorem dX7_isVersion_2 : decode cX7_isVersion 2 = .ok (.iload_n 1, 1) := by decide +kernel
theorem dX7_isVersion_3 : decode cX7_isVersion 3 = .ok (.iload_n 2, 1) := by decide +kernel
theorem dX7_isVersion_4 : decode cX7_isVersion 4 = .ok (.invokevirtual 76, 3) := by decide +kernel
theorem dX7_isVersion_7 : decode cX7_isVersion 7 = .ok (.iconst (-1), 1) := by decide +kernel
theorem dX7_isVersion_8 : decode cX7_isVersion 8 = .ok (.if_icmp .ne 7, 3) := by decide +kernel
theorem dX7_isVersion_11 : decode cX7_isVersion 11 = .ok (.iconst 1, 1) := by decide +kernel
theorem dX7_isVersion_12 : decode cX7_isVersion 12 = .ok (.goto 4, 3) := by decide +kernel
theorem dX7_isVersion_15 : decode cX7_isVersion 15 = .ok (.iconst 0, 1) := by decide +kernel
theorem dX7_isVersion_16 : decode cX7_isVersion 16 = .ok (.invokevirtual 68, 3) := by decide +kernel
theorem dX7_isVersion_19 : decode cX7_isVersion 19 = .ok (.ireturn, 1) := by decide +kernel
theorem dX7_length_0 : decode cX7_length 0 = .ok (.aload_n 0, 1) := by decide +kernel
theorem dX7_length_1 : decode cX7_length 1 = .ok (.iload_n 1, 1) := by decide +kernel
theorem dX7_length_2 : decode cX7_length 2 = .ok (.iload_n 2, 1) := by decide +kernel
theorem dX7_length_3 : decode cX7_length 3 = .ok (.invokevirtual 143, 3) := by decide +kernel
theorem dX7_length_6 : decode cX7_length 6 = .ok (.ifCond .eq 17, 3) := by decide +kernel
theorem dX7_length_9 : decode cX7_length 9 = .ok (.aload_n 0, 1) := by decide +kernel
theorem dX7_length_10 : decode cX7_length 10 = .ok (.getfield 19, 3) := by decide +kernel
theorem dX7_length_13 : decode cX7_length 13 = .ok (.aload_n 0, 1) := by decide +kernel
theorem dX7_length_14 : decode cX7_length 14 = .ok (.iload_n 1, 1) := by decide +kernel
theorem dX7_length_15 : decode cX7_length 15 = .ok (.iload_n 2, 1) := by decide +kernel
theorem dX7_length_16 : decode cX7_length 16 = .ok (.invokevirtual 76, 3) := by decide +kernel
theorem dX7_length_19 : decode cX7_length 19 = .ok (.iaload, 1) := by decide +kernel
theorem dX7_length_20 : decode cX7_length 20 = .ok (.goto 4, 3) := by decide +kernel
theorem dX7_length_23 : decode cX7_length 23 = .ok (.iconst 0, 1) := by decide +kernel
theorem dX7_length_24 : decode cX7_length 24 = .ok (.ireturn, 1) := by decide +kernel
theorem dX7_restored_0 : decode cX7_restored 0 = .ok (.iload_n 2, 1) := by decide +kernel
theorem dX7_restored_1 : decode cX7_restored 1 = .ok (.istore_n 3, 1) := by decide +kernel
theorem dX7_restored_2 : decode cX7_restored 2 = .ok (.iconst 0, 1) := by decide +kernel
theorem dX7_restored_3 : decode cX7_restored 3 = .ok (.istore 4, 2) := by decide +kernel
theorem dX7_restored_5 : decode cX7_restored 5 = .ok (.aload_n 0, 1) := by decide +kernel
theorem dX7_restored_6 : decode cX7_restored 6 = .ok (.aload_n 0, 1) := by decide +kernel
theorem dX7_restored_7 : decode cX7_restored 7 = .ok (.getfield 28, 3) := by decide +kernel
theorem dX7_restored_10 : decode cX7_restored 10 = .ok (.bipush 30, 2) := by decide +kernel
theorem dX7_restored_12 : decode cX7_restored 12 = .ok (.iload_n 1, 1) := by decide +kernel
theorem dX7_restored_13 : decode cX7_restored 13 = .ok (.imul, 1) := by decide +kernel
theorem dX7_restored_14 : decode cX7_restored 14 = .ok (.iaload, 1) := by decide +kernel
theorem dX7_restored_15 : decode cX7_restored 15 = .ok (.invokevirtual 147, 3) := by decide +kernel
theorem dX7_restored_18 : decode cX7_restored 18 = .ok (.istore 5, 2) := by decide +kernel
theorem dX7_restored_20 : decode cX7_restored 20 = .ok (.iload_n 3, 1) := by decide +kernel
theorem dX7_restored_21 : decode cX7_restored 21 = .ok (.aload_n 0, 1) := by decide +kernel
theorem dX7_restored_22 : decode cX7_restored 22 = .ok (.getfield 43, 3) := by decide +kernel
theorem dX7_restored_25 : decode cX7_restored 25 = .ok (.iload 5, 2) := by decide +kernel
theorem dX7_restored_27 : decode cX7_restored 27 = .ok (.iaload, 1) := by decide +kernel
theorem dX7_restored_28 : decode cX7_restored 28 = .ok (.if_icmp .lt 37, 3) := by decide +kernel
theorem dX7_restored_31 : decode cX7_restored 31 = .ok (.iload_n 3, 1) := by decide +kernel
theorem dX7_restored_32 : decode cX7_restored 32 = .ok (.aload_n 0, 1) := by decide +kernel
theorem dX7_restored_33 : decode cX7_restored 33 = .ok (.getfield 43, 3) := by decide +kernel
theorem dX7_restored_36 : decode cX7_restored 36 = .ok (.iload 5, 2) := by decide +kernel
theorem dX7_restored_38 : decode cX7_restored 38 = .ok (.iaload, 1) := by decide +kernel
theorem dX7_restored_39 : decode cX7_restored 39 = .ok (.isub, 1) := by decide +kernel
theorem dX7_restored_40 : decode cX7_restored 40 = .ok (.istore_n 3, 1) := by decide +kernel
theorem dX7_restored_41 : decode cX7_restored 41 = .ok (.iinc 4 1, 3) := by decide +kernel
theorem dX7_restored_44 : decode cX7_restored 44 = .ok (.aload_n 0, 1) := by decide +kernel
theorem dX7_restored_45 : decode cX7_restored 45 = .ok (.aload_n 0, 1) := by decide +kernel
theorem dX7_restored_46 : decode cX7_restored 46 = .ok (.getfield 28, 3) := by decide +kernel
theorem dX7_restored_49 : decode cX7_restored 49 = .ok (.bipush 30, 2) := by decide +kernel
theorem dX7_restored_51 : decode cX7_restored 51 = .ok (.iload_n 1, 1) := by decide +kernel
theorem dX7_restored_52 : decode cX7_restored 52 = .ok (.imul, 1) := by decide +kernel
theorem dX7_restored_53 : decode cX7_restored 53 = .ok (.iload 4, 2) := by decide +kernel
theorem dX7_restored_55 : decode cX7_restored 55 = .ok (.iadd, 1) := by decide +kernel
theorem dX7_restored_56 : decode cX7_restored 56 = .ok (.iaload, 1) := by decide +kernel
theorem dX7_restored_57 : decode cX7_restored 57 = .ok (.invokevirtual 147, 3) := by decide +kernel
theorem dX7_restored_60 : decode cX7_restored 60 = .ok (.istore 5, 2) := by decide +kernel
theorem dX7_restored_62 : decode cX7_restored 62 = .ok (.goto (-42), 3) := by decide +kernel
theorem dX7_restored_65 : decode cX7_restored 65 = .ok (.aload_n 0, 1) := by decide +kernel
theorem dX7_restored_66 : decode cX7_restored 66 = .ok (.getfield 50, 3) := by decide +kernel
theorem dX7_restored_69 : decode cX7_restored 69 = .ok (.aload_n 0, 1) := by decide +kernel
theorem dX7_restored_70 : decode cX7_restored 70 = .ok (.getfield 40, 3) := by decide +kernel
theorem dX7_restored_73 : decode cX7_restored 73 = .ok (.iload 5, 2) := by decide +kernel
theorem dX7_restored_75 : decode cX7_restored 75 = .ok (.iaload, 1) := by decide +kernel
theorem dX7_restored_76 : decode cX7_restored 76 = .ok (.iload_n 3, 1) := by decide +kernel
theorem dX7_restored_77 : decode cX7_restored 77 = .ok (.iadd, 1) := by decide +kernel
theorem dX7_restored_78 : decode cX7_restored 78 = .ok (.baload, 1) := by decide +kernel
theorem dX7_restored_79 : decode cX7_restored 79 = .ok (.sipush 255, 3) := by decide +kernel
theorem dX7_restored_82 : decode cX7_restored 82 = .ok (.iand, 1) := by decide +kernel
theorem dX7_restored_83 : decode cX7_restored 83 = .ok (.ireturn, 1) := by decide +kernel
theorem dX7_isByte_0 : decode cX7_isByte 0 = .ok (.aload_n 0, 1) := by decide +kernel
theorem dX7_isByte_1 : decode cX7_isByte 1 = .ok (.iload_n 1, 1) := by decide +kernel
theorem dX7_isByte_2 : decode cX7_isByte 2 = .ok (.iload_n 2, 1) := by decide +kernel
theorem dX7_isByte_3 : decode cX7_isByte 3 = .ok (.invokevirtual 76, 3) := by decide +kernel
theorem dX7_isByte_6 : decode cX7_isByte 6 = .ok (.istore 4, 2) := by decide +kernel
theorem dX7_isByte_8 : decode cX7_isByte 8 = .ok (.aload_n 0, 1) := by decide +kernel
theorem dX7_isByte_9 : decode cX7_isByte 9 = .ok (.iload 4, 2) := by decide +kernel
theorem dX7_isByte_11 : decode cX7_isByte 11 = .ok (.iconst (-1), 1) := by decide +kernel
theorem dX7_isByte_12 : decode cX7_isByte 12 = .ok (.if_icmp .eq 20, 3) := by decide +kernel
theorem dX7_isByte_15 : decode cX7_isByte 15 = .ok (.iload_n 3, 1) := by decide +kernel
theorem dX7_isByte_16 : decode cX7_isByte 16 = .ok (.iconst 0, 1) := by decide +kernel
theorem dX7_isByte_17 : decode cX7_isByte 17 = .ok (.aload_n 0, 1) := by decide +kernel
theorem dX7_isByte_18 : decode cX7_isByte 18 = .ok (.getfield 19, 3) := by decide +kernel
theorem dX7_isByte_21 : decode cX7_isByte 21 = .ok (.iload 4, 2) := by decide +kernel
theorem dX7_isByte_23 : decode cX7_isByte 23 = .ok (.iaload, 1) := by decide +kernel
theorem dX7_isByte_24 : decode cX7_isByte 24 = .ok (.iconst 1, 1) := by decide +kernel
theorem dX7_isByte_25 : decode cX7_isByte 25 = .ok (.isub, 1) := by decide +kernel
theorem dX7_isByte_26 : decode cX7_isByte 26 = .ok (.invokestatic 64, 3) := by decide +kernel
theorem dX7_isByte_29 : decode cX7_isByte 29 = .ok (.ifCond .ne 7, 3) := by decide +kernel
theorem dX7_isByte_32 : decode cX7_isByte 32 = .ok (.iconst 1, 1) := by decide +kernel
theorem dX7_isByte_33 : decode cX7_isByte 33 = .ok (.goto 4, 3) := by decide +kernel
theorem dX7_isByte_36 : decode cX7_isByte 36 = .ok (.iconst 0, 1) := by decide +kernel
theorem dX7_isByte_37 : decode cX7_isByte 37 = .ok (.invokevirtual 68, 3) := by decide +kernel
theorem dX7_isByte_40 : decode cX7_isByte 40 = .ok (.ireturn, 1) := by decide +kernel
theorem dX7_byteAt_0 : decode cX7_byteAt 0 = .ok (.aload_n 0, 1) := by decide +kernel
theorem dX7_byteAt_1 : decode cX7_byteAt 1 = .ok (.iload_n 1, 1) := by decide +kernel
theorem dX7_byteAt_2 : decode cX7_byteAt 2 = .ok (.iload_n 2, 1) := by decide +kernel
theorem dX7_byteAt_3 : decode cX7_byteAt 3 = .ok (.iload_n 3, 1) := by decide +kernel
theorem dX7_byteAt_4 : decode cX7_byteAt 4 = .ok (.invokevirtual 150, 3) := by decide +kernel
theorem dX7_byteAt_7 : decode cX7_byteAt 7 = .ok (.ifCond .eq 17, 3) := by decide +kernel
theorem dX7_byteAt_10 : decode cX7_byteAt 10 = .ok (.aload_n 0, 1) := by decide +kernel
theorem dX7_byteAt_11 : decode cX7_byteAt 11 = .ok (.aload_n 0, 1) := by decide +kernel
theorem dX7_byteAt_12 : decode cX7_byteAt 12 = .ok (.iload_n 1, 1) := by decide +kernel
theorem dX7_byteAt_13 : decode cX7_byteAt 13 = .ok (.iload_n 2, 1) := by decide +kernel
theorem dX7_byteAt_14 : decode cX7_byteAt 14 = .ok (.invokevirtual 76, 3) := by decide +kernel
theorem dX7_byteAt_17 : decode cX7_byteAt 17 = .ok (.iload_n 3, 1) := by decide +kernel
theorem dX7_byteAt_18 : decode cX7_byteAt 18 = .ok (.invokevirtual 153, 3) := by decide +kernel
theorem dX7_byteAt_21 : decode cX7_byteAt 21 = .ok (.goto 4, 3) := by decide +kernel
theorem dX7_byteAt_24 : decode cX7_byteAt 24 = .ok (.iconst 0, 1) := by decide +kernel
theorem dX7_byteAt_25 : decode cX7_byteAt 25 = .ok (.ireturn, 1) := by decide +kernel
theorem dX7_byteByCopy_0 : decode cX7_byteByCopy 0 = .ok (.aload_n 0, 1) := by decide +kernel
theorem dX7_byteByCopy_1 : decode cX7_byteByCopy 1 = .ok (.iload_n 1, 1) := by decide +kernel
theorem dX7_byteByCopy_2 : decode cX7_byteByCopy 2 = .ok (.iload_n 2, 1) := by decide +kernel
theorem dX7_byteByCopy_3 : decode cX7_byteByCopy 3 = .ok (.iload_n 3, 1) := by decide +kernel
theorem dX7_byteByCopy_4 : decode cX7_byteByCopy 4 = .ok (.invokevirtual 150, 3) := by decide +kernel
theorem dX7_byteByCopy_7 : decode cX7_byteByCopy 7 = .ok (.ifCond .eq 23, 3) := by decide +kernel
theorem dX7_byteByCopy_10 : decode cX7_byteByCopy 10 = .ok (.aload_n 0, 1) := by decide +kernel
theorem dX7_byteByCopy_11 : decode cX7_byteByCopy 11 = .ok (.getfield 31, 3) := by decide +kernel
theorem dX7_byteByCopy_14 : decode cX7_byteByCopy 14 = .ok (.sipush 240, 3) := by decide +kernel
theorem dX7_byteByCopy_17 : decode cX7_byteByCopy 17 = .ok (.aload_n 0, 1) := by decide +kernel
theorem dX7_byteByCopy_18 : decode cX7_byteByCopy 18 = .ok (.iload_n 1, 1) := by decide +kernel
theorem dX7_byteByCopy_19 : decode cX7_byteByCopy 19 = .ok (.iload_n 2, 1) := by decide +kernel
theorem dX7_byteByCopy_20 : decode cX7_byteByCopy 20 = .ok (.invokevirtual 76, 3) := by decide +kernel
theorem dX7_byteByCopy_23 : decode cX7_byteByCopy 23 = .ok (.imul, 1) := by decide +kernel
theorem dX7_byteByCopy_24 : decode cX7_byteByCopy 24 = .ok (.iload_n 3, 1) := by decide +kernel
theorem dX7_byteByCopy_25 : decode cX7_byteByCopy 25 = .ok (.iadd, 1) := by decide +kernel
theorem dX7_byteByCopy_26 : decode cX7_byteByCopy 26 = .ok (.iaload, 1) := by decide +kernel
theorem dX7_byteByCopy_27 : decode cX7_byteByCopy 27 = .ok (.goto 4, 3) := by decide +kernel
theorem dX7_byteByCopy_30 : decode cX7_byteByCopy 30 = .ok (.iconst 0, 1) := by decide +kernel
theorem dX7_byteByCopy_31 : decode cX7_byteByCopy 31 = .ok (.ireturn, 1) := by decide +kernel
theorem dX7_chunksOf_0 : decode cX7_chunksOf 0 = .ok (.aload_n 0, 1) := by decide +kernel
theorem dX7_chunksOf_1 : decode cX7_chunksOf 1 = .ok (.iload_n 1, 1) := by decide +kernel
theorem dX7_chunksOf_2 : decode cX7_chunksOf 2 = .ok (.iload_n 2, 1) := by decide +kernel
theorem dX7_chunksOf_3 : decode cX7_chunksOf 3 = .ok (.invokevirtual 143, 3) := by decide +kernel
theorem dX7_chunksOf_6 : decode cX7_chunksOf 6 = .ok (.ifCond .eq 17, 3) := by decide +kernel
theorem dX7_chunksOf_9 : decode cX7_chunksOf 9 = .ok (.aload_n 0, 1) := by decide +kernel
theorem dX7_chunksOf_10 : decode cX7_chunksOf 10 = .ok (.getfield 25, 3) := by decide +kernel
theorem dX7_chunksOf_13 : decode cX7_chunksOf 13 = .ok (.aload_n 0, 1) := by decide +kernel
theorem dX7_chunksOf_14 : decode cX7_chunksOf 14 = .ok (.iload_n 1, 1) := by decide +kernel
theorem dX7_chunksOf_15 : decode cX7_chunksOf 15 = .ok (.iload_n 2, 1) := by decide +kernel
theorem dX7_chunksOf_16 : decode cX7_chunksOf 16 = .ok (.invokevirtual 76, 3) := by decide +kernel
theorem dX7_chunksOf_19 : decode cX7_chunksOf 19 = .ok (.iaload, 1) := by decide +kernel
theorem dX7_chunksOf_20 : decode cX7_chunksOf 20 = .ok (.goto 4, 3) := by decide +kernel
theorem dX7_chunksOf_23 : decode cX7_chunksOf 23 = .ok (.iconst 0, 1) := by decide +kernel
theorem dX7_chunksOf_24 : decode cX7_chunksOf 24 = .ok (.ireturn, 1) := by decide +kernel
theorem dX7_chunkAt_0 : decode cX7_chunkAt 0 = .ok (.aload_n 0, 1) := by decide +kernel
theorem dX7_chunkAt_1 : decode cX7_chunkAt 1 = .ok (.iload_n 1, 1) := by decide +kernel
theorem dX7_chunkAt_2 : decode cX7_chunkAt 2 = .ok (.iload_n 2, 1) := by decide +kernel
theorem dX7_chunkAt_3 : decode cX7_chunkAt 3 = .ok (.invokevirtual 76, 3) := by decide +kernel
theorem dX7_chunkAt_6 : decode cX7_chunkAt 6 = .ok (.istore 4, 2) := by decide +kernel
theorem dX7_chunkAt_8 : decode cX7_chunkAt 8 = .ok (.aload_n 0, 1) := by decide +kernel
theorem dX7_chunkAt_9 : decode cX7_chunkAt 9 = .ok (.iload 4, 2) := by decide +kernel
theorem dX7_chunkAt_11 : decode cX7_chunkAt 11 = .ok (.iconst (-1), 1) := by decide +kernel
theorem dX7_chunkAt_12 : decode cX7_chunkAt 12 = .ok (.if_icmp .eq 20, 3) := by decide +kernel
theorem dX7_chunkAt_15 : decode cX7_chunkAt 15 = .ok (.iload_n 3, 1) := by decide +kernel
theorem dX7_chunkAt_16 : decode cX7_chunkAt 16 = .ok (.iconst 0, 1) := by decide +kernel
theorem dX7_chunkAt_17 : decode cX7_chunkAt 17 = .ok (.aload_n 0, 1) := by decide +kernel
theorem dX7_chunkAt_18 : decode cX7_chunkAt 18 = .ok (.getfield 25, 3) := by decide +kernel
theorem dX7_chunkAt_21 : decode cX7_chunkAt 21 = .ok (.iload 4, 2) := by decide +kernel
theorem dX7_chunkAt_23 : decode cX7_chunkAt 23 = .ok (.iaload, 1) := by decide +kernel
theorem dX7_chunkAt_24 : decode cX7_chunkAt 24 = .ok (.iconst 1, 1) := by decide +kernel
theorem dX7_chunkAt_25 : decode cX7_chunkAt 25 = .ok (.isub, 1) := by decide +kernel
theorem dX7_chunkAt_26 : decode cX7_chunkAt 26 = .ok (.invokestatic 64, 3) := by decide +kernel
theorem dX7_chunkAt_29 : decode cX7_chunkAt 29 = .ok (.ifCond .ne 7, 3) := by decide +kernel
theorem dX7_chunkAt_32 : decode cX7_chunkAt 32 = .ok (.iconst 1, 1) := by decide +kernel
theorem dX7_chunkAt_33 : decode cX7_chunkAt 33 = .ok (.goto 4, 3) := by decide +kernel
theorem dX7_chunkAt_36 : decode cX7_chunkAt 36 = .ok (.iconst 0, 1) := by decide +kernel
theorem dX7_chunkAt_37 : decode cX7_chunkAt 37 = .ok (.invokevirtual 68, 3) := by decide +kernel
theorem dX7_chunkAt_40 : decode cX7_chunkAt 40 = .ok (.ifCond .eq 18, 3) := by decide +kernel
theorem dX7_chunkAt_43 : decode cX7_chunkAt 43 = .ok (.aload_n 0, 1) := by decide +kernel
theorem dX7_chunkAt_44 : decode cX7_chunkAt 44 = .ok (.getfield 28, 3) := by decide +kernel
theorem dX7_chunkAt_47 : decode cX7_chunkAt 47 = .ok (.bipush 30, 2) := by decide +kernel
theorem dX7_chunkAt_49 : decode cX7_chunkAt 49 = .ok (.iload 4, 2) := by decide +kernel
theorem dX7_chunkAt_51 : decode cX7_chunkAt 51 = .ok (.imul, 1) := by decide +kernel
theorem dX7_chunkAt_52 : decode cX7_chunkAt 52 = .ok (.iload_n 3, 1) := by decide +kernel
theorem dX7_chunkAt_53 : decode cX7_chunkAt 53 = .ok (.iadd, 1) := by decide +kernel
theorem dX7_chunkAt_54 : decode cX7_chunkAt 54 = .ok (.iaload, 1) := by decide +kernel
theorem dX7_chunkAt_55 : decode cX7_chunkAt 55 = .ok (.goto 4, 3) := by decide +kernel
theorem dX7_chunkAt_58 : decode cX7_chunkAt 58 = .ok (.iconst 0, 1) := by decide +kernel
theorem dX7_chunkAt_59 : decode cX7_chunkAt 59 = .ok (.ireturn, 1) := by decide +kernel
theorem dX7_baseOf_0 : decode cX7_baseOf 0 = .ok (.aload_n 0, 1) := by decide +kernel
theorem dX7_baseOf_1 : decode cX7_baseOf 1 = .ok (.iload_n 1, 1) := by decide +kernel
theorem dX7_baseOf_2 : decode cX7_baseOf 2 = .ok (.iload_n 2, 1) := by decide +kernel
theorem dX7_baseOf_3 : decode cX7_baseOf 3 = .ok (.invokevirtual 143, 3) := by decide +kernel
theorem dX7_baseOf_6 : decode cX7_baseOf 6 = .ok (.ifCond .eq 17, 3) := by decide +kernel
theorem dX7_baseOf_9 : decode cX7_baseOf 9 = .ok (.aload_n 0, 1) := by decide +kernel
theorem dX7_baseOf_10 : decode cX7_baseOf 10 = .ok (.getfield 22, 3) := by decide +kernel
theorem dX7_baseOf_13 : decode cX7_baseOf 13 = .ok (.aload_n 0, 1) := by decide +kernel
theorem dX7_baseOf_14 : decode cX7_baseOf 14 = .ok (.iload_n 1, 1) := by decide +kernel
theorem dX7_baseOf_15 : decode cX7_baseOf 15 = .ok (.iload_n 2, 1) := by decide +kernel
theorem dX7_baseOf_16 : decode cX7_baseOf 16 = .ok (.invokevirtual 76, 3) := by decide +kernel
theorem dX7_baseOf_19 : decode cX7_baseOf 19 = .ok (.iaload, 1) := by decide +kernel
theorem dX7_baseOf_20 : decode cX7_baseOf 20 = .ok (.goto 4, 3) := by decide +kernel
theorem dX7_baseOf_23 : decode cX7_baseOf 23 = .ok (.iconst 0, 1) := by decide +kernel
theorem dX7_baseOf_24 : decode cX7_baseOf 24 = .ok (.ireturn, 1) := by decide +kernel
theorem dX7_chainOf_0 : decode cX7_chainOf 0 = .ok (.aload_n 0, 1) := by decide +kernel
theorem dX7_chainOf_1 : decode cX7_chainOf 1 = .ok (.iload_n 1, 1) := by decide +kernel
theorem dX7_chainOf_2 : decode cX7_chainOf 2 = .ok (.iload_n 2, 1) := by decide +kernel
theorem dX7_chainOf_3 : decode cX7_chainOf 3 = .ok (.invokevirtual 143, 3) := by decide +kernel
theorem dX7_chainOf_6 : decode cX7_chainOf 6 = .ok (.ifCond .eq 16, 3) := by decide +kernel
theorem dX7_chainOf_9 : decode cX7_chainOf 9 = .ok (.aload_n 0, 1) := by decide +kernel
theorem dX7_chainOf_10 : decode cX7_chainOf 10 = .ok (.aload_n 0, 1) := by decide +kernel
theorem dX7_chainOf_11 : decode cX7_chainOf 11 = .ok (.iload_n 1, 1) := by decide +kernel
theorem dX7_chainOf_12 : decode cX7_chainOf 12 = .ok (.iload_n 2, 1) := by decide +kernel
theorem dX7_chainOf_13 : decode cX7_chainOf 13 = .ok (.invokevirtual 76, 3) := by decide +kernel
theorem dX7_chainOf_16 : decode cX7_chainOf 16 = .ok (.invokevirtual 128, 3) := by decide +kernel
theorem dX7_chainOf_19 : decode cX7_chainOf 19 = .ok (.goto 4, 3) := by decide +kernel
theorem dX7_chainOf_22 : decode cX7_chainOf 22 = .ok (.iconst 0, 1) := by decide +kernel
theorem dX7_chainOf_23 : decode cX7_chainOf 23 = .ok (.ireturn, 1) := by decide +kernel
theorem dX7_costOf_0 : decode cX7_costOf 0 = .ok (.aload_n 0, 1) := by decide +kernel
theorem dX7_costOf_1 : decode cX7_costOf 1 = .ok (.iload_n 1, 1) := by decide +kernel
theorem dX7_costOf_2 : decode cX7_costOf 2 = .ok (.iload_n 2, 1) := by decide +kernel
theorem dX7_costOf_3 : decode cX7_costOf 3 = .ok (.invokevirtual 143, 3) := by decide +kernel
theorem dX7_costOf_6 : decode cX7_costOf 6 = .ok (.ifCond .ne 5, 3) := by decide +kernel
theorem dX7_costOf_9 : decode cX7_costOf 9 = .ok (.iconst 0, 1) := by decide +kernel
theorem dX7_costOf_10 : decode cX7_costOf 10 = .ok (.ireturn, 1) := by decide +kernel
theorem dX7_costOf_11 : decode cX7_costOf 11 = .ok (.aload_n 0, 1) := by decide +kernel
theorem dX7_costOf_12 : decode cX7_costOf 12 = .ok (.iload_n 1, 1) := by decide +kernel
theorem dX7_costOf_13 : decode cX7_costOf 13 = .ok (.iload_n 2, 1) := by decide +kernel
theorem dX7_costOf_14 : decode cX7_costOf 14 = .ok (.invokevirtual 76, 3) := by decide +kernel
theorem dX7_costOf_17 : decode cX7_costOf 17 = .ok (.istore_n 3, 1) := by decide +kernel
theorem dX7_costOf_18 : decode cX7_costOf 18 = .ok (.aload_n 0, 1) := by decide +kernel
theorem dX7_costOf_19 : decode cX7_costOf 19 = .ok (.getfield 22, 3) := by decide +kernel
theorem dX7_costOf_22 : decode cX7_costOf 22 = .ok (.iload_n 3, 1) := by decide +kernel
theorem dX7_costOf_23 : decode cX7_costOf 23 = .ok (.iaload, 1) := by decide +kernel
theorem dX7_costOf_24 : decode cX7_costOf 24 = .ok (.iconst (-1), 1) := by decide +kernel
theorem dX7_costOf_25 : decode cX7_costOf 25 = .ok (.if_icmp .ne 12, 3) := by decide +kernel
theorem dX7_costOf_28 : decode cX7_costOf 28 = .ok (.aload_n 0, 1) := by decide +kernel
theorem dX7_costOf_29 : decode cX7_costOf 29 = .ok (.getfield 25, 3) := by decide +kernel
theorem dX7_costOf_32 : decode cX7_costOf 32 = .ok (.iload_n 3, 1) := by decide +kernel
theorem dX7_costOf_33 : decode cX7_costOf 33 = .ok (.iaload, 1) := by decide +kernel
theorem dX7_costOf_34 : decode cX7_costOf 34 = .ok (.goto 19, 3) := by decide +kernel
theorem dX7_costOf_37 : decode cX7_costOf 37 = .ok (.aload_n 0, 1) := by decide +kernel
theorem dX7_costOf_38 : decode cX7_costOf 38 = .ok (.iload_n 3, 1) := by decide +kernel
theorem dX7_costOf_39 : decode cX7_costOf 39 = .ok (.aload_n 0, 1) := by decide +kernel
theorem dX7_costOf_40 : decode cX7_costOf 40 = .ok (.iload_n 1, 1) := by decide +kernel
theorem dX7_costOf_41 : decode cX7_costOf 41 = .ok (.aload_n 0, 1) := by decide +kernel
theorem dX7_costOf_42 : decode cX7_costOf 42 = .ok (.getfield 22, 3) := by decide +kernel
theorem dX7_costOf_45 : decode cX7_costOf 45 = .ok (.iload_n 3, 1) := by decide +kernel
theorem dX7_costOf_46 : decode cX7_costOf 46 = .ok (.iaload, 1) := by decide +kernel
theorem dX7_costOf_47 : decode cX7_costOf 47 = .ok (.invokevirtual 76, 3) := by decide +kernel
theorem dX7_costOf_50 : decode cX7_costOf 50 = .ok (.invokevirtual 131, 3) := by decide +kernel
theorem dX7_costOf_53 : decode cX7_costOf 53 = .ok (.ireturn, 1) := by decide +kernel
theorem dX7_isStored_0 : decode cX7_isStored 0 = .ok (.aload_n 0, 1) := by decide +kernel
theorem dX7_isStored_1 : decode cX7_isStored 1 = .ok (.iconst 0, 1) := by decide +kernel
theorem dX7_isStored_2 : decode cX7_isStored 2 = .ok (.putfield 57, 3) := by decide +kernel
theorem dX7_isStored_5 : decode cX7_isStored 5 = .ok (.aload_n 0, 1) := by decide +kernel
theorem dX7_isStored_6 : decode cX7_isStored 6 = .ok (.iload_n 1, 1) := by decide +kernel
theorem dX7_isStored_7 : decode cX7_isStored 7 = .ok (.invokevirtual 147, 3) := by decide +kernel
theorem dX7_isStored_10 : decode cX7_isStored 10 = .ok (.iconst (-1), 1) := by decide +kernel
theorem dX7_isStored_11 : decode cX7_isStored 11 = .ok (.if_icmp .eq 7, 3) := by decide +kernel
theorem dX7_isStored_14 : decode cX7_isStored 14 = .ok (.iconst 1, 1) := by decide +kernel
theorem dX7_isStored_15 : decode cX7_isStored 15 = .ok (.goto 4, 3) := by decide +kernel
theorem dX7_isStored_18 : decode cX7_isStored 18 = .ok (.iconst 0, 1) := by decide +kernel
theorem dX7_isStored_19 : decode cX7_isStored 19 = .ok (.ireturn, 1) := by decide +kernel
theorem dX7_chunks_0 : decode cX7_chunks 0 = .ok (.aload_n 0, 1) := by decide +kernel
theorem dX7_chunks_1 : decode cX7_chunks 1 = .ok (.iconst 0, 1) := by decide +kernel
theorem dX7_chunks_2 : decode cX7_chunks 2 = .ok (.putfield 57, 3) := by decide +kernel
theorem dX7_chunks_5 : decode cX7_chunks 5 = .ok (.aload_n 0, 1) := by decide +kernel
theorem dX7_chunks_6 : decode cX7_chunks 6 = .ok (.getfield 80, 3) := by decide +kernel
theorem dX7_chunks_9 : decode cX7_chunks 9 = .ok (.ireturn, 1) := by decide +kernel
theorem dX7_isChunk_0 : decode cX7_isChunk 0 = .ok (.aload_n 0, 1) := by decide +kernel
theorem dX7_isChunk_1 : decode cX7_isChunk 1 = .ok (.aload_n 0, 1) := by decide +kernel
theorem dX7_isChunk_2 : decode cX7_isChunk 2 = .ok (.iload_n 1, 1) := by decide +kernel
theorem dX7_isChunk_3 : decode cX7_isChunk 3 = .ok (.invokevirtual 147, 3) := by decide +kernel
theorem dX7_isChunk_6 : decode cX7_isChunk 6 = .ok (.iconst (-1), 1) := by decide +kernel
theorem dX7_isChunk_7 : decode cX7_isChunk 7 = .ok (.if_icmp .ne 7, 3) := by decide +kernel
theorem dX7_isChunk_10 : decode cX7_isChunk 10 = .ok (.iconst 1, 1) := by decide +kernel
theorem dX7_isChunk_11 : decode cX7_isChunk 11 = .ok (.goto 4, 3) := by decide +kernel
theorem dX7_isChunk_14 : decode cX7_isChunk 14 = .ok (.iconst 0, 1) := by decide +kernel
theorem dX7_isChunk_15 : decode cX7_isChunk 15 = .ok (.invokevirtual 68, 3) := by decide +kernel
theorem dX7_isChunk_18 : decode cX7_isChunk 18 = .ok (.ireturn, 1) := by decide +kernel
theorem dX7_chunkLength_0 : decode cX7_chunkLength 0 = .ok (.aload_n 0, 1) := by decide +kernel
theorem dX7_chunkLength_1 : decode cX7_chunkLength 1 = .ok (.iload_n 1, 1) := by decide +kernel
theorem dX7_chunkLength_2 : decode cX7_chunkLength 2 = .ok (.invokevirtual 156, 3) := by decide +kernel
theorem dX7_chunkLength_5 : decode cX7_chunkLength 5 = .ok (.ifCond .eq 16, 3) := by decide +kernel
theorem dX7_chunkLength_8 : decode cX7_chunkLength 8 = .ok (.aload_n 0, 1) := by decide +kernel
theorem dX7_chunkLength_9 : decode cX7_chunkLength 9 = .ok (.getfield 43, 3) := by decide +kernel
theorem dX7_chunkLength_12 : decode cX7_chunkLength 12 = .ok (.aload_n 0, 1) := by decide +kernel
theorem dX7_chunkLength_13 : decode cX7_chunkLength 13 = .ok (.iload_n 1, 1) := by decide +kernel
theorem dX7_chunkLength_14 : decode cX7_chunkLength 14 = .ok (.invokevirtual 147, 3) := by decide +kernel
theorem dX7_chunkLength_17 : decode cX7_chunkLength 17 = .ok (.iaload, 1) := by decide +kernel
theorem dX7_chunkLength_18 : decode cX7_chunkLength 18 = .ok (.goto 4, 3) := by decide +kernel
theorem dX7_chunkLength_21 : decode cX7_chunkLength 21 = .ok (.iconst 0, 1) := by decide +kernel
theorem dX7_chunkLength_22 : decode cX7_chunkLength 22 = .ok (.ireturn, 1) := by decide +kernel
theorem dX7_fingerprint_0 : decode cX7_fingerprint 0 = .ok (.aload_n 0, 1) := by decide +kernel
theorem dX7_fingerprint_1 : decode cX7_fingerprint 1 = .ok (.iload_n 1, 1) := by decide +kernel
theorem dX7_fingerprint_2 : decode cX7_fingerprint 2 = .ok (.invokevirtual 156, 3) := by decide +kernel
theorem dX7_fingerprint_5 : decode cX7_fingerprint 5 = .ok (.ifCond .ne 5, 3) := by decide +kernel
theorem dX7_fingerprint_8 : decode cX7_fingerprint 8 = .ok (.iconst 0, 1) := by decide +kernel
theorem dX7_fingerprint_9 : decode cX7_fingerprint 9 = .ok (.ireturn, 1) := by decide +kernel
theorem dX7_fingerprint_10 : decode cX7_fingerprint 10 = .ok (.aload_n 0, 1) := by decide +kernel
theorem dX7_fingerprint_11 : decode cX7_fingerprint 11 = .ok (.iload_n 1, 1) := by decide +kernel
theorem dX7_fingerprint_12 : decode cX7_fingerprint 12 = .ok (.invokevirtual 147, 3) := by decide +kernel
theorem dX7_fingerprint_15 : decode cX7_fingerprint 15 = .ok (.istore_n 2, 1) := by decide +kernel
theorem dX7_fingerprint_16 : decode cX7_fingerprint 16 = .ok (.iconst 1, 1) := by decide +kernel
theorem dX7_fingerprint_17 : decode cX7_fingerprint 17 = .ok (.istore_n 3, 1) := by decide +kernel
theorem dX7_fingerprint_18 : decode cX7_fingerprint 18 = .ok (.iconst 0, 1) := by decide +kernel
theorem dX7_fingerprint_19 : decode cX7_fingerprint 19 = .ok (.istore 4, 2) := by decide +kernel
theorem dX7_fingerprint_21 : decode cX7_fingerprint 21 = .ok (.iconst 0, 1) := by decide +kernel
theorem dX7_fingerprint_22 : decode cX7_fingerprint 22 = .ok (.istore 5, 2) := by decide +kernel
theorem dX7_fingerprint_24 : decode cX7_fingerprint 24 = .ok (.iload 5, 2) := by decide +kernel
theorem dX7_fingerprint_26 : decode cX7_fingerprint 26 = .ok (.aload_n 0, 1) := by decide +kernel
theorem dX7_fingerprint_27 : decode cX7_fingerprint 27 = .ok (.getfield 43, 3) := by decide +kernel
theorem dX7_fingerprint_30 : decode cX7_fingerprint 30 = .ok (.iload_n 2, 1) := by decide +kernel
theorem dX7_fingerprint_31 : decode cX7_fingerprint 31 = .ok (.iaload, 1) := by decide +kernel
theorem dX7_fingerprint_32 : decode cX7_fingerprint 32 = .ok (.if_icmp .ge 44, 3) := by decide +kernel
theorem dX7_fingerprint_35 : decode cX7_fingerprint 35 = .ok (.iload_n 3, 1) := by decide +kernel
theorem dX7_fingerprint_36 : decode cX7_fingerprint 36 = .ok (.aload_n 0, 1) := by decide +kernel
theorem dX7_fingerprint_37 : decode cX7_fingerprint 37 = .ok (.getfield 50, 3) := by decide +kernel
theorem dX7_fingerprint_40 : decode cX7_fingerprint 40 = .ok (.aload_n 0, 1) := by decide +kernel
theorem dX7_fingerprint_41 : decode cX7_fingerprint 41 = .ok (.getfield 40, 3) := by decide +kernel
theorem dX7_fingerprint_44 : decode cX7_fingerprint 44 = .ok (.iload_n 2, 1) := by decide +kernel
theorem dX7_fingerprint_45 : decode cX7_fingerprint 45 = .ok (.iaload, 1) := by decide +kernel
theorem dX7_fingerprint_46 : decode cX7_fingerprint 46 = .ok (.iload 5, 2) := by decide +kernel
theorem dX7_fingerprint_48 : decode cX7_fingerprint 48 = .ok (.iadd, 1) := by decide +kernel
theorem dX7_fingerprint_49 : decode cX7_fingerprint 49 = .ok (.baload, 1) := by decide +kernel
theorem dX7_fingerprint_50 : decode cX7_fingerprint 50 = .ok (.sipush 255, 3) := by decide +kernel
theorem dX7_fingerprint_53 : decode cX7_fingerprint 53 = .ok (.iand, 1) := by decide +kernel
theorem dX7_fingerprint_54 : decode cX7_fingerprint 54 = .ok (.iadd, 1) := by decide +kernel
theorem dX7_fingerprint_55 : decode cX7_fingerprint 55 = .ok (.sipush 251, 3) := by decide +kernel
theorem dX7_fingerprint_58 : decode cX7_fingerprint 58 = .ok (.irem, 1) := by decide +kernel
theorem dX7_fingerprint_59 : decode cX7_fingerprint 59 = .ok (.istore_n 3, 1) := by decide +kernel
theorem dX7_fingerprint_60 : decode cX7_fingerprint 60 = .ok (.iload 4, 2) := by decide +kernel
theorem dX7_fingerprint_62 : decode cX7_fingerprint 62 = .ok (.iload_n 3, 1) := by decide +kernel
theorem dX7_fingerprint_63 : decode cX7_fingerprint 63 = .ok (.iadd, 1) := by decide +kernel
theorem dX7_fingerprint_64 : decode cX7_fingerprint 64 = .ok (.sipush 251, 3) := by decide +kernel
theorem dX7_fingerprint_67 : decode cX7_fingerprint 67 = .ok (.irem, 1) := by decide +kernel
theorem dX7_fingerprint_68 : decode cX7_fingerprint 68 = .ok (.istore 4, 2) := by decide +kernel
theorem dX7_fingerprint_70 : decode cX7_fingerprint 70 = .ok (.iinc 5 1, 3) := by decide +kernel
theorem dX7_fingerprint_73 : decode cX7_fingerprint 73 = .ok (.goto (-49), 3) := by decide +kernel
theorem dX7_fingerprint_76 : decode cX7_fingerprint 76 = .ok (.sipush 256, 3) := by decide +kernel
theorem dX7_fingerprint_79 : decode cX7_fingerprint 79 = .ok (.iload 4, 2) := by decide +kernel
theorem dX7_fingerprint_81 : decode cX7_fingerprint 81 = .ok (.imul, 1) := by decide +kernel
theorem dX7_fingerprint_82 : decode cX7_fingerprint 82 = .ok (.iload_n 3, 1) := by decide +kernel
theorem dX7_fingerprint_83 : decode cX7_fingerprint 83 = .ok (.iadd, 1) := by decide +kernel
theorem dX7_fingerprint_84 : decode cX7_fingerprint 84 = .ok (.ireturn, 1) := by decide +kernel
theorem dX7_references_0 : decode cX7_references 0 = .ok (.aload_n 0, 1) := by decide +kernel
theorem dX7_references_1 : decode cX7_references 1 = .ok (.iload_n 1, 1) := by decide +kernel
theorem dX7_references_2 : decode cX7_references 2 = .ok (.invokevirtual 156, 3) := by decide +kernel
theorem dX7_references_5 : decode cX7_references 5 = .ok (.ifCond .eq 11, 3) := by decide +kernel
theorem dX7_references_8 : decode cX7_references 8 = .ok (.aload_n 0, 1) := by decide +kernel
theorem dX7_references_9 : decode cX7_references 9 = .ok (.iload_n 1, 1) := by decide +kernel
theorem dX7_references_10 : decode cX7_references 10 = .ok (.invokevirtual 134, 3) := by decide +kernel
theorem dX7_references_13 : decode cX7_references 13 = .ok (.goto 4, 3) := by decide +kernel
theorem dX7_references_16 : decode cX7_references 16 = .ok (.iconst 0, 1) := by decide +kernel
theorem dX7_references_17 : decode cX7_references 17 = .ok (.ireturn, 1) := by decide +kernel
theorem dX7_containerOf_0 : decode cX7_containerOf 0 = .ok (.aload_n 0, 1) := by decide +kernel
theorem dX7_containerOf_1 : decode cX7_containerOf 1 = .ok (.iload_n 1, 1) := by decide +kernel
theorem dX7_containerOf_2 : decode cX7_containerOf 2 = .ok (.invokevirtual 156, 3) := by decide +kernel
theorem dX7_containerOf_5 : decode cX7_containerOf 5 = .ok (.ifCond .eq 16, 3) := by decide +kernel
theorem dX7_containerOf_8 : decode cX7_containerOf 8 = .ok (.aload_n 0, 1) := by decide +kernel
theorem dX7_containerOf_9 : decode cX7_containerOf 9 = .ok (.getfield 46, 3) := by decide +kernel
theorem dX7_containerOf_12 : decode cX7_containerOf 12 = .ok (.aload_n 0, 1) := by decide +kernel
theorem dX7_containerOf_13 : decode cX7_containerOf 13 = .ok (.iload_n 1, 1) := by decide +kernel
theorem dX7_containerOf_14 : decode cX7_containerOf 14 = .ok (.invokevirtual 147, 3) := by decide +kernel
theorem dX7_containerOf_17 : decode cX7_containerOf 17 = .ok (.iaload, 1) := by decide +kernel
theorem dX7_containerOf_18 : decode cX7_containerOf 18 = .ok (.goto 4, 3) := by decide +kernel
theorem dX7_containerOf_21 : decode cX7_containerOf 21 = .ok (.iconst 0, 1) := by decide +kernel
theorem dX7_containerOf_22 : decode cX7_containerOf 22 = .ok (.ireturn, 1) := by decide +kernel
theorem dX7_containers_0 : decode cX7_containers 0 = .ok (.aload_n 0, 1) := by decide +kernel
theorem dX7_containers_1 : decode cX7_containers 1 = .ok (.iconst 0, 1) := by decide +kernel
theorem dX7_containers_2 : decode cX7_containers 2 = .ok (.putfield 57, 3) := by decide +kernel
theorem dX7_containers_5 : decode cX7_containers 5 = .ok (.iconst 1, 1) := by decide +kernel
theorem dX7_containers_6 : decode cX7_containers 6 = .ok (.istore_n 1, 1) := by decide +kernel
theorem dX7_containers_7 : decode cX7_containers 7 = .ok (.iconst 0, 1) := by decide +kernel
theorem dX7_containers_8 : decode cX7_containers 8 = .ok (.istore_n 2, 1) := by decide +kernel
theorem dX7_containers_9 : decode cX7_containers 9 = .ok (.iload_n 2, 1) := by decide +kernel
theorem dX7_containers_10 : decode cX7_containers 10 = .ok (.aload_n 0, 1) := by decide +kernel
theorem dX7_containers_11 : decode cX7_containers 11 = .ok (.getfield 83, 3) := by decide +kernel
theorem dX7_containers_14 : decode cX7_containers 14 = .ok (.if_icmp .ge 25, 3) := by decide +kernel
theorem dX7_containers_17 : decode cX7_containers 17 = .ok (.iload_n 1, 1) := by decide +kernel
theorem dX7_containers_18 : decode cX7_containers 18 = .ok (.aload_n 0, 1) := by decide +kernel
theorem dX7_containers_19 : decode cX7_containers 19 = .ok (.iload_n 2, 1) := by decide +kernel
theorem dX7_containers_20 : decode cX7_containers 20 = .ok (.invokevirtual 86, 3) := by decide +kernel
theorem dX7_containers_23 : decode cX7_containers 23 = .ok (.ifCond .le 7, 3) := by decide +kernel
theorem dX7_containers_26 : decode cX7_containers 26 = .ok (.iconst 1, 1) := by decide +kernel
theorem dX7_containers_27 : decode cX7_containers 27 = .ok (.goto 4, 3) := by decide +kernel
theorem dX7_containers_30 : decode cX7_containers 30 = .ok (.iconst 0, 1) := by decide +kernel
theorem dX7_containers_31 : decode cX7_containers 31 = .ok (.iadd, 1) := by decide +kernel
theorem dX7_containers_32 : decode cX7_containers 32 = .ok (.istore_n 1, 1) := by decide +kernel
theorem dX7_containers_33 : decode cX7_containers 33 = .ok (.iinc 2 1, 3) := by decide +kernel
theorem dX7_containers_36 : decode cX7_containers 36 = .ok (.goto (-27), 3) := by decide +kernel
theorem dX7_containers_39 : decode cX7_containers 39 = .ok (.iload_n 1, 1) := by decide +kernel
theorem dX7_containers_40 : decode cX7_containers 40 = .ok (.ireturn, 1) := by decide +kernel
theorem dX7_openContainer_0 : decode cX7_openContainer 0 = .ok (.aload_n 0, 1) := by decide +kernel
theorem dX7_openContainer_1 : decode cX7_openContainer 1 = .ok (.iconst 0, 1) := by decide +kernel
theorem dX7_openContainer_2 : decode cX7_openContainer 2 = .ok (.putfield 57, 3) := by decide +kernel
theorem dX7_openContainer_5 : decode cX7_openContainer 5 = .ok (.aload_n 0, 1) := by decide +kernel
theorem dX7_openContainer_6 : decode cX7_openContainer 6 = .ok (.getfield 83, 3) := by decide +kernel
theorem dX7_openContainer_9 : decode cX7_openContainer 9 = .ok (.ireturn, 1) := by decide +kernel
theorem dX7_cached_0 : decode cX7_cached 0 = .ok (.aload_n 0, 1) := by decide +kernel
theorem dX7_cached_1 : decode cX7_cached 1 = .ok (.iload_n 1, 1) := by decide +kernel
theorem dX7_cached_2 : decode cX7_cached 2 = .ok (.iconst 0, 1) := by decide +kernel
theorem dX7_cached_3 : decode cX7_cached 3 = .ok (.iconst 2, 1) := by decide +kernel
theorem dX7_cached_4 : decode cX7_cached 4 = .ok (.invokestatic 64, 3) := by decide +kernel
theorem dX7_cached_7 : decode cX7_cached 7 = .ok (.ifCond .eq 7, 3) := by decide +kernel
theorem dX7_cached_10 : decode cX7_cached 10 = .ok (.iconst 0, 1) := by decide +kernel
theorem dX7_cached_11 : decode cX7_cached 11 = .ok (.goto 4, 3) := by decide +kernel
theorem dX7_cached_14 : decode cX7_cached 14 = .ok (.iconst 1, 1) := by decide +kernel
theorem dX7_cached_15 : decode cX7_cached 15 = .ok (.invokevirtual 68, 3) := by decide +kernel
theorem dX7_cached_18 : decode cX7_cached 18 = .ok (.ifCond .eq 12, 3) := by decide +kernel
theorem dX7_cached_21 : decode cX7_cached 21 = .ok (.aload_n 0, 1) := by decide +kernel
theorem dX7_cached_22 : decode cX7_cached 22 = .ok (.getfield 54, 3) := by decide +kernel
theorem dX7_cached_25 : decode cX7_cached 25 = .ok (.iload_n 1, 1) := by decide +kernel
theorem dX7_cached_26 : decode cX7_cached 26 = .ok (.iaload, 1) := by decide +kernel
theorem dX7_cached_27 : decode cX7_cached 27 = .ok (.goto 4, 3) := by decide +kernel
theorem dX7_cached_30 : decode cX7_cached 30 = .ok (.iconst 0, 1) := by decide +kernel
theorem dX7_cached_31 : decode cX7_cached 31 = .ok (.ireturn, 1) := by decide +kernel
theorem dX7_cacheHits_0 : decode cX7_cacheHits 0 = .ok (.aload_n 0, 1) := by decide +kernel
theorem dX7_cacheHits_1 : decode cX7_cacheHits 1 = .ok (.iconst 0, 1) := by decide +kernel
theorem dX7_cacheHits_2 : decode cX7_cacheHits 2 = .ok (.putfield 57, 3) := by decide +kernel
theorem dX7_cacheHits_5 : decode cX7_cacheHits 5 = .ok (.aload_n 0, 1) := by decide +kernel
theorem dX7_cacheHits_6 : decode cX7_cacheHits 6 = .ok (.getfield 109, 3) := by decide +kernel
theorem dX7_cacheHits_9 : decode cX7_cacheHits 9 = .ok (.ireturn, 1) := by decide +kernel
theorem dX7_indexReads_0 : decode cX7_indexReads 0 = .ok (.aload_n 0, 1) := by decide +kernel
theorem dX7_indexReads_1 : decode cX7_indexReads 1 = .ok (.iconst 0, 1) := by decide +kernel
theorem dX7_indexReads_2 : decode cX7_indexReads 2 = .ok (.putfield 57, 3) := by decide +kernel
theorem dX7_indexReads_5 : decode cX7_indexReads 5 = .ok (.aload_n 0, 1) := by decide +kernel
theorem dX7_indexReads_6 : decode cX7_indexReads 6 = .ok (.getfield 112, 3) := by decide +kernel
theorem dX7_indexReads_9 : decode cX7_indexReads 9 = .ok (.ireturn, 1) := by decide +kernel
theorem dX7_allBytes_0 : decode cX7_allBytes 0 = .ok (.iconst 0, 1) := by decide +kernel
theorem dX7_allBytes_1 : decode cX7_allBytes 1 = .ok (.istore_n 1, 1) := by decide +kernel
theorem dX7_allBytes_2 : decode cX7_allBytes 2 = .ok (.iconst 0, 1) := by decide +kernel
theorem dX7_allBytes_3 : decode cX7_allBytes 3 = .ok (.istore_n 2, 1) := by decide +kernel
theorem dX7_allBytes_4 : decode cX7_allBytes 4 = .ok (.iload_n 2, 1) := by decide +kernel
theorem dX7_allBytes_5 : decode cX7_allBytes 5 = .ok (.aload_n 0, 1) := by decide +kernel
theorem dX7_allBytes_6 : decode cX7_allBytes 6 = .ok (.getfield 80, 3) := by decide +kernel
theorem dX7_allBytes_9 : decode cX7_allBytes 9 = .ok (.if_icmp .ge 18, 3) := by decide +kernel
theorem dX7_allBytes_12 : decode cX7_allBytes 12 = .ok (.iload_n 1, 1) := by decide +kernel
theorem dX7_allBytes_13 : decode cX7_allBytes 13 = .ok (.aload_n 0, 1) := by decide +kernel
theorem dX7_allBytes_14 : decode cX7_allBytes 14 = .ok (.getfield 43, 3) := by decide +kernel
theorem dX7_allBytes_17 : decode cX7_allBytes 17 = .ok (.iload_n 2, 1) := by decide +kernel
theorem dX7_allBytes_18 : decode cX7_allBytes 18 = .ok (.iaload, 1) := by decide +kernel
theorem dX7_allBytes_19 : decode cX7_allBytes 19 = .ok (.iadd, 1) := by decide +kernel
theorem dX7_allBytes_20 : decode cX7_allBytes 20 = .ok (.istore_n 1, 1) := by decide +kernel
theorem dX7_allBytes_21 : decode cX7_allBytes 21 = .ok (.iinc 2 1, 3) := by decide +kernel
theorem dX7_allBytes_24 : decode cX7_allBytes 24 = .ok (.goto (-20), 3) := by decide +kernel
theorem dX7_allBytes_27 : decode cX7_allBytes 27 = .ok (.iload_n 1, 1) := by decide +kernel
theorem dX7_allBytes_28 : decode cX7_allBytes 28 = .ok (.ireturn, 1) := by decide +kernel
theorem dX7_allSaved_0 : decode cX7_allSaved 0 = .ok (.iconst 0, 1) := by decide +kernel
theorem dX7_allSaved_1 : decode cX7_allSaved 1 = .ok (.istore_n 1, 1) := by decide +kernel
theorem dX7_allSaved_2 : decode cX7_allSaved 2 = .ok (.iconst 0, 1) := by decide +kernel
theorem dX7_allSaved_3 : decode cX7_allSaved 3 = .ok (.istore_n 2, 1) := by decide +kernel
theorem dX7_allSaved_4 : decode cX7_allSaved 4 = .ok (.iload_n 2, 1) := by decide +kernel
theorem dX7_allSaved_5 : decode cX7_allSaved 5 = .ok (.bipush 20, 2) := by decide +kernel
theorem dX7_allSaved_7 : decode cX7_allSaved 7 = .ok (.if_icmp .ge 32, 3) := by decide +kernel
theorem dX7_allSaved_10 : decode cX7_allSaved 10 = .ok (.iload_n 1, 1) := by decide +kernel
theorem dX7_allSaved_11 : decode cX7_allSaved 11 = .ok (.aload_n 0, 1) := by decide +kernel
theorem dX7_allSaved_12 : decode cX7_allSaved 12 = .ok (.getfield 13, 3) := by decide +kernel
theorem dX7_allSaved_15 : decode cX7_allSaved 15 = .ok (.iload_n 2, 1) := by decide +kernel
theorem dX7_allSaved_16 : decode cX7_allSaved 16 = .ok (.iaload, 1) := by decide +kernel
theorem dX7_allSaved_17 : decode cX7_allSaved 17 = .ok (.iconst (-1), 1) := by decide +kernel
theorem dX7_allSaved_18 : decode cX7_allSaved 18 = .ok (.if_icmp .ne 7, 3) := by decide +kernel
theorem dX7_allSaved_21 : decode cX7_allSaved 21 = .ok (.iconst 0, 1) := by decide +kernel
theorem dX7_allSaved_22 : decode cX7_allSaved 22 = .ok (.goto 9, 3) := by decide +kernel
theorem dX7_allSaved_25 : decode cX7_allSaved 25 = .ok (.aload_n 0, 1) := by decide +kernel
theorem dX7_allSaved_26 : decode cX7_allSaved 26 = .ok (.getfield 19, 3) := by decide +kernel
theorem dX7_allSaved_29 : decode cX7_allSaved 29 = .ok (.iload_n 2, 1) := by decide +kernel
theorem dX7_allSaved_30 : decode cX7_allSaved 30 = .ok (.iaload, 1) := by decide +kernel
theorem dX7_allSaved_31 : decode cX7_allSaved 31 = .ok (.iadd, 1) := by decide +kernel
theorem dX7_allSaved_32 : decode cX7_allSaved 32 = .ok (.istore_n 1, 1) := by decide +kernel
theorem dX7_allSaved_33 : decode cX7_allSaved 33 = .ok (.iinc 2 1, 3) := by decide +kernel
theorem dX7_allSaved_36 : decode cX7_allSaved 36 = .ok (.goto (-32), 3) := by decide +kernel
theorem dX7_allSaved_39 : decode cX7_allSaved 39 = .ok (.iload_n 1, 1) := by decide +kernel
theorem dX7_allSaved_40 : decode cX7_allSaved 40 = .ok (.ireturn, 1) := by decide +kernel
theorem dX7_storedBytes_0 : decode cX7_storedBytes 0 = .ok (.aload_n 0, 1) := by decide +kernel
theorem dX7_storedBytes_1 : decode cX7_storedBytes 1 = .ok (.iconst 0, 1) := by decide +kernel
theorem dX7_storedBytes_2 : decode cX7_storedBytes 2 = .ok (.putfield 57, 3) := by decide +kernel
theorem dX7_storedBytes_5 : decode cX7_storedBytes 5 = .ok (.aload_n 0, 1) := by decide +kernel
theorem dX7_storedBytes_6 : decode cX7_storedBytes 6 = .ok (.invokevirtual 159, 3) := by decide +kernel
theorem dX7_storedBytes_9 : decode cX7_storedBytes 9 = .ok (.ireturn, 1) := by decide +kernel
theorem dX7_savedBytes_0 : decode cX7_savedBytes 0 = .ok (.aload_n 0, 1) := by decide +kernel
theorem dX7_savedBytes_1 : decode cX7_savedBytes 1 = .ok (.iconst 0, 1) := by decide +kernel
theorem dX7_savedBytes_2 : decode cX7_savedBytes 2 = .ok (.putfield 57, 3) := by decide +kernel
theorem dX7_savedBytes_5 : decode cX7_savedBytes 5 = .ok (.aload_n 0, 1) := by decide +kernel
theorem dX7_savedBytes_6 : decode cX7_savedBytes 6 = .ok (.invokevirtual 162, 3) := by decide +kernel
theorem dX7_savedBytes_9 : decode cX7_savedBytes 9 = .ok (.ireturn, 1) := by decide +kernel
theorem dX7_garbage_0 : decode cX7_garbage 0 = .ok (.aload_n 0, 1) := by decide +kernel
theorem dX7_garbage_1 : decode cX7_garbage 1 = .ok (.iconst 0, 1) := by decide +kernel
theorem dX7_garbage_2 : decode cX7_garbage 2 = .ok (.putfield 57, 3) := by decide +kernel
theorem dX7_garbage_5 : decode cX7_garbage 5 = .ok (.iconst 0, 1) := by decide +kernel
theorem dX7_garbage_6 : decode cX7_garbage 6 = .ok (.istore_n 1, 1) := by decide +kernel
theorem dX7_garbage_7 : decode cX7_garbage 7 = .ok (.iconst 0, 1) := by decide +kernel
theorem dX7_garbage_8 : decode cX7_garbage 8 = .ok (.istore_n 2, 1) := by decide +kernel
theorem dX7_garbage_9 : decode cX7_garbage 9 = .ok (.iload_n 2, 1) := by decide +kernel
theorem dX7_garbage_10 : decode cX7_garbage 10 = .ok (.aload_n 0, 1) := by decide +kernel
theorem dX7_garbage_11 : decode cX7_garbage 11 = .ok (.getfield 80, 3) := by decide +kernel
theorem dX7_garbage_14 : decode cX7_garbage 14 = .ok (.if_icmp .ge 35, 3) := by decide +kernel
theorem dX7_garbage_17 : decode cX7_garbage 17 = .ok (.iload_n 1, 1) := by decide +kernel
theorem dX7_garbage_18 : decode cX7_garbage 18 = .ok (.aload_n 0, 1) := by decide +kernel
theorem dX7_garbage_19 : decode cX7_garbage 19 = .ok (.aload_n 0, 1) := by decide +kernel
theorem dX7_garbage_20 : decode cX7_garbage 20 = .ok (.getfield 37, 3) := by decide +kernel
theorem dX7_garbage_23 : decode cX7_garbage 23 = .ok (.iload_n 2, 1) := by decide +kernel
theorem dX7_garbage_24 : decode cX7_garbage 24 = .ok (.iaload, 1) := by decide +kernel
theorem dX7_garbage_25 : decode cX7_garbage 25 = .ok (.invokevirtual 134, 3) := by decide +kernel
theorem dX7_garbage_28 : decode cX7_garbage 28 = .ok (.ifCond .ne 12, 3) := by decide +kernel
theorem dX7_garbage_31 : decode cX7_garbage 31 = .ok (.aload_n 0, 1) := by decide +kernel
theorem dX7_garbage_32 : decode cX7_garbage 32 = .ok (.getfield 43, 3) := by decide +kernel
theorem dX7_garbage_35 : decode cX7_garbage 35 = .ok (.iload_n 2, 1) := by decide +kernel
theorem dX7_garbage_36 : decode cX7_garbage 36 = .ok (.iaload, 1) := by decide +kernel
theorem dX7_garbage_37 : decode cX7_garbage 37 = .ok (.goto 4, 3) := by decide +kernel
theorem dX7_garbage_40 : decode cX7_garbage 40 = .ok (.iconst 0, 1) := by decide +kernel
theorem dX7_garbage_41 : decode cX7_garbage 41 = .ok (.iadd, 1) := by decide +kernel
theorem dX7_garbage_42 : decode cX7_garbage 42 = .ok (.istore_n 1, 1) := by decide +kernel
theorem dX7_garbage_43 : decode cX7_garbage 43 = .ok (.iinc 2 1, 3) := by decide +kernel
theorem dX7_garbage_46 : decode cX7_garbage 46 = .ok (.goto (-37), 3) := by decide +kernel
theorem dX7_garbage_49 : decode cX7_garbage 49 = .ok (.iload_n 1, 1) := by decide +kernel
theorem dX7_garbage_50 : decode cX7_garbage 50 = .ok (.ireturn, 1) := by decide +kernel
theorem dX7_ratio_0 : decode cX7_ratio 0 = .ok (.aload_n 0, 1) := by decide +kernel
theorem dX7_ratio_1 : decode cX7_ratio 1 = .ok (.iconst 0, 1) := by decide +kernel
theorem dX7_ratio_2 : decode cX7_ratio 2 = .ok (.putfield 57, 3) := by decide +kernel
theorem dX7_ratio_5 : decode cX7_ratio 5 = .ok (.aload_n 0, 1) := by decide +kernel
theorem dX7_ratio_6 : decode cX7_ratio 6 = .ok (.invokevirtual 159, 3) := by decide +kernel
theorem dX7_ratio_9 : decode cX7_ratio 9 = .ok (.ifCond .ne 7, 3) := by decide +kernel
theorem dX7_ratio_12 : decode cX7_ratio 12 = .ok (.dconst 0, 1) := by decide +kernel
theorem dX7_ratio_13 : decode cX7_ratio 13 = .ok (.goto 14, 3) := by decide +kernel
theorem dX7_ratio_16 : decode cX7_ratio 16 = .ok (.aload_n 0, 1) := by decide +kernel
theorem dX7_ratio_17 : decode cX7_ratio 17 = .ok (.invokevirtual 162, 3) := by decide +kernel
theorem dX7_ratio_20 : decode cX7_ratio 20 = .ok (.i2d, 1) := by decide +kernel
theorem dX7_ratio_21 : decode cX7_ratio 21 = .ok (.aload_n 0, 1) := by decide +kernel
theorem dX7_ratio_22 : decode cX7_ratio 22 = .ok (.invokevirtual 159, 3) := by decide +kernel
theorem dX7_ratio_25 : decode cX7_ratio 25 = .ok (.i2d, 1) := by decide +kernel
theorem dX7_ratio_26 : decode cX7_ratio 26 = .ok (.ddiv, 1) := by decide +kernel
theorem dX7_ratio_27 : decode cX7_ratio 27 = .ok (.dreturn, 1) := by decide +kernel
