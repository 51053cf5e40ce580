/-! words of the tables: printed by wip/p40/jw.py -/
theorem jw_3 : .initialized RJxa1e45 ∈ gw := gw_of (p := 20) rfl rfl
theorem jw_4 : .initialized RJxc12de ∈ gw := gw_of (p := 21) rfl rfl
theorem jw_5 : .initialized RJx4a65c ∈ gw := gw_of (p := 22) rfl rfl
theorem jw_8 : .initialized RJ8 ∈ gw := gw_of (p := 25) rfl rfl
theorem jw_9 : .initialized "java/lang/Math" ∈ gw := gw_of (p := 26) rfl rfl
theorem jw_10 : .initialized RJ7 ∈ gw := gw_of (p := 27) rfl rfl
theorem jw_11 : .initialized "java/lang/System" ∈ gw := gw_of (p := 28) rfl rfl
theorem jw_18 : .initialized RJ15 ∈ gw := gw_of (p := 35) rfl rfl
theorem jw_19 : .initialized RJ3 ∈ gw := gw_of (p := 36) rfl rfl
theorem jw_56 : .instanceMethod yJx4a65c_init_da8c8 ∈ gw := gw_of (p := 68) rfl rfl
theorem jw_57 : .code yJx4a65c_init_da8c8 prog_23_method_2_code 1 (Option.none : Option Jvm.ClassFile.FieldType) ∈ gw := gw_of (p := 69) rfl rfl
theorem jw_58 : .methodLink RJx4a65c 1 yJxc12de_init_da8c8 ∈ gw := gw_of (p := 70) rfl rfl
theorem jw_59 : .instanceMethod yJxc12de_init_da8c8 ∈ gw := gw_of (p := 71) rfl rfl
theorem jw_60 : .code yJxc12de_init_da8c8 prog_22_method_1_code 1 (Option.none : Option Jvm.ClassFile.FieldType) ∈ gw := gw_of (p := 72) rfl rfl
theorem jw_61 : .methodLink RJxc12de 1 yJxa1e45_init_da8c8 ∈ gw := gw_of (p := 73) rfl rfl
theorem jw_62 : .instanceMethod yJxa1e45_init_da8c8 ∈ gw := gw_of (p := 74) rfl rfl
theorem jw_63 : .code yJxa1e45_init_da8c8 prog_21_method_1_code 1 (Option.none : Option Jvm.ClassFile.FieldType) ∈ gw := gw_of (p := 75) rfl rfl
theorem jw_64 : .methodLink RJxa1e45 1 ⟨"java/lang/Object", "<init>", "()V"⟩ ∈ gw := gw_of (p := 76) rfl rfl
theorem jw_65 : .fieldLink RJx4a65c 39 RJx4a65c "DEFAULTCAPACITY_EMPTY_ELEMENTDATA" "[Ljava/lang/Object;" ∈ gw := gw_of (p := 77) rfl rfl
theorem jw_67 : .fieldLink RJx4a65c 9 RJx4a65c "elementData" "[Ljava/lang/Object;" ∈ gw := gw_of (p := 79) rfl rfl
theorem jw_68 : .fieldLink RJx4a65c 48 RJx4a65c "size" "I" ∈ gw := gw_of (p := 80) rfl rfl
theorem jw_69 : .fieldLink RJxc12de 7 RJxc12de "modCount" "I" ∈ gw := gw_of (p := 81) rfl rfl
theorem jw_70 : .fieldLink RJx4a65c 63 RJx4a65c "modCount" "I" ∈ gw := gw_of (p := 82) rfl rfl
theorem jw_71 : .sameField RJx4a65c RJxc12de "modCount" "I" ∈ gw := gw_of (p := 83) rfl rfl
theorem jw_106 : .instanceMethod yJx4a65c_add_9ea2d ∈ gw := gw_of (p := 118) rfl rfl
theorem jw_107 : .selects RJx4a65c yJx4a65c_add_9ea2d yJx4a65c_add_9ea2d ∈ gw := gw_of (p := 119) rfl rfl
theorem jw_108 : .code yJx4a65c_add_9ea2d prog_23_method_25_code 2 (Option.some Jvm.ClassFile.FieldType.boolean) ∈ gw := gw_of (p := 120) rfl rfl
theorem jw_109 : .methodLink RJx4a65c 131 yJx4a65c_add_72be8 ∈ gw := gw_of (p := 121) rfl rfl
theorem jw_111 : .instanceMethod yJx4a65c_add_72be8 ∈ gw := gw_of (p := 123) rfl rfl
theorem jw_112 : .code yJx4a65c_add_72be8 prog_23_method_24_code 4 (Option.none : Option Jvm.ClassFile.FieldType) ∈ gw := gw_of (p := 124) rfl rfl
theorem jw_113 : .methodLink RJx4a65c 129 yJx4a65c_grow_d5877 ∈ gw := gw_of (p := 125) rfl rfl
theorem jw_115 : .instanceMethod yJx4a65c_grow_d5877 ∈ gw := gw_of (p := 127) rfl rfl
theorem jw_116 : .code yJx4a65c_grow_d5877 prog_23_method_7_code 1 (Option.some (Jvm.ClassFile.FieldType.array (Jvm.ClassFile.FieldType.object "java/lang/Object"))) ∈ gw := gw_of (p := 128) rfl rfl
theorem jw_117 : .methodLink RJx4a65c 69 yJx4a65c_grow_92f84 ∈ gw := gw_of (p := 129) rfl rfl
theorem jw_119 : .instanceMethod yJx4a65c_grow_92f84 ∈ gw := gw_of (p := 131) rfl rfl
theorem jw_120 : .code yJx4a65c_grow_92f84 prog_23_method_6_code 4 (Option.some (Jvm.ClassFile.FieldType.array (Jvm.ClassFile.FieldType.object "java/lang/Object"))) ∈ gw := gw_of (p := 132) rfl rfl
theorem jw_121 : .methodLink RJx4a65c 73 yJ8_newLength_cabcc ∈ gw := gw_of (p := 133) rfl rfl
theorem jw_122 : .static yJ8_newLength_cabcc ∈ gw := gw_of (p := 134) rfl rfl
theorem jw_123 : .code yJ8_newLength_cabcc prog_30_method_27_code 4 (Option.some Jvm.ClassFile.FieldType.int) ∈ gw := gw_of (p := 135) rfl rfl
theorem jw_124 : .methodLink RJ8 194 ⟨"java/lang/Math", "max", "(II)I"⟩ ∈ gw := gw_of (p := 136) rfl rfl
theorem jw_125 : .static ⟨"java/lang/Math", "max", "(II)I"⟩ ∈ gw := gw_of (p := 137) rfl rfl
theorem jw_126 : .code ⟨"java/lang/Math", "max", "(II)I"⟩ prog_17_method_65_code 2 (Option.some Jvm.ClassFile.FieldType.int) ∈ gw := gw_of (p := 138) rfl rfl
theorem jw_127 : .constant RJ8 200 (2147483639 : Int32) ∈ gw := gw_of (p := 139) rfl rfl
theorem jw_131 : .methodLink RJx4a65c 66 yJ7_copyOf_1904c ∈ gw := gw_of (p := 143) rfl rfl
theorem jw_132 : .static yJ7_copyOf_1904c ∈ gw := gw_of (p := 144) rfl rfl
theorem jw_133 : .code yJ7_copyOf_1904c prog_24_method_119_code 2 (Option.some (Jvm.ClassFile.FieldType.array (Jvm.ClassFile.FieldType.object "java/lang/Object"))) ∈ gw := gw_of (p := 145) rfl rfl
theorem jw_134 : .methodLink RJ7 86 ⟨"java/lang/Object", "getClass", "()Ljava/lang/Class;"⟩ ∈ gw := gw_of (p := 146) rfl rfl
theorem jw_135 : .instanceMethod ⟨"java/lang/Object", "getClass", "()Ljava/lang/Class;"⟩ ∈ gw := gw_of (p := 147) rfl rfl
theorem jw_151 : .native ⟨"java/lang/Object", "getClass", "()Ljava/lang/Class;"⟩ ∈ gw := gw_of (p := 160) rfl rfl
theorem jw_152 : .methodLink RJ7 300 yJ7_copyOf_6403c ∈ gw := gw_of (p := 161) rfl rfl
theorem jw_153 : .static yJ7_copyOf_6403c ∈ gw := gw_of (p := 162) rfl rfl
theorem jw_154 : .code yJ7_copyOf_6403c prog_24_method_120_code 4 (Option.some (Jvm.ClassFile.FieldType.array (Jvm.ClassFile.FieldType.object "java/lang/Object"))) ∈ gw := gw_of (p := 163) rfl rfl
theorem jw_155 : .classLink RJ7 110 "[Ljava/lang/Object;" ∈ gw := gw_of (p := 164) rfl rfl
theorem jw_157 : .classLink RJ7 2 "java/lang/Object" ∈ gw := gw_of (p := 166) rfl rfl
theorem jw_158 : .methodLink RJ7 304 ⟨"java/lang/Math", "min", "(II)I"⟩ ∈ gw := gw_of (p := 167) rfl rfl
theorem jw_159 : .static ⟨"java/lang/Math", "min", "(II)I"⟩ ∈ gw := gw_of (p := 168) rfl rfl
theorem jw_160 : .code ⟨"java/lang/Math", "min", "(II)I"⟩ prog_17_method_69_code 2 (Option.some Jvm.ClassFile.FieldType.int) ∈ gw := gw_of (p := 169) rfl rfl
theorem jw_161 : .methodLink RJ7 150 ⟨"java/lang/System", "arraycopy", "(Ljava/lang/Object;ILjava/lang/Object;II)V"⟩ ∈ gw := gw_of (p := 170) rfl rfl
theorem jw_162 : .static ⟨"java/lang/System", "arraycopy", "(Ljava/lang/Object;ILjava/lang/Object;II)V"⟩ ∈ gw := gw_of (p := 171) rfl rfl
theorem jw_163 : .native ⟨"java/lang/System", "arraycopy", "(Ljava/lang/Object;ILjava/lang/Object;II)V"⟩ ∈ gw := gw_of (p := 172) rfl rfl
theorem jw_164 : .methodLink RJx4a65c 79 ⟨"java/lang/Math", "max", "(II)I"⟩ ∈ gw := gw_of (p := 173) rfl rfl
theorem jw_165 : .classLink RJx4a65c 7 "java/lang/Object" ∈ gw := gw_of (p := 174) rfl rfl
theorem jw_262 : .instanceMethod yJx4a65c_size_8abf5 ∈ gw := gw_of (p := 367) rfl rfl
theorem jw_263 : .selects RJx4a65c yJx4a65c_size_8abf5 yJx4a65c_size_8abf5 ∈ gw := gw_of (p := 368) rfl rfl
theorem jw_264 : .code yJx4a65c_size_8abf5 prog_23_method_8_code 1 (Option.some Jvm.ClassFile.FieldType.int) ∈ gw := gw_of (p := 369) rfl rfl
theorem jw_266 : .instanceMethod yJx4a65c_get_915e3 ∈ gw := gw_of (p := 371) rfl rfl
theorem jw_267 : .selects RJx4a65c yJx4a65c_get_915e3 yJx4a65c_get_915e3 ∈ gw := gw_of (p := 372) rfl rfl
theorem jw_268 : .code yJx4a65c_get_915e3 prog_23_method_20_code 2 (Option.some (Jvm.ClassFile.FieldType.object "java/lang/Object")) ∈ gw := gw_of (p := 373) rfl rfl
theorem jw_269 : .methodLink RJx4a65c 118 yJ15_checkIndex_7cf53 ∈ gw := gw_of (p := 374) rfl rfl
theorem jw_270 : .static yJ15_checkIndex_7cf53 ∈ gw := gw_of (p := 375) rfl rfl
theorem jw_271 : .code yJ15_checkIndex_7cf53 prog_27_method_17_code 2 (Option.some Jvm.ClassFile.FieldType.int) ∈ gw := gw_of (p := 376) rfl rfl
theorem jw_272 : .methodLink RJ15 105 yJ3_checkIndex_8e157 ∈ gw := gw_of (p := 377) rfl rfl
theorem jw_273 : .static yJ3_checkIndex_8e157 ∈ gw := gw_of (p := 378) rfl rfl
theorem jw_274 : .code yJ3_checkIndex_8e157 prog_31_method_11_code 3 (Option.some Jvm.ClassFile.FieldType.int) ∈ gw := gw_of (p := 379) rfl rfl
theorem jw_275 : .methodLink RJx4a65c 123 yJx4a65c_elementData_915e3 ∈ gw := gw_of (p := 380) rfl rfl
theorem jw_276 : .instanceMethod yJx4a65c_elementData_915e3 ∈ gw := gw_of (p := 381) rfl rfl
theorem jw_277 : .selects RJx4a65c yJx4a65c_elementData_915e3 yJx4a65c_elementData_915e3 ∈ gw := gw_of (p := 382) rfl rfl
theorem jw_278 : .code yJx4a65c_elementData_915e3 prog_23_method_18_code 2 (Option.some (Jvm.ClassFile.FieldType.object "java/lang/Object")) ∈ gw := gw_of (p := 383) rfl rfl
set_option maxRecDepth 100000 in
theorem jw_333 : .instanceMethod yJx4a65c_remove_915e3 ∈ gw := gw_of (p := 657) rfl rfl
set_option maxRecDepth 100000 in
theorem jw_334 : .selects RJx4a65c yJx4a65c_remove_915e3 yJx4a65c_remove_915e3 ∈ gw := gw_of (p := 658) rfl rfl
set_option maxRecDepth 100000 in
theorem jw_335 : .code yJx4a65c_remove_915e3 prog_23_method_29_code 4 (Option.some (Jvm.ClassFile.FieldType.object "java/lang/Object")) ∈ gw := gw_of (p := 659) rfl rfl
set_option maxRecDepth 100000 in
theorem jw_336 : .methodLink RJx4a65c 144 yJx4a65c_fastRemove_b59b0 ∈ gw := gw_of (p := 660) rfl rfl
set_option maxRecDepth 100000 in
theorem jw_338 : .instanceMethod yJx4a65c_fastRemove_b59b0 ∈ gw := gw_of (p := 662) rfl rfl
set_option maxRecDepth 100000 in
theorem jw_339 : .code yJx4a65c_fastRemove_b59b0 prog_23_method_39_code 4 (Option.none : Option Jvm.ClassFile.FieldType) ∈ gw := gw_of (p := 663) rfl rfl
set_option maxRecDepth 100000 in
theorem jw_340 : .methodLink RJx4a65c 112 ⟨"java/lang/System", "arraycopy", "(Ljava/lang/Object;ILjava/lang/Object;II)V"⟩ ∈ gw := gw_of (p := 664) rfl rfl
set_option maxRecDepth 100000 in
theorem jw_718 : .instanceMethod yJx4a65c_add_7a177 ∈ gw := gw_of (p := 666) rfl rfl
set_option maxRecDepth 100000 in
theorem jw_719 : .selects RJx4a65c yJx4a65c_add_7a177 yJx4a65c_add_7a177 ∈ gw := gw_of (p := 667) rfl rfl
set_option maxRecDepth 100000 in
theorem jw_720 : .code yJx4a65c_add_7a177 prog_23_method_26_code 5 (Option.none : Option Jvm.ClassFile.FieldType) ∈ gw := gw_of (p := 668) rfl rfl
set_option maxRecDepth 100000 in
theorem jw_721 : .methodLink RJx4a65c 135 yJx4a65c_rangeCheckForAdd_d00df ∈ gw := gw_of (p := 669) rfl rfl
set_option maxRecDepth 100000 in
theorem jw_723 : .instanceMethod yJx4a65c_rangeCheckForAdd_d00df ∈ gw := gw_of (p := 671) rfl rfl
set_option maxRecDepth 100000 in
theorem jw_724 : .code yJx4a65c_rangeCheckForAdd_d00df prog_23_method_45_code 2 (Option.none : Option Jvm.ClassFile.FieldType) ∈ gw := gw_of (p := 672) rfl rfl
set_option maxRecDepth 100000 in
theorem jw_1535 : .selects "[Ljava/lang/Object;" ⟨"java/lang/Object", "getClass", "()Ljava/lang/Class;"⟩ ⟨"java/lang/Object", "getClass", "()Ljava/lang/Class;"⟩ ∈ gw := gw_of (p := 933) rfl rfl
theorem jp_0 : .selects RJx4a65c yJx4a65c_add_72be8 yJx4a65c_add_72be8 ∈ gw := gw_of (p := 0) rfl rfl
theorem jp_1 : .selects RJx4a65c yJx4a65c_grow_d5877 yJx4a65c_grow_d5877 ∈ gw := gw_of (p := 1) rfl rfl
theorem jp_2 : .selects RJx4a65c yJx4a65c_grow_92f84 yJx4a65c_grow_92f84 ∈ gw := gw_of (p := 2) rfl rfl
theorem jp_3 : .selects RJx4a65c yJx4a65c_fastRemove_b59b0 yJx4a65c_fastRemove_b59b0 ∈ gw := gw_of (p := 11) rfl rfl
theorem jp_12 : .selects RJx4a65c yJx4a65c_rangeCheckForAdd_d00df yJx4a65c_rangeCheckForAdd_d00df ∈ gw := gw_of (p := 12) rfl rfl
