/-! classes, methods and links, printed by wip/whole/gen_names.py -/
def RX0 : String := "DedupVault$Chunk"
def TX0 : u_T := fun k => match k with
  | 0 => ("DedupVault$Chunk", "number", "I", true)
  | 1 => ("DedupVault$Chunk", "bytes", "LDedupVault$Piece;", true)
  | 2 => ("DedupVault$Chunk", "home", "LDedupVault$Container;", false)
  | _ => ("DedupVault$Chunk", "uses", "I", false)
def tyX0 : Nat → FieldType := fun k => match k with
  | 0 => .int
  | 1 => .object "DedupVault$Piece"
  | 2 => .object "DedupVault$Container"
  | _ => .int
abbrev wsX00 : List Cond := u_ws RX0 TX0 4
theorem nmX0 : ∀ a, a < 4 → ∀ b, b < 4 → a ≠ b → (TX0 a).2.1 ≠ (TX0 b).2.1 := by decide +kernel
theorem tyX0_ok : ∀ k, k < 4 → parseFieldDescriptor (TX0 k).2.2.1 = some (tyX0 k) := by decide +kernel
def RX1 : String := "DedupVault$Container"
def TX1 : u_T := fun k => match k with
  | 0 => ("DedupVault$Container", "number", "I", true)
  | 1 => ("DedupVault$Container", "content", "Ljava/util/ArrayList;", true)
  | _ => ("DedupVault$Container", "filled", "I", false)
def tyX1 : Nat → FieldType := fun k => match k with
  | 0 => .int
  | 1 => .object "java/util/ArrayList"
  | _ => .int
abbrev wsX10 : List Cond := u_ws RX1 TX1 3
theorem nmX1 : ∀ a, a < 3 → ∀ b, b < 3 → a ≠ b → (TX1 a).2.1 ≠ (TX1 b).2.1 := by decide +kernel
theorem tyX1_ok : ∀ k, k < 3 → parseFieldDescriptor (TX1 k).2.2.1 = some (tyX1 k) := by decide +kernel
def RX2 : String := "DedupVault$Piece"
def TX2 : u_T := fun k => match k with
  | 0 => ("DedupVault$Piece", "source", "LDedupVault$Row;", true)
  | 1 => ("DedupVault$Piece", "from", "I", true)
  | 2 => ("DedupVault$Piece", "size", "I", true)
  | _ => ("DedupVault$Piece", "mark", "I", true)
def tyX2 : Nat → FieldType := fun k => match k with
  | 0 => .object "DedupVault$Row"
  | 1 => .int
  | 2 => .int
  | _ => .int
abbrev wsX20 : List Cond := u_ws RX2 TX2 4
theorem nmX2 : ∀ a, a < 4 → ∀ b, b < 4 → a ≠ b → (TX2 a).2.1 ≠ (TX2 b).2.1 := by decide +kernel
theorem tyX2_ok : ∀ k, k < 4 → parseFieldDescriptor (TX2 k).2.2.1 = some (tyX2 k) := by decide +kernel
def RX3 : String := "DedupVault$Row"
def TX3 : u_T := fun k => match k with
  | 0 => ("DedupVault$Row", "cells", "[I", true)
  | _ => ("DedupVault$Row", "size", "I", false)
def tyX3 : Nat → FieldType := fun k => match k with
  | 0 => .array .int
  | _ => .int
abbrev wsX30 : List Cond := u_ws RX3 TX3 2
theorem nmX3 : ∀ a, a < 2 → ∀ b, b < 2 → a ≠ b → (TX3 a).2.1 ≠ (TX3 b).2.1 := by decide +kernel
theorem tyX3_ok : ∀ k, k < 2 → parseFieldDescriptor (TX3 k).2.2.1 = some (tyX3 k) := by decide +kernel
def RX4 : String := "DedupVault$Shelf"
def TX4 : u_T := fun k => match k with
  | 0 => ("DedupVault$Shelf", "boxes", "Ljava/util/ArrayList;", true)
  | 1 => ("DedupVault$Shelf", "recent", "Ljava/util/ArrayList;", true)
  | 2 => ("DedupVault$Shelf", "open", "LDedupVault$Container;", false)
  | 3 => ("DedupVault$Shelf", "nextChunk", "I", false)
  | 4 => ("DedupVault$Shelf", "hits", "I", false)
  | _ => ("DedupVault$Shelf", "reads", "I", false)
def tyX4 : Nat → FieldType := fun k => match k with
  | 0 => .object "java/util/ArrayList"
  | 1 => .object "java/util/ArrayList"
  | 2 => .object "DedupVault$Container"
  | 3 => .int
  | 4 => .int
  | _ => .int
abbrev wsX40 : List Cond := u_ws RX4 TX4 6
theorem nmX4 : ∀ a, a < 6 → ∀ b, b < 6 → a ≠ b → (TX4 a).2.1 ≠ (TX4 b).2.1 := by decide +kernel
theorem tyX4_ok : ∀ k, k < 6 → parseFieldDescriptor (TX4 k).2.2.1 = some (tyX4 k) := by decide +kernel
def RX5 : String := "DedupVault$Version"
def TX5 : u_T := fun k => match k with
  | 0 => ("DedupVault$Version", "file", "I", true)
  | 1 => ("DedupVault$Version", "number", "I", true)
  | 2 => ("DedupVault$Version", "copy", "LDedupVault$Row;", true)
  | 3 => ("DedupVault$Version", "entries", "Ljava/util/ArrayList;", true)
  | _ => ("DedupVault$Version", "base", "LDedupVault$Version;", false)
def tyX5 : Nat → FieldType := fun k => match k with
  | 0 => .int
  | 1 => .int
  | 2 => .object "DedupVault$Row"
  | 3 => .object "java/util/ArrayList"
  | _ => .object "DedupVault$Version"
abbrev wsX50 : List Cond := u_ws RX5 TX5 5
theorem nmX5 : ∀ a, a < 5 → ∀ b, b < 5 → a ≠ b → (TX5 a).2.1 ≠ (TX5 b).2.1 := by decide +kernel
theorem tyX5_ok : ∀ k, k < 5 → parseFieldDescriptor (TX5 k).2.2.1 = some (tyX5 k) := by decide +kernel
def RX6 : String := "DedupVault"
def TX6 : u_T := fun k => match k with
  | 0 => ("DedupVault", "draft", "LDedupVault$Row;", true)
  | 1 => ("DedupVault", "kept", "Ljava/util/ArrayList;", true)
  | 2 => ("DedupVault", "nextNumbers", "[I", true)
  | 3 => ("DedupVault", "shelf", "LDedupVault$Shelf;", true)
  | _ => ("DedupVault", "saves", "I", false)
def tyX6 : Nat → FieldType := fun k => match k with
  | 0 => .object "DedupVault$Row"
  | 1 => .object "java/util/ArrayList"
  | 2 => .array .int
  | 3 => .object "DedupVault$Shelf"
  | _ => .int
abbrev wsX60 : List Cond := u_ws RX6 TX6 5
theorem nmX6 : ∀ a, a < 5 → ∀ b, b < 5 → a ≠ b → (TX6 a).2.1 ≠ (TX6 b).2.1 := by decide +kernel
theorem tyX6_ok : ∀ k, k < 5 → parseFieldDescriptor (TX6 k).2.2.1 = some (tyX6 k) := by decide +kernel
def RX7 : String := "DedupVaultModel"
def TX7 : u_T := fun k => match k with
  | _ => ("", "", "", false)
def tyX7 : Nat → FieldType := fun k => match k with
  | _ => .int
abbrev wsX70 : List Cond := u_ws RX7 TX7 0
theorem nmX7 : ∀ a, a < 0 → ∀ b, b < 0 → a ≠ b → (TX7 a).2.1 ≠ (TX7 b).2.1 := by decide +kernel
theorem tyX7_ok : ∀ k, k < 0 → parseFieldDescriptor (TX7 k).2.2.1 = some (tyX7 k) := by decide +kernel
def RJx4a65c : String := "java/util/ArrayList"
def TJx4a65c : u_T := fun k => match k with
  | 0 => ("java/util/AbstractList", "modCount", "I", false)
  | 1 => ("java/util/ArrayList", "elementData", "[Ljava/lang/Object;", false)
  | _ => ("java/util/ArrayList", "size", "I", false)
def tyJx4a65c : Nat → FieldType := fun k => match k with
  | 0 => .int
  | 1 => .array (.object "java/lang/Object")
  | _ => .int
abbrev wsJx4a65c0 : List Cond := u_ws RJx4a65c TJx4a65c 3
theorem nmJx4a65c : ∀ a, a < 3 → ∀ b, b < 3 → a ≠ b → (TJx4a65c a).2.1 ≠ (TJx4a65c b).2.1 := by decide +kernel
theorem tyJx4a65c_ok : ∀ k, k < 3 → parseFieldDescriptor (TJx4a65c k).2.2.1 = some (tyJx4a65c k) := by decide +kernel
def RL : String := "DedupVaultLaw"
abbrev cJx4a65c_init_da8c8 : ByteArray := prog_23_method_2_code
def yJx4a65c_init_da8c8 : MethodName := ⟨RJx4a65c, "<init>", "()V"⟩
abbrev cJx4a65c_grow_92f84 : ByteArray := prog_23_method_6_code
def yJx4a65c_grow_92f84 : MethodName := ⟨RJx4a65c, "grow", "(I)[Ljava/lang/Object;"⟩
abbrev cJx4a65c_grow_d5877 : ByteArray := prog_23_method_7_code
def yJx4a65c_grow_d5877 : MethodName := ⟨RJx4a65c, "grow", "()[Ljava/lang/Object;"⟩
abbrev cJx4a65c_size_8abf5 : ByteArray := prog_23_method_8_code
def yJx4a65c_size_8abf5 : MethodName := ⟨RJx4a65c, "size", "()I"⟩
abbrev cJx4a65c_elementData_915e3 : ByteArray := prog_23_method_18_code
def yJx4a65c_elementData_915e3 : MethodName := ⟨RJx4a65c, "elementData", "(I)Ljava/lang/Object;"⟩
abbrev cJx4a65c_get_915e3 : ByteArray := prog_23_method_20_code
def yJx4a65c_get_915e3 : MethodName := ⟨RJx4a65c, "get", "(I)Ljava/lang/Object;"⟩
abbrev cJx4a65c_add_72be8 : ByteArray := prog_23_method_24_code
def yJx4a65c_add_72be8 : MethodName := ⟨RJx4a65c, "add", "(Ljava/lang/Object;[Ljava/lang/Object;I)V"⟩
abbrev cJx4a65c_add_9ea2d : ByteArray := prog_23_method_25_code
def yJx4a65c_add_9ea2d : MethodName := ⟨RJx4a65c, "add", "(Ljava/lang/Object;)Z"⟩
abbrev cJx4a65c_add_7a177 : ByteArray := prog_23_method_26_code
def yJx4a65c_add_7a177 : MethodName := ⟨RJx4a65c, "add", "(ILjava/lang/Object;)V"⟩
abbrev cJx4a65c_remove_915e3 : ByteArray := prog_23_method_29_code
def yJx4a65c_remove_915e3 : MethodName := ⟨RJx4a65c, "remove", "(I)Ljava/lang/Object;"⟩
abbrev cJx4a65c_fastRemove_b59b0 : ByteArray := prog_23_method_39_code
def yJx4a65c_fastRemove_b59b0 : MethodName := ⟨RJx4a65c, "fastRemove", "([Ljava/lang/Object;I)V"⟩
abbrev cJx4a65c_rangeCheckForAdd_d00df : ByteArray := prog_23_method_45_code
def yJx4a65c_rangeCheckForAdd_d00df : MethodName := ⟨RJx4a65c, "rangeCheckForAdd", "(I)V"⟩
abbrev cX0_init : ByteArray := prog_2_method_1_code
def yX0_init : MethodName := ⟨RX0, "<init>", "(ILDedupVault$Piece;LDedupVault$Container;)V"⟩
abbrev cX0_number : ByteArray := prog_2_method_2_code
def yX0_number : MethodName := ⟨RX0, "number", "()I"⟩
abbrev cX0_bytes : ByteArray := prog_2_method_3_code
def yX0_bytes : MethodName := ⟨RX0, "bytes", "()LDedupVault$Piece;"⟩
abbrev cX0_home : ByteArray := prog_2_method_4_code
def yX0_home : MethodName := ⟨RX0, "home", "()LDedupVault$Container;"⟩
abbrev cX0_moveTo : ByteArray := prog_2_method_5_code
def yX0_moveTo : MethodName := ⟨RX0, "moveTo", "(LDedupVault$Container;)V"⟩
abbrev cX0_uses : ByteArray := prog_2_method_6_code
def yX0_uses : MethodName := ⟨RX0, "uses", "()I"⟩
abbrev cX0_addUses : ByteArray := prog_2_method_7_code
def yX0_addUses : MethodName := ⟨RX0, "addUses", "(I)V"⟩
abbrev cX1_init : ByteArray := prog_3_method_1_code
def yX1_init : MethodName := ⟨RX1, "<init>", "(I)V"⟩
abbrev cX1_number : ByteArray := prog_3_method_2_code
def yX1_number : MethodName := ⟨RX1, "number", "()I"⟩
abbrev cX1_filled : ByteArray := prog_3_method_3_code
def yX1_filled : MethodName := ⟨RX1, "filled", "()I"⟩
abbrev cX1_count : ByteArray := prog_3_method_4_code
def yX1_count : MethodName := ⟨RX1, "count", "()I"⟩
abbrev cX1_fits : ByteArray := prog_3_method_5_code
def yX1_fits : MethodName := ⟨RX1, "fits", "(LDedupVault$Piece;)Z"⟩
abbrev cX1_put : ByteArray := prog_3_method_6_code
def yX1_put : MethodName := ⟨RX1, "put", "(LDedupVault$Chunk;)V"⟩
abbrev cX1_withBytes : ByteArray := prog_3_method_7_code
def yX1_withBytes : MethodName := ⟨RX1, "withBytes", "(LDedupVault$Piece;)LDedupVault$Chunk;"⟩
abbrev cX1_withNumber : ByteArray := prog_3_method_8_code
def yX1_withNumber : MethodName := ⟨RX1, "withNumber", "(I)LDedupVault$Chunk;"⟩
abbrev cX1_needed : ByteArray := prog_3_method_9_code
def yX1_needed : MethodName := ⟨RX1, "needed", "()Ljava/util/ArrayList;"⟩
abbrev cX1_neededBytes : ByteArray := prog_3_method_10_code
def yX1_neededBytes : MethodName := ⟨RX1, "neededBytes", "()I"⟩
abbrev cX2_init : ByteArray := prog_4_method_1_code
def yX2_init : MethodName := ⟨RX2, "<init>", "(LDedupVault$Row;II)V"⟩
abbrev cX2_markOf : ByteArray := prog_4_method_2_code
def yX2_markOf : MethodName := ⟨RX2, "markOf", "(LDedupVault$Row;II)I"⟩
abbrev cX2_size : ByteArray := prog_4_method_3_code
def yX2_size : MethodName := ⟨RX2, "size", "()I"⟩
abbrev cX2_mark : ByteArray := prog_4_method_4_code
def yX2_mark : MethodName := ⟨RX2, "mark", "()I"⟩
abbrev cX2_get : ByteArray := prog_4_method_5_code
def yX2_get : MethodName := ⟨RX2, "get", "(I)I"⟩
abbrev cX2_detached : ByteArray := prog_4_method_6_code
def yX2_detached : MethodName := ⟨RX2, "detached", "()LDedupVault$Piece;"⟩
abbrev cX2_sameAs : ByteArray := prog_4_method_7_code
def yX2_sameAs : MethodName := ⟨RX2, "sameAs", "(LDedupVault$Piece;)Z"⟩
abbrev cX3_init : ByteArray := prog_5_method_1_code
def yX3_init : MethodName := ⟨RX3, "<init>", "(I)V"⟩
abbrev cX3_size : ByteArray := prog_5_method_2_code
def yX3_size : MethodName := ⟨RX3, "size", "()I"⟩
abbrev cX3_get : ByteArray := prog_5_method_3_code
def yX3_get : MethodName := ⟨RX3, "get", "(I)I"⟩
abbrev cX3_add : ByteArray := prog_5_method_4_code
def yX3_add : MethodName := ⟨RX3, "add", "(I)V"⟩
abbrev cX3_addPart : ByteArray := prog_5_method_5_code
def yX3_addPart : MethodName := ⟨RX3, "addPart", "(LDedupVault$Row;II)V"⟩
abbrev cX3_putIn : ByteArray := prog_5_method_6_code
def yX3_putIn : MethodName := ⟨RX3, "putIn", "(II)V"⟩
abbrev cX3_takeOut : ByteArray := prog_5_method_7_code
def yX3_takeOut : MethodName := ⟨RX3, "takeOut", "(II)V"⟩
abbrev cX4_init : ByteArray := prog_6_method_1_code
def yX4_init : MethodName := ⟨RX4, "<init>", "()V"⟩
abbrev cX4_hits : ByteArray := prog_6_method_2_code
def yX4_hits : MethodName := ⟨RX4, "hits", "()I"⟩
abbrev cX4_reads : ByteArray := prog_6_method_3_code
def yX4_reads : MethodName := ⟨RX4, "reads", "()I"⟩
abbrev cX4_containerCount : ByteArray := prog_6_method_4_code
def yX4_containerCount : MethodName := ⟨RX4, "containerCount", "()I"⟩
abbrev cX4_openNumber : ByteArray := prog_6_method_5_code
def yX4_openNumber : MethodName := ⟨RX4, "openNumber", "()I"⟩
abbrev cX4_recentNumber : ByteArray := prog_6_method_6_code
def yX4_recentNumber : MethodName := ⟨RX4, "recentNumber", "(I)I"⟩
abbrev cX4_has : ByteArray := prog_6_method_7_code
def yX4_has : MethodName := ⟨RX4, "has", "(LDedupVault$Piece;)Z"⟩
abbrev cX4_findChunk : ByteArray := prog_6_method_8_code
def yX4_findChunk : MethodName := ⟨RX4, "findChunk", "(I)LDedupVault$Chunk;"⟩
abbrev cX4_chunkCount : ByteArray := prog_6_method_9_code
def yX4_chunkCount : MethodName := ⟨RX4, "chunkCount", "()I"⟩
abbrev cX4_filledBytes : ByteArray := prog_6_method_10_code
def yX4_filledBytes : MethodName := ⟨RX4, "filledBytes", "()I"⟩
abbrev cX4_garbageBytes : ByteArray := prog_6_method_11_code
def yX4_garbageBytes : MethodName := ⟨RX4, "garbageBytes", "()I"⟩
abbrev cX4_chunkFor : ByteArray := prog_6_method_12_code
def yX4_chunkFor : MethodName := ⟨RX4, "chunkFor", "(LDedupVault$Piece;)LDedupVault$Chunk;"⟩
abbrev cX4_chunkIn : ByteArray := prog_6_method_13_code
def yX4_chunkIn : MethodName := ⟨RX4, "chunkIn", "(Ljava/util/ArrayList;LDedupVault$Piece;)LDedupVault$Chunk;"⟩
abbrev cX4_storeNew : ByteArray := prog_6_method_14_code
def yX4_storeNew : MethodName := ⟨RX4, "storeNew", "(LDedupVault$Piece;)LDedupVault$Chunk;"⟩
abbrev cX4_openFor : ByteArray := prog_6_method_15_code
def yX4_openFor : MethodName := ⟨RX4, "openFor", "(LDedupVault$Piece;)LDedupVault$Container;"⟩
abbrev cX4_use : ByteArray := prog_6_method_16_code
def yX4_use : MethodName := ⟨RX4, "use", "(LDedupVault$Container;)V"⟩
abbrev cX4_leaveCache : ByteArray := prog_6_method_17_code
def yX4_leaveCache : MethodName := ⟨RX4, "leaveCache", "(LDedupVault$Container;)V"⟩
abbrev cX4_collectGarbage : ByteArray := prog_6_method_18_code
def yX4_collectGarbage : MethodName := ⟨RX4, "collectGarbage", "()I"⟩
abbrev cX4_empty : ByteArray := prog_6_method_19_code
def yX4_empty : MethodName := ⟨RX4, "empty", "(LDedupVault$Container;)V"⟩
abbrev cX5_init : ByteArray := prog_7_method_1_code
def yX5_init : MethodName := ⟨RX5, "<init>", "(IILDedupVault$Row;)V"⟩
abbrev cX5_file : ByteArray := prog_7_method_2_code
def yX5_file : MethodName := ⟨RX5, "file", "()I"⟩
abbrev cX5_number : ByteArray := prog_7_method_3_code
def yX5_number : MethodName := ⟨RX5, "number", "()I"⟩
abbrev cX5_copy : ByteArray := prog_7_method_4_code
def yX5_copy : MethodName := ⟨RX5, "copy", "()LDedupVault$Row;"⟩
abbrev cX5_base : ByteArray := prog_7_method_5_code
def yX5_base : MethodName := ⟨RX5, "base", "()LDedupVault$Version;"⟩
abbrev cX5_entryCount : ByteArray := prog_7_method_6_code
def yX5_entryCount : MethodName := ⟨RX5, "entryCount", "()I"⟩
abbrev cX5_entryNumber : ByteArray := prog_7_method_7_code
def yX5_entryNumber : MethodName := ⟨RX5, "entryNumber", "(I)I"⟩
abbrev cX5_addEntry : ByteArray := prog_7_method_8_code
def yX5_addEntry : MethodName := ⟨RX5, "addEntry", "(LDedupVault$Chunk;)V"⟩
abbrev cX5_releaseEntries : ByteArray := prog_7_method_9_code
def yX5_releaseEntries : MethodName := ⟨RX5, "releaseEntries", "()V"⟩
abbrev cX5_restored : ByteArray := prog_7_method_10_code
def yX5_restored : MethodName := ⟨RX5, "restored", "(I)I"⟩
abbrev cX5_chain : ByteArray := prog_7_method_11_code
def yX5_chain : MethodName := ⟨RX5, "chain", "()I"⟩
abbrev cX5_cost : ByteArray := prog_7_method_12_code
def yX5_cost : MethodName := ⟨RX5, "cost", "()I"⟩
abbrev cX5_chooseBase : ByteArray := prog_7_method_13_code
def yX5_chooseBase : MethodName := ⟨RX5, "chooseBase", "(LDedupVault$Version;)V"⟩
abbrev cX5_loseBase : ByteArray := prog_7_method_14_code
def yX5_loseBase : MethodName := ⟨RX5, "loseBase", "(LDedupVault$Version;)V"⟩
abbrev cX5_differenceTo : ByteArray := prog_7_method_15_code
def yX5_differenceTo : MethodName := ⟨RX5, "differenceTo", "(LDedupVault$Version;)I"⟩
abbrev cX5_fromEnd : ByteArray := prog_7_method_16_code
def yX5_fromEnd : MethodName := ⟨RX5, "fromEnd", "(I)I"⟩
abbrev cX6_init : ByteArray := prog_1_method_1_code
def yX6_init : MethodName := ⟨RX6, "<init>", "()V"⟩
abbrev cX6_append : ByteArray := prog_1_method_2_code
def yX6_append : MethodName := ⟨RX6, "append", "(III)I"⟩
abbrev cX6_appendCopy : ByteArray := prog_1_method_3_code
def yX6_appendCopy : MethodName := ⟨RX6, "appendCopy", "(IIII)I"⟩
abbrev cX6_insert : ByteArray := prog_1_method_4_code
def yX6_insert : MethodName := ⟨RX6, "insert", "(II)I"⟩
abbrev cX6_cut : ByteArray := prog_1_method_5_code
def yX6_cut : MethodName := ⟨RX6, "cut", "(II)I"⟩
abbrev cX6_clearDraft : ByteArray := prog_1_method_6_code
def yX6_clearDraft : MethodName := ⟨RX6, "clearDraft", "()I"⟩
abbrev cX6_draftLength : ByteArray := prog_1_method_7_code
def yX6_draftLength : MethodName := ⟨RX6, "draftLength", "()I"⟩
abbrev cX6_draftAt : ByteArray := prog_1_method_8_code
def yX6_draftAt : MethodName := ⟨RX6, "draftAt", "(I)I"⟩
abbrev cX6_save : ByteArray := prog_1_method_9_code
def yX6_save : MethodName := ⟨RX6, "save", "(I)I"⟩
abbrev cX6_wouldStore : ByteArray := prog_1_method_10_code
def yX6_wouldStore : MethodName := ⟨RX6, "wouldStore", "()I"⟩
abbrev cX6_forget : ByteArray := prog_1_method_11_code
def yX6_forget : MethodName := ⟨RX6, "forget", "(II)I"⟩
abbrev cX6_collect : ByteArray := prog_1_method_12_code
def yX6_collect : MethodName := ⟨RX6, "collect", "()I"⟩
abbrev cX6_versions : ByteArray := prog_1_method_13_code
def yX6_versions : MethodName := ⟨RX6, "versions", "()I"⟩
abbrev cX6_isKept : ByteArray := prog_1_method_14_code
def yX6_isKept : MethodName := ⟨RX6, "isKept", "(II)Z"⟩
abbrev cX6_latest : ByteArray := prog_1_method_15_code
def yX6_latest : MethodName := ⟨RX6, "latest", "(I)I"⟩
abbrev cX6_length : ByteArray := prog_1_method_16_code
def yX6_length : MethodName := ⟨RX6, "length", "(II)I"⟩
abbrev cX6_byteAt : ByteArray := prog_1_method_17_code
def yX6_byteAt : MethodName := ⟨RX6, "byteAt", "(III)I"⟩
abbrev cX6_byteByCopy : ByteArray := prog_1_method_18_code
def yX6_byteByCopy : MethodName := ⟨RX6, "byteByCopy", "(III)I"⟩
abbrev cX6_chunksOf : ByteArray := prog_1_method_19_code
def yX6_chunksOf : MethodName := ⟨RX6, "chunksOf", "(II)I"⟩
abbrev cX6_chunkAt : ByteArray := prog_1_method_20_code
def yX6_chunkAt : MethodName := ⟨RX6, "chunkAt", "(III)I"⟩
abbrev cX6_baseOf : ByteArray := prog_1_method_21_code
def yX6_baseOf : MethodName := ⟨RX6, "baseOf", "(II)I"⟩
abbrev cX6_chainOf : ByteArray := prog_1_method_22_code
def yX6_chainOf : MethodName := ⟨RX6, "chainOf", "(II)I"⟩
abbrev cX6_costOf : ByteArray := prog_1_method_23_code
def yX6_costOf : MethodName := ⟨RX6, "costOf", "(II)I"⟩
abbrev cX6_isStored : ByteArray := prog_1_method_24_code
def yX6_isStored : MethodName := ⟨RX6, "isStored", "(I)Z"⟩
abbrev cX6_chunks : ByteArray := prog_1_method_25_code
def yX6_chunks : MethodName := ⟨RX6, "chunks", "()I"⟩
abbrev cX6_chunkLength : ByteArray := prog_1_method_26_code
def yX6_chunkLength : MethodName := ⟨RX6, "chunkLength", "(I)I"⟩
abbrev cX6_fingerprint : ByteArray := prog_1_method_27_code
def yX6_fingerprint : MethodName := ⟨RX6, "fingerprint", "(I)I"⟩
abbrev cX6_references : ByteArray := prog_1_method_28_code
def yX6_references : MethodName := ⟨RX6, "references", "(I)I"⟩
abbrev cX6_containerOf : ByteArray := prog_1_method_29_code
def yX6_containerOf : MethodName := ⟨RX6, "containerOf", "(I)I"⟩
abbrev cX6_containers : ByteArray := prog_1_method_30_code
def yX6_containers : MethodName := ⟨RX6, "containers", "()I"⟩
abbrev cX6_openContainer : ByteArray := prog_1_method_31_code
def yX6_openContainer : MethodName := ⟨RX6, "openContainer", "()I"⟩
abbrev cX6_cached : ByteArray := prog_1_method_32_code
def yX6_cached : MethodName := ⟨RX6, "cached", "(I)I"⟩
abbrev cX6_cacheHits : ByteArray := prog_1_method_33_code
def yX6_cacheHits : MethodName := ⟨RX6, "cacheHits", "()I"⟩
abbrev cX6_indexReads : ByteArray := prog_1_method_34_code
def yX6_indexReads : MethodName := ⟨RX6, "indexReads", "()I"⟩
abbrev cX6_storedBytes : ByteArray := prog_1_method_35_code
def yX6_storedBytes : MethodName := ⟨RX6, "storedBytes", "()I"⟩
abbrev cX6_savedBytes : ByteArray := prog_1_method_36_code
def yX6_savedBytes : MethodName := ⟨RX6, "savedBytes", "()I"⟩
abbrev cX6_garbage : ByteArray := prog_1_method_37_code
def yX6_garbage : MethodName := ⟨RX6, "garbage", "()I"⟩
abbrev cX6_ratio : ByteArray := prog_1_method_38_code
def yX6_ratio : MethodName := ⟨RX6, "ratio", "()D"⟩
abbrev cX6_noByteValue : ByteArray := prog_1_method_39_code
def yX6_noByteValue : MethodName := ⟨RX6, "noByteValue", "(I)Z"⟩
abbrev cX6_noPlace : ByteArray := prog_1_method_40_code
def yX6_noPlace : MethodName := ⟨RX6, "noPlace", "(II)Z"⟩
abbrev cX6_noSpan : ByteArray := prog_1_method_41_code
def yX6_noSpan : MethodName := ⟨RX6, "noSpan", "(III)Z"⟩
abbrev cX6_numberOf : ByteArray := prog_1_method_42_code
def yX6_numberOf : MethodName := ⟨RX6, "numberOf", "(LDedupVault$Version;)I"⟩
abbrev cX6_findVersion : ByteArray := prog_1_method_43_code
def yX6_findVersion : MethodName := ⟨RX6, "findVersion", "(II)LDedupVault$Version;"⟩
abbrev cX6_demandVersion : ByteArray := prog_1_method_44_code
def yX6_demandVersion : MethodName := ⟨RX6, "demandVersion", "(II)LDedupVault$Version;"⟩
abbrev cX6_demandChunk : ByteArray := prog_1_method_45_code
def yX6_demandChunk : MethodName := ⟨RX6, "demandChunk", "(I)LDedupVault$Chunk;"⟩
abbrev cX6_latestKept : ByteArray := prog_1_method_46_code
def yX6_latestKept : MethodName := ⟨RX6, "latestKept", "(I)LDedupVault$Version;"⟩
abbrev cX6_piecesOf : ByteArray := prog_1_method_47_code
def yX6_piecesOf : MethodName := ⟨RX6, "piecesOf", "(LDedupVault$Row;)Ljava/util/ArrayList;"⟩
abbrev cX6_endsPiece : ByteArray := prog_1_method_48_code
def yX6_endsPiece : MethodName := ⟨RX6, "endsPiece", "(LDedupVault$Row;II)Z"⟩
abbrev cX6_windowSum : ByteArray := prog_1_method_49_code
def yX6_windowSum : MethodName := ⟨RX6, "windowSum", "(LDedupVault$Row;I)I"⟩
abbrev cX6_cameBefore : ByteArray := prog_1_method_50_code
def yX6_cameBefore : MethodName := ⟨RX6, "cameBefore", "(Ljava/util/ArrayList;I)Z"⟩
abbrev cL_draw : ByteArray := method_2_code
def yL_draw : MethodName := ⟨RL, "draw", "([III)I"⟩
abbrev cL_isIn : ByteArray := method_3_code
def yL_isIn : MethodName := ⟨RL, "isIn", "(JI)Z"⟩
abbrev cL_many : ByteArray := method_4_code
def yL_many : MethodName := ⟨RL, "many", "([J)I"⟩
abbrev cL_kept : ByteArray := method_5_code
def yL_kept : MethodName := ⟨RL, "kept", "([JII)I"⟩
abbrev cL_isVersion : ByteArray := method_6_code
def yL_isVersion : MethodName := ⟨RL, "isVersion", "(LDedupVault;II)Z"⟩
abbrev cL_isListed : ByteArray := method_7_code
def yL_isListed : MethodName := ⟨RL, "isListed", "(LDedupVault;[JII)Z"⟩
abbrev cL_areUnlike : ByteArray := method_8_code
def yL_areUnlike : MethodName := ⟨RL, "areUnlike", "(LDedupVault;IIIIII)Z"⟩
abbrev cL_areVersions : ByteArray := method_9_code
def yL_areVersions : MethodName := ⟨RL, "areVersions", "(LDedupVault;[JII)Z"⟩
abbrev cL_uses : ByteArray := method_10_code
def yL_uses : MethodName := ⟨RL, "uses", "(LDedupVault;[JI)I"⟩
abbrev cL_areChunks : ByteArray := method_11_code
def yL_areChunks : MethodName := ⟨RL, "areChunks", "(LDedupVault;[J)Z"⟩
abbrev cL_isCache : ByteArray := method_12_code
def yL_isCache : MethodName := ⟨RL, "isCache", "(LDedupVault;)Z"⟩
abbrev cL_saves : ByteArray := method_13_code
def yL_saves : MethodName := ⟨RL, "saves", "(LDedupVault;[JII)Z"⟩
abbrev cL_forgets : ByteArray := method_14_code
def yL_forgets : MethodName := ⟨RL, "forgets", "(LDedupVault;[JII)Z"⟩
abbrev cL_collects : ByteArray := method_15_code
def yL_collects : MethodName := ⟨RL, "collects", "(LDedupVault;[J)Z"⟩
abbrev cL_drafts : ByteArray := method_16_code
def yL_drafts : MethodName := ⟨RL, "drafts", "(LDedupVault;III[J)Z"⟩
abbrev cL_vault : ByteArray := method_17_code
def yL_vault : MethodName := ⟨RL, "vault", "([II)Z"⟩
def RN (k : Nat) : String := match k with
  | 0 => RJx4a65c
  | 1 => RX0
  | 2 => RX1
  | 3 => RX2
  | 4 => RX3
  | 5 => RX4
  | 6 => RX5
  | 7 => RX6
  | 8 => RX0
  | _ => RL
def TN (k : Nat) : u_T := match k with
  | 0 => TJx4a65c
  | 1 => TX0
  | 2 => TX1
  | 3 => TX2
  | 4 => TX3
  | 5 => TX4
  | 6 => TX5
  | 7 => TX6
  | _ => TX0
def tyN (k : Nat) : Nat → FieldType := match k with
  | 0 => tyJx4a65c
  | 1 => tyX0
  | 2 => tyX1
  | 3 => tyX2
  | 4 => tyX3
  | 5 => tyX4
  | 6 => tyX5
  | 7 => tyX6
  | _ => tyX0
def NN (k : Nat) : Nat := match k with
  | 0 => 3
  | 1 => 4
  | 2 => 3
  | 3 => 4
  | 4 => 2
  | 5 => 6
  | 6 => 5
  | 7 => 5
  | 8 => 4
  | _ => 0
abbrev kcl : List vw_C := [(RJx4a65c, TJx4a65c, 3), (RX0, TX0, 4), (RX1, TX1, 3), (RX2, TX2, 4), (RX3, TX3, 2), (RX4, TX4, 6), (RX5, TX5, 5), (RX6, TX6, 5), (RX0, TX0, 4)]
def fI (ci k : Nat) : Bool := match ci with
  | 0 => decide (k ∈ ([0, 2] : List Nat))
  | 1 => decide (k ∈ ([0, 3] : List Nat))
  | 2 => decide (k ∈ ([0, 2] : List Nat))
  | 3 => decide (k ∈ ([1, 2, 3] : List Nat))
  | 4 => decide (k ∈ ([1] : List Nat))
  | 5 => decide (k ∈ ([3, 4, 5] : List Nat))
  | 6 => decide (k ∈ ([0, 1] : List Nat))
  | 7 => decide (k ∈ ([4] : List Nat))
  | 8 => decide (k ∈ ([0, 3] : List Nat))
  | _ => false
def fF (ci k : Nat) : Bool := match ci with
  | 0 => decide (k ∈ ([] : List Nat))
  | 1 => decide (k ∈ ([0, 1] : List Nat))
  | 2 => decide (k ∈ ([0, 1] : List Nat))
  | 3 => decide (k ∈ ([0, 1, 2, 3] : List Nat))
  | 4 => decide (k ∈ ([0] : List Nat))
  | 5 => decide (k ∈ ([0, 1] : List Nat))
  | 6 => decide (k ∈ ([0, 1, 2, 3] : List Nat))
  | 7 => decide (k ∈ ([0, 1, 2, 3] : List Nat))
  | 8 => decide (k ∈ ([0, 1] : List Nat))
  | _ => false
abbrev MI : Type := MethodName × ByteArray × Nat × Option FieldType × Nat × Bool × Nat
def mPT_0 : List (MI × (Nat × Nat × Nat × Nat)) := [
  ((yJx4a65c_init_da8c8, cJx4a65c_init_da8c8, 1, none, 0, false, 0), (69, 22, 68, 68)),
  ((yJx4a65c_grow_92f84, cJx4a65c_grow_92f84, 4, (some (.array (.object "java/lang/Object"))), 0, false, 1), (132, 22, 131, 2)),
  ((yJx4a65c_grow_d5877, cJx4a65c_grow_d5877, 1, (some (.array (.object "java/lang/Object"))), 0, false, 0), (128, 22, 127, 1)),
  ((yJx4a65c_size_8abf5, cJx4a65c_size_8abf5, 1, (some (.int)), 0, false, 0), (369, 22, 367, 368)),
  ((yJx4a65c_elementData_915e3, cJx4a65c_elementData_915e3, 2, (some (.object "java/lang/Object")), 0, false, 1), (383, 22, 381, 382)),
  ((yJx4a65c_get_915e3, cJx4a65c_get_915e3, 2, (some (.object "java/lang/Object")), 0, false, 1), (373, 22, 371, 372)),
  ((yJx4a65c_add_72be8, cJx4a65c_add_72be8, 4, none, 0, false, 3), (124, 22, 123, 0)),
  ((yJx4a65c_add_9ea2d, cJx4a65c_add_9ea2d, 2, (some (.boolean)), 0, false, 1), (120, 22, 118, 119)),
  ((yJx4a65c_add_7a177, cJx4a65c_add_7a177, 5, none, 0, false, 2), (668, 22, 666, 667)),
  ((yJx4a65c_remove_915e3, cJx4a65c_remove_915e3, 4, (some (.object "java/lang/Object")), 0, false, 1), (659, 22, 657, 658)),
  ((yJx4a65c_fastRemove_b59b0, cJx4a65c_fastRemove_b59b0, 4, none, 0, false, 2), (663, 22, 662, 11)),
  ((yJx4a65c_rangeCheckForAdd_d00df, cJx4a65c_rangeCheckForAdd_d00df, 2, none, 0, false, 1), (672, 22, 671, 12)),
  ((yJx4a65c_size_8abf5, cJx4a65c_size_8abf5, 1, (some (.int)), 0, false, 0), (369, 22, 367, 368)),
  ((yX0_init, cX0_init, 4, none, 1, false, 3), (620, 39, 619, 619)),
  ((yX0_number, cX0_number, 1, (some (.int)), 1, false, 0), (703, 39, 701, 702)),
  ((yX0_bytes, cX0_bytes, 1, (some (.object "DedupVault$Piece")), 1, false, 0), (424, 39, 422, 423))]
def mPT_1 : List (MI × (Nat × Nat × Nat × Nat)) := [
  ((yX0_home, cX0_home, 1, (some (.object "DedupVault$Container")), 1, false, 0), (647, 39, 645, 646)),
  ((yX0_moveTo, cX0_moveTo, 2, none, 1, false, 1), (643, 39, 641, 642)),
  ((yX0_uses, cX0_uses, 1, (some (.int)), 1, false, 0), (791, 39, 789, 790)),
  ((yX0_addUses, cX0_addUses, 2, none, 1, false, 1), (681, 39, 679, 680)),
  ((yX1_init, cX1_init, 2, none, 2, false, 1), (103, 24, 102, 102)),
  ((yX1_number, cX1_number, 1, (some (.int)), 2, false, 0), (606, 24, 604, 605)),
  ((yX1_filled, cX1_filled, 1, (some (.int)), 2, false, 0), (527, 24, 525, 526)),
  ((yX1_count, cX1_count, 1, (some (.int)), 2, false, 0), (902, 24, 900, 901)),
  ((yX1_fits, cX1_fits, 2, (some (.boolean)), 2, false, 1), (601, 24, 599, 600)),
  ((yX1_put, cX1_put, 2, none, 2, false, 1), (638, 24, 636, 637)),
  ((yX1_withBytes, cX1_withBytes, 3, (some (.object "DedupVault$Chunk")), 2, false, 1), (509, 24, 507, 508)),
  ((yX1_withNumber, cX1_withNumber, 3, (some (.object "DedupVault$Chunk")), 2, false, 1), (736, 24, 734, 735)),
  ((yX1_needed, cX1_needed, 3, (some (.object "java/util/ArrayList")), 2, false, 0), (832, 24, 830, 831)),
  ((yX1_neededBytes, cX1_neededBytes, 3, (some (.int)), 2, false, 0), (787, 24, 785, 786)),
  ((yX2_init, cX2_init, 4, none, 3, false, 3), (471, 37, 470, 470)),
  ((yX2_markOf, cX2_markOf, 6, (some (.int)), 3, true, 3), (475, 37, 474, 474))]
def mPT_2 : List (MI × (Nat × Nat × Nat × Nat)) := [
  ((yX2_size, cX2_size, 1, (some (.int)), 3, false, 0), (428, 37, 426, 427)),
  ((yX2_mark, cX2_mark, 1, (some (.int)), 3, false, 0), (884, 37, 882, 883)),
  ((yX2_get, cX2_get, 2, (some (.int)), 3, false, 1), (432, 37, 430, 431)),
  ((yX2_detached, cX2_detached, 2, (some (.object "DedupVault$Piece")), 3, false, 0), (612, 37, 610, 611)),
  ((yX2_sameAs, cX2_sameAs, 3, (some (.boolean)), 3, false, 1), (496, 37, 494, 495)),
  ((yX3_init, cX3_init, 2, none, 4, false, 1), (55, 19, 54, 54)),
  ((yX3_size, cX3_size, 1, (some (.int)), 4, false, 0), (227, 19, 225, 226)),
  ((yX3_get, cX3_get, 2, (some (.int)), 4, false, 1), (347, 19, 345, 346)),
  ((yX3_add, cX3_add, 2, none, 4, false, 1), (317, 19, 315, 316)),
  ((yX3_addPart, cX3_addPart, 5, none, 4, false, 3), (407, 19, 405, 406)),
  ((yX3_putIn, cX3_putIn, 4, none, 4, false, 2), (321, 19, 319, 320)),
  ((yX3_takeOut, cX3_takeOut, 4, none, 4, false, 2), (446, 19, 444, 445)),
  ((yX4_init, cX4_init, 1, none, 5, false, 0), (95, 23, 94, 94)),
  ((yX4_hits, cX4_hits, 1, (some (.int)), 5, false, 0), (535, 23, 533, 534)),
  ((yX4_reads, cX4_reads, 1, (some (.int)), 5, false, 0), (543, 23, 541, 542)),
  ((yX4_containerCount, cX4_containerCount, 1, (some (.int)), 5, false, 0), (910, 23, 908, 909))]
def mPT_3 : List (MI × (Nat × Nat × Nat × Nat)) := [
  ((yX4_openNumber, cX4_openNumber, 1, (some (.int)), 5, false, 0), (816, 23, 814, 815)),
  ((yX4_recentNumber, cX4_recentNumber, 2, (some (.int)), 5, false, 1), (753, 23, 751, 752)),
  ((yX4_has, cX4_has, 2, (some (.boolean)), 5, false, 1), (500, 23, 498, 499)),
  ((yX4_findChunk, cX4_findChunk, 4, (some (.object "DedupVault$Chunk")), 5, false, 1), (732, 23, 730, 731)),
  ((yX4_chunkCount, cX4_chunkCount, 3, (some (.int)), 5, false, 0), (898, 23, 896, 897)),
  ((yX4_filledBytes, cX4_filledBytes, 3, (some (.int)), 5, false, 0), (523, 23, 521, 522)),
  ((yX4_garbageBytes, cX4_garbageBytes, 3, (some (.int)), 5, false, 0), (783, 23, 781, 782)),
  ((yX4_chunkFor, cX4_chunkFor, 3, (some (.object "DedupVault$Chunk")), 5, false, 1), (589, 23, 587, 588)),
  ((yX4_chunkIn, cX4_chunkIn, 4, (some (.object "DedupVault$Chunk")), 5, true, 2), (503, 23, 502, 502)),
  ((yX4_storeNew, cX4_storeNew, 4, (some (.object "DedupVault$Chunk")), 5, false, 1), (593, 23, 592, 7)),
  ((yX4_openFor, cX4_openFor, 2, (some (.object "DedupVault$Container")), 5, false, 1), (597, 23, 596, 8)),
  ((yX4_use, cX4_use, 2, none, 5, false, 1), (651, 23, 650, 9)),
  ((yX4_leaveCache, cX4_leaveCache, 3, none, 5, false, 1), (655, 23, 654, 10)),
  ((yX4_collectGarbage, cX4_collectGarbage, 7, (some (.int)), 5, false, 0), (824, 23, 822, 823)),
  ((yX4_empty, cX4_empty, 4, none, 5, false, 1), (828, 23, 827, 16)),
  ((yX5_init, cX5_init, 4, none, 6, false, 3), (562, 38, 561, 561))]
def mPT_4 : List (MI × (Nat × Nat × Nat × Nat)) := [
  ((yX5_file, cX5_file, 1, (some (.int)), 6, false, 0), (388, 38, 386, 387)),
  ((yX5_number, cX5_number, 1, (some (.int)), 6, false, 0), (392, 38, 390, 391)),
  ((yX5_copy, cX5_copy, 1, (some (.object "DedupVault$Row")), 6, false, 0), (396, 38, 394, 395)),
  ((yX5_base, cX5_base, 1, (some (.object "DedupVault$Version")), 6, false, 0), (745, 38, 743, 744)),
  ((yX5_entryCount, cX5_entryCount, 1, (some (.int)), 6, false, 0), (715, 38, 713, 714)),
  ((yX5_entryNumber, cX5_entryNumber, 2, (some (.int)), 6, false, 1), (698, 38, 696, 697)),
  ((yX5_addEntry, cX5_addEntry, 2, none, 6, false, 1), (676, 38, 674, 675)),
  ((yX5_releaseEntries, cX5_releaseEntries, 2, none, 6, false, 0), (805, 38, 803, 804)),
  ((yX5_restored, cX5_restored, 5, (some (.int)), 6, false, 1), (417, 38, 415, 416)),
  ((yX5_chain, cX5_chain, 3, (some (.int)), 6, false, 0), (689, 38, 687, 688)),
  ((yX5_cost, cX5_cost, 1, (some (.int)), 6, false, 0), (865, 38, 863, 864)),
  ((yX5_chooseBase, cX5_chooseBase, 2, none, 6, false, 1), (685, 38, 683, 684)),
  ((yX5_loseBase, cX5_loseBase, 2, none, 6, false, 1), (801, 38, 799, 800)),
  ((yX5_differenceTo, cX5_differenceTo, 5, (some (.int)), 6, false, 1), (693, 38, 692, 13)),
  ((yX5_fromEnd, cX5_fromEnd, 2, (some (.int)), 6, false, 1), (707, 38, 706, 14)),
  ((yX6_init, cX6_init, 1, none, 7, false, 0), (47, 18, 46, 46))]
def mPT_5 : List (MI × (Nat × Nat × Nat × Nat)) := [
  ((yX6_append, cX6_append, 6, (some (.int)), 7, false, 3), (231, 18, 229, 230)),
  ((yX6_appendCopy, cX6_appendCopy, 6, (some (.int)), 7, false, 4), (400, 18, 398, 399)),
  ((yX6_insert, cX6_insert, 3, (some (.int)), 7, false, 2), (437, 18, 435, 436)),
  ((yX6_cut, cX6_cut, 3, (some (.int)), 7, false, 2), (442, 18, 440, 441)),
  ((yX6_clearDraft, cX6_clearDraft, 2, (some (.int)), 7, false, 0), (842, 18, 840, 841)),
  ((yX6_draftLength, cX6_draftLength, 1, (some (.int)), 7, false, 0), (223, 18, 221, 222)),
  ((yX6_draftAt, cX6_draftAt, 2, (some (.int)), 7, false, 1), (325, 18, 323, 324)),
  ((yX6_save, cX6_save, 6, (some (.int)), 7, false, 1), (558, 18, 556, 557)),
  ((yX6_wouldStore, cX6_wouldStore, 5, (some (.int)), 7, false, 0), (457, 18, 455, 456)),
  ((yX6_forget, cX6_forget, 6, (some (.int)), 7, false, 2), (796, 18, 794, 795)),
  ((yX6_collect, cX6_collect, 1, (some (.int)), 7, false, 0), (820, 18, 818, 819)),
  ((yX6_versions, cX6_versions, 1, (some (.int)), 7, false, 0), (869, 18, 867, 868)),
  ((yX6_isKept, cX6_isKept, 3, (some (.boolean)), 7, false, 2), (849, 18, 847, 848)),
  ((yX6_latest, cX6_latest, 2, (some (.int)), 7, false, 1), (547, 18, 545, 546)),
  ((yX6_length, cX6_length, 3, (some (.int)), 7, false, 2), (357, 18, 355, 356)),
  ((yX6_byteAt, cX6_byteAt, 5, (some (.int)), 7, false, 3), (413, 18, 411, 412))]
def mPT_6 : List (MI × (Nat × Nat × Nat × Nat)) := [
  ((yX6_byteByCopy, cX6_byteByCopy, 5, (some (.int)), 7, false, 3), (719, 18, 717, 718)),
  ((yX6_chunksOf, cX6_chunksOf, 3, (some (.int)), 7, false, 2), (711, 18, 709, 710)),
  ((yX6_chunkAt, cX6_chunkAt, 5, (some (.int)), 7, false, 3), (723, 18, 721, 722)),
  ((yX6_baseOf, cX6_baseOf, 3, (some (.int)), 7, false, 2), (741, 18, 739, 740)),
  ((yX6_chainOf, cX6_chainOf, 3, (some (.int)), 7, false, 2), (856, 18, 854, 855)),
  ((yX6_costOf, cX6_costOf, 3, (some (.int)), 7, false, 2), (861, 18, 859, 860)),
  ((yX6_isStored, cX6_isStored, 2, (some (.boolean)), 7, false, 1), (728, 18, 726, 727)),
  ((yX6_chunks, cX6_chunks, 1, (some (.int)), 7, false, 0), (894, 18, 892, 893)),
  ((yX6_chunkLength, cX6_chunkLength, 2, (some (.int)), 7, false, 1), (771, 18, 769, 770)),
  ((yX6_fingerprint, cX6_fingerprint, 2, (some (.int)), 7, false, 1), (880, 18, 878, 879)),
  ((yX6_references, cX6_references, 2, (some (.int)), 7, false, 1), (837, 18, 835, 836)),
  ((yX6_containerOf, cX6_containerOf, 2, (some (.int)), 7, false, 1), (758, 18, 756, 757)),
  ((yX6_containers, cX6_containers, 1, (some (.int)), 7, false, 0), (906, 18, 904, 905)),
  ((yX6_openContainer, cX6_openContainer, 1, (some (.int)), 7, false, 0), (812, 18, 810, 811)),
  ((yX6_cached, cX6_cached, 2, (some (.int)), 7, false, 1), (749, 18, 747, 748)),
  ((yX6_cacheHits, cX6_cacheHits, 1, (some (.int)), 7, false, 0), (531, 18, 529, 530))]
def mPT_7 : List (MI × (Nat × Nat × Nat × Nat)) := [
  ((yX6_indexReads, cX6_indexReads, 1, (some (.int)), 7, false, 0), (539, 18, 537, 538)),
  ((yX6_storedBytes, cX6_storedBytes, 1, (some (.int)), 7, false, 0), (519, 18, 517, 518)),
  ((yX6_savedBytes, cX6_savedBytes, 3, (some (.int)), 7, false, 0), (873, 18, 871, 872)),
  ((yX6_garbage, cX6_garbage, 1, (some (.int)), 7, false, 0), (779, 18, 777, 778)),
  ((yX6_ratio, cX6_ratio, 2, (some (.double)), 7, false, 0), (914, 18, 912, 913)),
  ((yX6_noByteValue, cX6_noByteValue, 1, (some (.boolean)), 7, true, 1), (234, 18, 233, 233)),
  ((yX6_noPlace, cX6_noPlace, 2, (some (.boolean)), 7, true, 2), (328, 18, 327, 327)),
  ((yX6_noSpan, cX6_noSpan, 3, (some (.boolean)), 7, true, 3), (403, 18, 402, 402)),
  ((yX6_numberOf, cX6_numberOf, 1, (some (.int)), 7, true, 1), (554, 18, 553, 553)),
  ((yX6_findVersion, cX6_findVersion, 5, (some (.object "DedupVault$Version")), 7, false, 2), (365, 18, 364, 5)),
  ((yX6_demandVersion, cX6_demandVersion, 4, (some (.object "DedupVault$Version")), 7, false, 2), (361, 18, 360, 4)),
  ((yX6_demandChunk, cX6_demandChunk, 3, (some (.object "DedupVault$Chunk")), 7, false, 1), (762, 18, 761, 15)),
  ((yX6_latestKept, cX6_latestKept, 4, (some (.object "DedupVault$Version")), 7, false, 1), (551, 18, 550, 6)),
  ((yX6_piecesOf, cX6_piecesOf, 4, (some (.object "java/util/ArrayList")), 7, true, 1), (460, 18, 459, 459)),
  ((yX6_endsPiece, cX6_endsPiece, 4, (some (.boolean)), 7, true, 3), (463, 18, 462, 462)),
  ((yX6_windowSum, cX6_windowSum, 4, (some (.int)), 7, true, 2), (466, 18, 465, 465))]
def mPT_8 : List (MI × (Nat × Nat × Nat × Nat)) := [
  ((yX6_cameBefore, cX6_cameBefore, 3, (some (.boolean)), 7, true, 2), (492, 18, 491, 491)),
  ((yL_draw, cL_draw, 4, (some (.int)), 9, true, 3), (213, 17, 212, 212)),
  ((yL_isIn, cL_isIn, 3, (some (.boolean)), 9, true, 2), (353, 17, 352, 352)),
  ((yL_many, cL_many, 3, (some (.int)), 9, true, 1), (450, 17, 449, 449)),
  ((yL_kept, cL_kept, 4, (some (.int)), 9, true, 3), (350, 17, 349, 349)),
  ((yL_isVersion, cL_isVersion, 10, (some (.boolean)), 9, true, 3), (767, 17, 766, 766)),
  ((yL_isListed, cL_isListed, 10, (some (.boolean)), 9, true, 4), (852, 17, 851, 851)),
  ((yL_areUnlike, cL_areUnlike, 18, (some (.boolean)), 9, true, 7), (876, 17, 875, 875)),
  ((yL_areVersions, cL_areVersions, 11, (some (.boolean)), 9, true, 4), (845, 17, 844, 844)),
  ((yL_uses, cL_uses, 7, (some (.int)), 9, true, 3), (890, 17, 889, 889)),
  ((yL_areChunks, cL_areChunks, 10, (some (.boolean)), 9, true, 2), (887, 17, 886, 886)),
  ((yL_isCache, cL_isCache, 5, (some (.boolean)), 9, true, 1), (918, 17, 917, 917)),
  ((yL_saves, cL_saves, 13, (some (.boolean)), 9, true, 4), (453, 17, 452, 452)),
  ((yL_forgets, cL_forgets, 6, (some (.boolean)), 9, true, 4), (775, 17, 774, 774)),
  ((yL_collects, cL_collects, 12, (some (.boolean)), 9, true, 2), (808, 17, 807, 807)),
  ((yL_drafts, cL_drafts, 11, (some (.boolean)), 9, true, 5), (219, 17, 218, 218))]
def mPT_9 : List (MI × (Nat × Nat × Nat × Nat)) := [
  ((yL_vault, cL_vault, 12, (some (.boolean)), 9, true, 2), (42, 17, 41, 41))]
def mPT : List (MI × (Nat × Nat × Nat × Nat)) := mPT_0 ++ (mPT_1 ++ (mPT_2 ++ (mPT_3 ++ (mPT_4 ++ (mPT_5 ++ (mPT_6 ++ (mPT_7 ++ (mPT_8 ++ (mPT_9)))))))))
def mth (k : Nat) : Option MI := (mPT[k]?).map (fun e => e.1)
def fldT : List ((Nat × Nat) × Nat × Nat × Nat) := [((1, 7), 1, 0, 622), ((1, 13), 1, 1, 623), ((1, 17), 1, 2, 624), ((1, 21), 1, 3, 625), ((2, 9), 2, 0, 107), ((2, 18), 2, 1, 108), ((2, 22), 2, 2, 109), ((3, 9), 3, 0, 476), ((3, 15), 3, 1, 477), ((3, 19), 3, 2, 478), ((3, 26), 3, 3, 479), ((4, 7), 4, 0, 57), ((4, 13), 4, 1, 58), ((5, 12), 5, 0, 175), ((5, 18), 5, 1, 176), ((5, 26), 5, 2, 177), ((5, 34), 5, 3, 178), ((5, 38), 5, 4, 179), ((5, 41), 5, 5, 180), ((6, 9), 6, 0, 570), ((6, 15), 6, 1, 571), ((6, 27), 6, 2, 572), ((6, 38), 6, 3, 573), ((6, 42), 6, 4, 574), ((7, 14), 7, 0, 194), ((7, 21), 7, 1, 195), ((7, 25), 7, 2, 196), ((7, 32), 7, 3, 197), ((7, 36), 7, 4, 198)]
def callT : List ((Nat × Nat) × Nat × Nat × Nat) := [((1, 1), 4, 0, 621), ((2, 3), 4, 0, 104), ((2, 17), 3, 0, 106), ((2, 25), 0, 3, 510), ((2, 29), 0, 32, 602), ((2, 32), 0, 7, 639), ((2, 36), 0, 15, 513), ((2, 42), 0, 17, 640), ((2, 46), 0, 5, 511), ((2, 50), 0, 36, 514), ((2, 54), 0, 14, 737), ((2, 56), 0, 18, 788), ((3, 3), 4, 0, 472), ((3, 22), 1, 31, 473), ((3, 29), 0, 39, 433), ((3, 35), 3, 37, 614), ((3, 38), 0, 41, 615), ((3, 42), 3, 30, 617), ((4, 1), 4, 0, 56), ((4, 17), 0, 42, 318), ((4, 21), 0, 39, 408), ((4, 25), 0, 40, 409), ((4, 29), 2, 119, 447), ((5, 3), 4, 0, 96), ((5, 11), 3, 0, 98), ((5, 23), 3, 20, 101), ((5, 30), 0, 7, 117), ((5, 44), 0, 3, 504), ((5, 48), 0, 21, 603), ((5, 51), 2, 118, 754), ((5, 55), 0, 5, 505), ((5, 59), 1, 56, 501), ((5, 63), 0, 27, 733), ((5, 67), 0, 23, 899), ((5, 70), 0, 22, 524), ((5, 73), 0, 29, 784), ((5, 76), 0, 57, 590), ((5, 80), 0, 16, 644), ((5, 86), 0, 59, 648), ((5, 90), 0, 26, 506), ((5, 93), 0, 58, 594), ((5, 97), 0, 35, 609), ((5, 103), 3, 13, 618), ((5, 106), 0, 25, 635), ((5, 110), 0, 24, 598), ((5, 114), 0, 60, 652), ((5, 117), 0, 8, 665), ((5, 120), 0, 9, 656), ((5, 123), 0, 62, 825), ((5, 126), 0, 28, 829), ((5, 130), 0, 15, 833), ((6, 3), 4, 0, 563), ((6, 20), 0, 38, 565), ((6, 24), 3, 37, 566), ((6, 31), 0, 41, 567), ((6, 37), 3, 0, 569), ((6, 46), 0, 3, 418), ((6, 47), 2, 118, 699), ((6, 51), 0, 5, 419), ((6, 57), 0, 14, 700), ((6, 59), 0, 7, 677), ((6, 63), 0, 19, 678), ((6, 66), 0, 15, 421), ((6, 70), 0, 32, 425), ((6, 73), 0, 34, 429), ((6, 76), 0, 77, 690), ((6, 80), 0, 73, 686), ((6, 83), 5, 0, 694), ((6, 89), 0, 69, 695), ((6, 92), 0, 78, 704), ((7, 1), 4, 0, 48), ((7, 11), 3, 37, 53), ((7, 20), 3, 0, 67), ((7, 31), 3, 44, 93), ((7, 40), 1, 117, 232), ((7, 47), 0, 38, 224), ((7, 54), 0, 40, 314), ((7, 57), 0, 122, 358), ((7, 61), 0, 66, 393), ((7, 67), 1, 119, 401), ((7, 74), 0, 41, 404), ((7, 78), 0, 42, 438), ((7, 82), 0, 43, 443), ((7, 85), 1, 118, 326), ((7, 89), 0, 39, 344), ((7, 93), 0, 3, 366), ((7, 94), 3, 63, 560), ((7, 97), 1, 125, 458), ((7, 101), 0, 5, 370), ((7, 106), 0, 55, 586), ((7, 110), 0, 70, 673), ((7, 114), 0, 124, 548), ((7, 118), 0, 75, 682), ((7, 122), 0, 7, 489), ((7, 125), 1, 128, 490), ((7, 129), 0, 50, 497), ((7, 133), 0, 32, 515), ((7, 134), 0, 9, 797), ((7, 137), 0, 76, 798), ((7, 140), 0, 71, 802), ((7, 143), 0, 61, 821), ((7, 146), 0, 121, 362), ((7, 149), 1, 120, 552), ((7, 153), 0, 72, 414), ((7, 156), 0, 68, 712), ((7, 159), 0, 69, 724), ((7, 162), 0, 67, 742), ((7, 166), 0, 73, 857), ((7, 169), 0, 74, 862), ((7, 172), 0, 51, 729), ((7, 176), 0, 52, 895), ((7, 179), 0, 123, 759), ((7, 182), 0, 15, 772), ((7, 188), 0, 33, 881), ((7, 191), 0, 18, 838), ((7, 194), 0, 16, 763), ((7, 198), 0, 21, 764), ((7, 203), 0, 47, 907), ((7, 206), 0, 48, 813), ((7, 209), 0, 49, 750), ((7, 212), 0, 45, 532), ((7, 215), 0, 46, 540), ((7, 218), 0, 53, 520), ((7, 221), 0, 54, 780), ((7, 224), 0, 114, 915), ((7, 227), 0, 65, 389), ((7, 228), 0, 64, 385), ((7, 231), 1, 126, 461), ((7, 235), 3, 30, 469), ((7, 237), 1, 127, 464), ((7, 241), 0, 36, 493), ((9, 10), 1, 130, 351), ((9, 16), 0, 94, 354), ((9, 22), 0, 95, 410), ((9, 26), 0, 96, 716), ((9, 29), 0, 97, 708), ((9, 32), 0, 98, 720), ((9, 35), 0, 104, 768), ((9, 39), 0, 99, 738), ((9, 42), 0, 100, 853), ((9, 45), 0, 101, 858), ((9, 48), 0, 105, 877), ((9, 51), 0, 92, 846), ((9, 55), 1, 134, 850), ((9, 59), 0, 93, 544), ((9, 62), 1, 132, 348), ((9, 66), 0, 91, 866), ((9, 70), 0, 114, 870), ((9, 73), 1, 133, 765), ((9, 77), 1, 135, 874), ((9, 81), 0, 109, 809), ((9, 84), 0, 102, 725), ((9, 88), 0, 107, 755), ((9, 91), 0, 106, 834), ((9, 94), 1, 137, 888), ((9, 98), 0, 103, 891), ((9, 101), 0, 113, 516), ((9, 104), 0, 115, 776), ((9, 107), 0, 108, 903), ((9, 110), 0, 116, 911), ((9, 114), 0, 110, 746), ((9, 117), 0, 88, 454), ((9, 120), 0, 111, 528), ((9, 123), 0, 112, 536), ((9, 126), 0, 87, 555), ((9, 129), 0, 85, 220), ((9, 132), 0, 86, 322), ((9, 137), 0, 89, 793), ((9, 140), 1, 131, 448), ((9, 144), 0, 90, 817), ((9, 147), 0, 80, 228), ((9, 150), 0, 81, 397), ((9, 154), 0, 82, 434), ((9, 157), 0, 83, 439), ((9, 160), 3, 79, 45), ((9, 162), 1, 129, 211), ((9, 166), 1, 143, 217), ((9, 170), 1, 140, 451), ((9, 173), 1, 141, 773), ((9, 176), 1, 142, 806), ((9, 180), 0, 84, 839), ((9, 183), 1, 136, 843), ((9, 186), 1, 138, 885), ((9, 189), 1, 139, 916), ((9, 193), 1, 144, 40)]
def clT : List ((Nat × Nat) × Nat × Nat) := [((2, 15), 0, 105), ((2, 37), 1, 512), ((3, 10), 3, 616), ((3, 30), 4, 613), ((5, 9), 0, 97), ((5, 21), 2, 99), ((5, 81), 1, 607), ((6, 18), 4, 564), ((6, 35), 0, 568), ((6, 55), 1, 420), ((7, 7), 4, 51), ((7, 18), 0, 65), ((7, 29), 5, 91), ((7, 44), 100, 235), ((7, 51), 101, 299), ((7, 62), 6, 384), ((7, 71), 102, 329), ((7, 104), 3, 467), ((9, 17), 7, 43)]
