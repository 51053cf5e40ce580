/-! classes, methods and links, printed by wip/whole/gen_names.py -/
def RX0 : String := "DedupVault$Chunk"
def TX0 : u_T := fun k => match k with
  | 0 => ("DedupVault$Chunk", "number", "I", true)
  | 1 => ("DedupVault$Chunk", "bytes", "LDedupVault$Piece;", true)
  | 2 => ("DedupVault$Chunk", "home", "LDedupVault$Container;", false)
  | _ => ("DedupVault$Chunk", "uses", "I", false)
def tyX0 : Nat → FieldType := fun k => match k with
  | 0 => .int
  | 1 => .object "DedupVault$Piece"
  | 2 => .object "DedupVault$Container"
  | _ => .int
abbrev wsX00 : List Cond := u_ws RX0 TX0 4
theorem nmX0 : ∀ a, a < 4 → ∀ b, b < 4 → a ≠ b → (TX0 a).2.1 ≠ (TX0 b).2.1 := by decide +kernel
theorem tyX0_ok : ∀ k, k < 4 → parseFieldDescriptor (TX0 k).2.2.1 = some (tyX0 k) := by decide +kernel
def RX1 : String := "DedupVault$Container"
def TX1 : u_T := fun k => match k with
  | 0 => ("DedupVault$Container", "number", "I", true)
  | 1 => ("DedupVault$Container", "content", "Ljava/util/ArrayList;", true)
  | _ => ("DedupVault$Container", "filled", "I", false)
def tyX1 : Nat → FieldType := fun k => match k with
  | 0 => .int
  | 1 => .object "java/util/ArrayList"
  | _ => .int
abbrev wsX10 : List Cond := u_ws RX1 TX1 3
theorem nmX1 : ∀ a, a < 3 → ∀ b, b < 3 → a ≠ b → (TX1 a).2.1 ≠ (TX1 b).2.1 := by decide +kernel
theorem tyX1_ok : ∀ k, k < 3 → parseFieldDescriptor (TX1 k).2.2.1 = some (tyX1 k) := by decide +kernel
def RX2 : String := "DedupVault$Piece"
def TX2 : u_T := fun k => match k with
  | 0 => ("DedupVault$Piece", "source", "LDedupVault$Row;", true)
  | 1 => ("DedupVault$Piece", "from", "I", true)
  | 2 => ("DedupVault$Piece", "size", "I", true)
  | _ => ("DedupVault$Piece", "mark", "I", true)
def tyX2 : Nat → FieldType := fun k => match k with
  | 0 => .object "DedupVault$Row"
  | 1 => .int
  | 2 => .int
  | _ => .int
abbrev wsX20 : List Cond := u_ws RX2 TX2 4
theorem nmX2 : ∀ a, a < 4 → ∀ b, b < 4 → a ≠ b → (TX2 a).2.1 ≠ (TX2 b).2.1 := by decide +kernel
theorem tyX2_ok : ∀ k, k < 4 → parseFieldDescriptor (TX2 k).2.2.1 = some (tyX2 k) := by decide +kernel
def RX3 : String := "DedupVault$Row"
def TX3 : u_T := fun k => match k with
  | 0 => ("DedupVault$Row", "cells", "[I", true)
  | _ => ("DedupVault$Row", "size", "I", false)
def tyX3 : Nat → FieldType := fun k => match k with
  | 0 => .array .int
  | _ => .int
abbrev wsX30 : List Cond := u_ws RX3 TX3 2
theorem nmX3 : ∀ a, a < 2 → ∀ b, b < 2 → a ≠ b → (TX3 a).2.1 ≠ (TX3 b).2.1 := by decide +kernel
theorem tyX3_ok : ∀ k, k < 2 → parseFieldDescriptor (TX3 k).2.2.1 = some (tyX3 k) := by decide +kernel
def RX4 : String := "DedupVault$Shelf"
def TX4 : u_T := fun k => match k with
  | 0 => ("DedupVault$Shelf", "boxes", "Ljava/util/ArrayList;", true)
  | 1 => ("DedupVault$Shelf", "recent", "Ljava/util/ArrayList;", true)
  | 2 => ("DedupVault$Shelf", "open", "LDedupVault$Container;", false)
  | 3 => ("DedupVault$Shelf", "nextChunk", "I", false)
  | 4 => ("DedupVault$Shelf", "hits", "I", false)
  | _ => ("DedupVault$Shelf", "reads", "I", false)
def tyX4 : Nat → FieldType := fun k => match k with
  | 0 => .object "java/util/ArrayList"
  | 1 => .object "java/util/ArrayList"
  | 2 => .object "DedupVault$Container"
  | 3 => .int
  | 4 => .int
  | _ => .int
abbrev wsX40 : List Cond := u_ws RX4 TX4 6
theorem nmX4 : ∀ a, a < 6 → ∀ b, b < 6 → a ≠ b → (TX4 a).2.1 ≠ (TX4 b).2.1 := by decide +kernel
theorem tyX4_ok : ∀ k, k < 6 → parseFieldDescriptor (TX4 k).2.2.1 = some (tyX4 k) := by decide +kernel
def RX5 : String := "DedupVault$Version"
def TX5 : u_T := fun k => match k with
  | 0 => ("DedupVault$Version", "file", "I", true)
  | 1 => ("DedupVault$Version", "number", "I", true)
  | 2 => ("DedupVault$Version", "copy", "LDedupVault$Row;", true)
  | 3 => ("DedupVault$Version", "entries", "Ljava/util/ArrayList;", true)
  | _ => ("DedupVault$Version", "base", "LDedupVault$Version;", false)
def tyX5 : Nat → FieldType := fun k => match k with
  | 0 => .int
  | 1 => .int
  | 2 => .object "DedupVault$Row"
  | 3 => .object "java/util/ArrayList"
  | _ => .object "DedupVault$Version"
abbrev wsX50 : List Cond := u_ws RX5 TX5 5
theorem nmX5 : ∀ a, a < 5 → ∀ b, b < 5 → a ≠ b → (TX5 a).2.1 ≠ (TX5 b).2.1 := by decide +kernel
theorem tyX5_ok : ∀ k, k < 5 → parseFieldDescriptor (TX5 k).2.2.1 = some (tyX5 k) := by decide +kernel
def RX6 : String := "DedupVault"
def TX6 : u_T := fun k => match k with
  | 0 => ("DedupVault", "draft", "LDedupVault$Row;", true)
  | 1 => ("DedupVault", "kept", "Ljava/util/ArrayList;", true)
  | 2 => ("DedupVault", "nextNumbers", "[I", true)
  | 3 => ("DedupVault", "shelf", "LDedupVault$Shelf;", true)
  | _ => ("DedupVault", "saves", "I", false)
def tyX6 : Nat → FieldType := fun k => match k with
  | 0 => .object "DedupVault$Row"
  | 1 => .object "java/util/ArrayList"
  | 2 => .array .int
  | 3 => .object "DedupVault$Shelf"
  | _ => .int
abbrev wsX60 : List Cond := u_ws RX6 TX6 5
theorem nmX6 : ∀ a, a < 5 → ∀ b, b < 5 → a ≠ b → (TX6 a).2.1 ≠ (TX6 b).2.1 := by decide +kernel
theorem tyX6_ok : ∀ k, k < 5 → parseFieldDescriptor (TX6 k).2.2.1 = some (tyX6 k) := by decide +kernel
def RX7 : String := "DedupVaultModel"
def TX7 : u_T := fun k => match k with
  | 0 => ("DedupVaultModel", "length", "I", false)
  | 1 => ("DedupVaultModel", "draft", "[I", true)
  | 2 => ("DedupVaultModel", "file", "[I", true)
  | 3 => ("DedupVaultModel", "version", "[I", true)
  | 4 => ("DedupVaultModel", "bytes", "[I", true)
  | 5 => ("DedupVaultModel", "base", "[I", true)
  | 6 => ("DedupVaultModel", "entries", "[I", true)
  | 7 => ("DedupVaultModel", "entry", "[I", true)
  | 8 => ("DedupVaultModel", "copy", "[I", true)
  | 9 => ("DedupVaultModel", "next", "[I", true)
  | 10 => ("DedupVaultModel", "chunks", "I", false)
  | 11 => ("DedupVaultModel", "stored", "I", false)
  | 12 => ("DedupVaultModel", "chunk", "[I", true)
  | 13 => ("DedupVaultModel", "start", "[I", true)
  | 14 => ("DedupVaultModel", "size", "[I", true)
  | 15 => ("DedupVaultModel", "box", "[I", true)
  | 16 => ("DedupVaultModel", "used", "I", false)
  | 17 => ("DedupVaultModel", "data", "[B", true)
  | 18 => ("DedupVaultModel", "open", "I", false)
  | 19 => ("DedupVaultModel", "cache", "[I", true)
  | 20 => ("DedupVaultModel", "hits", "I", false)
  | 21 => ("DedupVaultModel", "reads", "I", false)
  | _ => ("DedupVaultModel", "thrown", "I", false)
def tyX7 : Nat → FieldType := fun k => match k with
  | 0 => .int
  | 1 => .array .int
  | 2 => .array .int
  | 3 => .array .int
  | 4 => .array .int
  | 5 => .array .int
  | 6 => .array .int
  | 7 => .array .int
  | 8 => .array .int
  | 9 => .array .int
  | 10 => .int
  | 11 => .int
  | 12 => .array .int
  | 13 => .array .int
  | 14 => .array .int
  | 15 => .array .int
  | 16 => .int
  | 17 => .array .byte
  | 18 => .int
  | 19 => .array .int
  | 20 => .int
  | 21 => .int
  | _ => .int
abbrev wsX70 : List Cond := u_ws RX7 TX7 23
theorem nmX7 : ∀ a, a < 23 → ∀ b, b < 23 → a ≠ b → (TX7 a).2.1 ≠ (TX7 b).2.1 := by decide +kernel
theorem tyX7_ok : ∀ k, k < 23 → parseFieldDescriptor (TX7 k).2.2.1 = some (tyX7 k) := by decide +kernel
def RJx4a65c : String := "java/util/ArrayList"
def TJx4a65c : u_T := fun k => match k with
  | 0 => ("java/util/AbstractList", "modCount", "I", false)
  | 1 => ("java/util/ArrayList", "elementData", "[Ljava/lang/Object;", false)
  | _ => ("java/util/ArrayList", "size", "I", false)
def tyJx4a65c : Nat → FieldType := fun k => match k with
  | 0 => .int
  | 1 => .array (.object "java/lang/Object")
  | _ => .int
abbrev wsJx4a65c0 : List Cond := u_ws RJx4a65c TJx4a65c 3
theorem nmJx4a65c : ∀ a, a < 3 → ∀ b, b < 3 → a ≠ b → (TJx4a65c a).2.1 ≠ (TJx4a65c b).2.1 := by decide +kernel
theorem tyJx4a65c_ok : ∀ k, k < 3 → parseFieldDescriptor (TJx4a65c k).2.2.1 = some (tyJx4a65c k) := by decide +kernel
def RL : String := "DedupVaultLaw"
abbrev cJx4a65c_init_da8c8 : ByteArray := prog_35_method_2_code
def yJx4a65c_init_da8c8 : MethodName := ⟨RJx4a65c, "<init>", "()V"⟩
abbrev cJx4a65c_grow_92f84 : ByteArray := prog_35_method_6_code
def yJx4a65c_grow_92f84 : MethodName := ⟨RJx4a65c, "grow", "(I)[Ljava/lang/Object;"⟩
abbrev cJx4a65c_grow_d5877 : ByteArray := prog_35_method_7_code
def yJx4a65c_grow_d5877 : MethodName := ⟨RJx4a65c, "grow", "()[Ljava/lang/Object;"⟩
abbrev cJx4a65c_size_8abf5 : ByteArray := prog_35_method_8_code
def yJx4a65c_size_8abf5 : MethodName := ⟨RJx4a65c, "size", "()I"⟩
abbrev cJx4a65c_elementData_915e3 : ByteArray := prog_35_method_18_code
def yJx4a65c_elementData_915e3 : MethodName := ⟨RJx4a65c, "elementData", "(I)Ljava/lang/Object;"⟩
abbrev cJx4a65c_get_915e3 : ByteArray := prog_35_method_20_code
def yJx4a65c_get_915e3 : MethodName := ⟨RJx4a65c, "get", "(I)Ljava/lang/Object;"⟩
abbrev cJx4a65c_add_72be8 : ByteArray := prog_35_method_24_code
def yJx4a65c_add_72be8 : MethodName := ⟨RJx4a65c, "add", "(Ljava/lang/Object;[Ljava/lang/Object;I)V"⟩
abbrev cJx4a65c_add_9ea2d : ByteArray := prog_35_method_25_code
def yJx4a65c_add_9ea2d : MethodName := ⟨RJx4a65c, "add", "(Ljava/lang/Object;)Z"⟩
abbrev cJx4a65c_add_7a177 : ByteArray := prog_35_method_26_code
def yJx4a65c_add_7a177 : MethodName := ⟨RJx4a65c, "add", "(ILjava/lang/Object;)V"⟩
abbrev cJx4a65c_remove_915e3 : ByteArray := prog_35_method_29_code
def yJx4a65c_remove_915e3 : MethodName := ⟨RJx4a65c, "remove", "(I)Ljava/lang/Object;"⟩
abbrev cJx4a65c_fastRemove_b59b0 : ByteArray := prog_35_method_39_code
def yJx4a65c_fastRemove_b59b0 : MethodName := ⟨RJx4a65c, "fastRemove", "([Ljava/lang/Object;I)V"⟩
abbrev cJx4a65c_rangeCheckForAdd_d00df : ByteArray := prog_35_method_45_code
def yJx4a65c_rangeCheckForAdd_d00df : MethodName := ⟨RJx4a65c, "rangeCheckForAdd", "(I)V"⟩
abbrev cJx4a65c_outOfBoundsMsg_b52d3 : ByteArray := prog_35_method_46_code
def yJx4a65c_outOfBoundsMsg_b52d3 : MethodName := ⟨RJx4a65c, "outOfBoundsMsg", "(I)Ljava/lang/String;"⟩
abbrev cX0_init : ByteArray := prog_2_method_1_code
def yX0_init : MethodName := ⟨RX0, "<init>", "(ILDedupVault$Piece;LDedupVault$Container;)V"⟩
abbrev cX0_number : ByteArray := prog_2_method_2_code
def yX0_number : MethodName := ⟨RX0, "number", "()I"⟩
abbrev cX0_bytes : ByteArray := prog_2_method_3_code
def yX0_bytes : MethodName := ⟨RX0, "bytes", "()LDedupVault$Piece;"⟩
abbrev cX0_home : ByteArray := prog_2_method_4_code
def yX0_home : MethodName := ⟨RX0, "home", "()LDedupVault$Container;"⟩
abbrev cX0_moveTo : ByteArray := prog_2_method_5_code
def yX0_moveTo : MethodName := ⟨RX0, "moveTo", "(LDedupVault$Container;)V"⟩
abbrev cX0_uses : ByteArray := prog_2_method_6_code
def yX0_uses : MethodName := ⟨RX0, "uses", "()I"⟩
abbrev cX0_addUses : ByteArray := prog_2_method_7_code
def yX0_addUses : MethodName := ⟨RX0, "addUses", "(I)V"⟩
abbrev cX1_init : ByteArray := prog_3_method_1_code
def yX1_init : MethodName := ⟨RX1, "<init>", "(I)V"⟩
abbrev cX1_number : ByteArray := prog_3_method_2_code
def yX1_number : MethodName := ⟨RX1, "number", "()I"⟩
abbrev cX1_filled : ByteArray := prog_3_method_3_code
def yX1_filled : MethodName := ⟨RX1, "filled", "()I"⟩
abbrev cX1_count : ByteArray := prog_3_method_4_code
def yX1_count : MethodName := ⟨RX1, "count", "()I"⟩
abbrev cX1_fits : ByteArray := prog_3_method_5_code
def yX1_fits : MethodName := ⟨RX1, "fits", "(LDedupVault$Piece;)Z"⟩
abbrev cX1_put : ByteArray := prog_3_method_6_code
def yX1_put : MethodName := ⟨RX1, "put", "(LDedupVault$Chunk;)V"⟩
abbrev cX1_withBytes : ByteArray := prog_3_method_7_code
def yX1_withBytes : MethodName := ⟨RX1, "withBytes", "(LDedupVault$Piece;)LDedupVault$Chunk;"⟩
abbrev cX1_withNumber : ByteArray := prog_3_method_8_code
def yX1_withNumber : MethodName := ⟨RX1, "withNumber", "(I)LDedupVault$Chunk;"⟩
abbrev cX1_needed : ByteArray := prog_3_method_9_code
def yX1_needed : MethodName := ⟨RX1, "needed", "()Ljava/util/ArrayList;"⟩
abbrev cX1_neededBytes : ByteArray := prog_3_method_10_code
def yX1_neededBytes : MethodName := ⟨RX1, "neededBytes", "()I"⟩
abbrev cX2_init : ByteArray := prog_4_method_1_code
def yX2_init : MethodName := ⟨RX2, "<init>", "(LDedupVault$Row;II)V"⟩
abbrev cX2_markOf : ByteArray := prog_4_method_2_code
def yX2_markOf : MethodName := ⟨RX2, "markOf", "(LDedupVault$Row;II)I"⟩
abbrev cX2_size : ByteArray := prog_4_method_3_code
def yX2_size : MethodName := ⟨RX2, "size", "()I"⟩
abbrev cX2_mark : ByteArray := prog_4_method_4_code
def yX2_mark : MethodName := ⟨RX2, "mark", "()I"⟩
abbrev cX2_get : ByteArray := prog_4_method_5_code
def yX2_get : MethodName := ⟨RX2, "get", "(I)I"⟩
abbrev cX2_detached : ByteArray := prog_4_method_6_code
def yX2_detached : MethodName := ⟨RX2, "detached", "()LDedupVault$Piece;"⟩
abbrev cX2_sameAs : ByteArray := prog_4_method_7_code
def yX2_sameAs : MethodName := ⟨RX2, "sameAs", "(LDedupVault$Piece;)Z"⟩
abbrev cX3_init : ByteArray := prog_5_method_1_code
def yX3_init : MethodName := ⟨RX3, "<init>", "(I)V"⟩
abbrev cX3_size : ByteArray := prog_5_method_2_code
def yX3_size : MethodName := ⟨RX3, "size", "()I"⟩
abbrev cX3_get : ByteArray := prog_5_method_3_code
def yX3_get : MethodName := ⟨RX3, "get", "(I)I"⟩
abbrev cX3_add : ByteArray := prog_5_method_4_code
def yX3_add : MethodName := ⟨RX3, "add", "(I)V"⟩
abbrev cX3_addPart : ByteArray := prog_5_method_5_code
def yX3_addPart : MethodName := ⟨RX3, "addPart", "(LDedupVault$Row;II)V"⟩
abbrev cX3_putIn : ByteArray := prog_5_method_6_code
def yX3_putIn : MethodName := ⟨RX3, "putIn", "(II)V"⟩
abbrev cX3_takeOut : ByteArray := prog_5_method_7_code
def yX3_takeOut : MethodName := ⟨RX3, "takeOut", "(II)V"⟩
abbrev cX4_init : ByteArray := prog_6_method_1_code
def yX4_init : MethodName := ⟨RX4, "<init>", "()V"⟩
abbrev cX4_hits : ByteArray := prog_6_method_2_code
def yX4_hits : MethodName := ⟨RX4, "hits", "()I"⟩
abbrev cX4_reads : ByteArray := prog_6_method_3_code
def yX4_reads : MethodName := ⟨RX4, "reads", "()I"⟩
abbrev cX4_containerCount : ByteArray := prog_6_method_4_code
def yX4_containerCount : MethodName := ⟨RX4, "containerCount", "()I"⟩
abbrev cX4_openNumber : ByteArray := prog_6_method_5_code
def yX4_openNumber : MethodName := ⟨RX4, "openNumber", "()I"⟩
abbrev cX4_recentNumber : ByteArray := prog_6_method_6_code
def yX4_recentNumber : MethodName := ⟨RX4, "recentNumber", "(I)I"⟩
abbrev cX4_has : ByteArray := prog_6_method_7_code
def yX4_has : MethodName := ⟨RX4, "has", "(LDedupVault$Piece;)Z"⟩
abbrev cX4_findChunk : ByteArray := prog_6_method_8_code
def yX4_findChunk : MethodName := ⟨RX4, "findChunk", "(I)LDedupVault$Chunk;"⟩
abbrev cX4_chunkCount : ByteArray := prog_6_method_9_code
def yX4_chunkCount : MethodName := ⟨RX4, "chunkCount", "()I"⟩
abbrev cX4_filledBytes : ByteArray := prog_6_method_10_code
def yX4_filledBytes : MethodName := ⟨RX4, "filledBytes", "()I"⟩
abbrev cX4_garbageBytes : ByteArray := prog_6_method_11_code
def yX4_garbageBytes : MethodName := ⟨RX4, "garbageBytes", "()I"⟩
abbrev cX4_chunkFor : ByteArray := prog_6_method_12_code
def yX4_chunkFor : MethodName := ⟨RX4, "chunkFor", "(LDedupVault$Piece;)LDedupVault$Chunk;"⟩
abbrev cX4_chunkIn : ByteArray := prog_6_method_13_code
def yX4_chunkIn : MethodName := ⟨RX4, "chunkIn", "(Ljava/util/ArrayList;LDedupVault$Piece;)LDedupVault$Chunk;"⟩
abbrev cX4_storeNew : ByteArray := prog_6_method_14_code
def yX4_storeNew : MethodName := ⟨RX4, "storeNew", "(LDedupVault$Piece;)LDedupVault$Chunk;"⟩
abbrev cX4_openFor : ByteArray := prog_6_method_15_code
def yX4_openFor : MethodName := ⟨RX4, "openFor", "(LDedupVault$Piece;)LDedupVault$Container;"⟩
abbrev cX4_use : ByteArray := prog_6_method_16_code
def yX4_use : MethodName := ⟨RX4, "use", "(LDedupVault$Container;)V"⟩
abbrev cX4_leaveCache : ByteArray := prog_6_method_17_code
def yX4_leaveCache : MethodName := ⟨RX4, "leaveCache", "(LDedupVault$Container;)V"⟩
abbrev cX4_collectGarbage : ByteArray := prog_6_method_18_code
def yX4_collectGarbage : MethodName := ⟨RX4, "collectGarbage", "()I"⟩
abbrev cX4_empty : ByteArray := prog_6_method_19_code
def yX4_empty : MethodName := ⟨RX4, "empty", "(LDedupVault$Container;)V"⟩
abbrev cX5_init : ByteArray := prog_7_method_1_code
def yX5_init : MethodName := ⟨RX5, "<init>", "(IILDedupVault$Row;)V"⟩
abbrev cX5_file : ByteArray := prog_7_method_2_code
def yX5_file : MethodName := ⟨RX5, "file", "()I"⟩
abbrev cX5_number : ByteArray := prog_7_method_3_code
def yX5_number : MethodName := ⟨RX5, "number", "()I"⟩
abbrev cX5_copy : ByteArray := prog_7_method_4_code
def yX5_copy : MethodName := ⟨RX5, "copy", "()LDedupVault$Row;"⟩
abbrev cX5_base : ByteArray := prog_7_method_5_code
def yX5_base : MethodName := ⟨RX5, "base", "()LDedupVault$Version;"⟩
abbrev cX5_entryCount : ByteArray := prog_7_method_6_code
def yX5_entryCount : MethodName := ⟨RX5, "entryCount", "()I"⟩
abbrev cX5_entryNumber : ByteArray := prog_7_method_7_code
def yX5_entryNumber : MethodName := ⟨RX5, "entryNumber", "(I)I"⟩
abbrev cX5_addEntry : ByteArray := prog_7_method_8_code
def yX5_addEntry : MethodName := ⟨RX5, "addEntry", "(LDedupVault$Chunk;)V"⟩
abbrev cX5_releaseEntries : ByteArray := prog_7_method_9_code
def yX5_releaseEntries : MethodName := ⟨RX5, "releaseEntries", "()V"⟩
abbrev cX5_restored : ByteArray := prog_7_method_10_code
def yX5_restored : MethodName := ⟨RX5, "restored", "(I)I"⟩
abbrev cX5_chain : ByteArray := prog_7_method_11_code
def yX5_chain : MethodName := ⟨RX5, "chain", "()I"⟩
abbrev cX5_cost : ByteArray := prog_7_method_12_code
def yX5_cost : MethodName := ⟨RX5, "cost", "()I"⟩
abbrev cX5_chooseBase : ByteArray := prog_7_method_13_code
def yX5_chooseBase : MethodName := ⟨RX5, "chooseBase", "(LDedupVault$Version;)V"⟩
abbrev cX5_loseBase : ByteArray := prog_7_method_14_code
def yX5_loseBase : MethodName := ⟨RX5, "loseBase", "(LDedupVault$Version;)V"⟩
abbrev cX5_differenceTo : ByteArray := prog_7_method_15_code
def yX5_differenceTo : MethodName := ⟨RX5, "differenceTo", "(LDedupVault$Version;)I"⟩
abbrev cX5_fromEnd : ByteArray := prog_7_method_16_code
def yX5_fromEnd : MethodName := ⟨RX5, "fromEnd", "(I)I"⟩
abbrev cX6_init : ByteArray := prog_1_method_1_code
def yX6_init : MethodName := ⟨RX6, "<init>", "()V"⟩
abbrev cX6_append : ByteArray := prog_1_method_2_code
def yX6_append : MethodName := ⟨RX6, "append", "(III)I"⟩
abbrev cX6_appendCopy : ByteArray := prog_1_method_3_code
def yX6_appendCopy : MethodName := ⟨RX6, "appendCopy", "(IIII)I"⟩
abbrev cX6_insert : ByteArray := prog_1_method_4_code
def yX6_insert : MethodName := ⟨RX6, "insert", "(II)I"⟩
abbrev cX6_cut : ByteArray := prog_1_method_5_code
def yX6_cut : MethodName := ⟨RX6, "cut", "(II)I"⟩
abbrev cX6_clearDraft : ByteArray := prog_1_method_6_code
def yX6_clearDraft : MethodName := ⟨RX6, "clearDraft", "()I"⟩
abbrev cX6_draftLength : ByteArray := prog_1_method_7_code
def yX6_draftLength : MethodName := ⟨RX6, "draftLength", "()I"⟩
abbrev cX6_draftAt : ByteArray := prog_1_method_8_code
def yX6_draftAt : MethodName := ⟨RX6, "draftAt", "(I)I"⟩
abbrev cX6_save : ByteArray := prog_1_method_9_code
def yX6_save : MethodName := ⟨RX6, "save", "(I)I"⟩
abbrev cX6_wouldStore : ByteArray := prog_1_method_10_code
def yX6_wouldStore : MethodName := ⟨RX6, "wouldStore", "()I"⟩
abbrev cX6_forget : ByteArray := prog_1_method_11_code
def yX6_forget : MethodName := ⟨RX6, "forget", "(II)I"⟩
abbrev cX6_collect : ByteArray := prog_1_method_12_code
def yX6_collect : MethodName := ⟨RX6, "collect", "()I"⟩
abbrev cX6_versions : ByteArray := prog_1_method_13_code
def yX6_versions : MethodName := ⟨RX6, "versions", "()I"⟩
abbrev cX6_isKept : ByteArray := prog_1_method_14_code
def yX6_isKept : MethodName := ⟨RX6, "isKept", "(II)Z"⟩
abbrev cX6_latest : ByteArray := prog_1_method_15_code
def yX6_latest : MethodName := ⟨RX6, "latest", "(I)I"⟩
abbrev cX6_length : ByteArray := prog_1_method_16_code
def yX6_length : MethodName := ⟨RX6, "length", "(II)I"⟩
abbrev cX6_byteAt : ByteArray := prog_1_method_17_code
def yX6_byteAt : MethodName := ⟨RX6, "byteAt", "(III)I"⟩
abbrev cX6_byteByCopy : ByteArray := prog_1_method_18_code
def yX6_byteByCopy : MethodName := ⟨RX6, "byteByCopy", "(III)I"⟩
abbrev cX6_chunksOf : ByteArray := prog_1_method_19_code
def yX6_chunksOf : MethodName := ⟨RX6, "chunksOf", "(II)I"⟩
abbrev cX6_chunkAt : ByteArray := prog_1_method_20_code
def yX6_chunkAt : MethodName := ⟨RX6, "chunkAt", "(III)I"⟩
abbrev cX6_baseOf : ByteArray := prog_1_method_21_code
def yX6_baseOf : MethodName := ⟨RX6, "baseOf", "(II)I"⟩
abbrev cX6_chainOf : ByteArray := prog_1_method_22_code
def yX6_chainOf : MethodName := ⟨RX6, "chainOf", "(II)I"⟩
abbrev cX6_costOf : ByteArray := prog_1_method_23_code
def yX6_costOf : MethodName := ⟨RX6, "costOf", "(II)I"⟩
abbrev cX6_isStored : ByteArray := prog_1_method_24_code
def yX6_isStored : MethodName := ⟨RX6, "isStored", "(I)Z"⟩
abbrev cX6_chunks : ByteArray := prog_1_method_25_code
def yX6_chunks : MethodName := ⟨RX6, "chunks", "()I"⟩
abbrev cX6_chunkLength : ByteArray := prog_1_method_26_code
def yX6_chunkLength : MethodName := ⟨RX6, "chunkLength", "(I)I"⟩
abbrev cX6_fingerprint : ByteArray := prog_1_method_27_code
def yX6_fingerprint : MethodName := ⟨RX6, "fingerprint", "(I)I"⟩
abbrev cX6_references : ByteArray := prog_1_method_28_code
def yX6_references : MethodName := ⟨RX6, "references", "(I)I"⟩
abbrev cX6_containerOf : ByteArray := prog_1_method_29_code
def yX6_containerOf : MethodName := ⟨RX6, "containerOf", "(I)I"⟩
abbrev cX6_containers : ByteArray := prog_1_method_30_code
def yX6_containers : MethodName := ⟨RX6, "containers", "()I"⟩
abbrev cX6_openContainer : ByteArray := prog_1_method_31_code
def yX6_openContainer : MethodName := ⟨RX6, "openContainer", "()I"⟩
abbrev cX6_cached : ByteArray := prog_1_method_32_code
def yX6_cached : MethodName := ⟨RX6, "cached", "(I)I"⟩
abbrev cX6_cacheHits : ByteArray := prog_1_method_33_code
def yX6_cacheHits : MethodName := ⟨RX6, "cacheHits", "()I"⟩
abbrev cX6_indexReads : ByteArray := prog_1_method_34_code
def yX6_indexReads : MethodName := ⟨RX6, "indexReads", "()I"⟩
abbrev cX6_storedBytes : ByteArray := prog_1_method_35_code
def yX6_storedBytes : MethodName := ⟨RX6, "storedBytes", "()I"⟩
abbrev cX6_savedBytes : ByteArray := prog_1_method_36_code
def yX6_savedBytes : MethodName := ⟨RX6, "savedBytes", "()I"⟩
abbrev cX6_garbage : ByteArray := prog_1_method_37_code
def yX6_garbage : MethodName := ⟨RX6, "garbage", "()I"⟩
abbrev cX6_ratio : ByteArray := prog_1_method_38_code
def yX6_ratio : MethodName := ⟨RX6, "ratio", "()D"⟩
abbrev cX6_noByteValue : ByteArray := prog_1_method_39_code
def yX6_noByteValue : MethodName := ⟨RX6, "noByteValue", "(I)Z"⟩
abbrev cX6_noPlace : ByteArray := prog_1_method_40_code
def yX6_noPlace : MethodName := ⟨RX6, "noPlace", "(II)Z"⟩
abbrev cX6_noSpan : ByteArray := prog_1_method_41_code
def yX6_noSpan : MethodName := ⟨RX6, "noSpan", "(III)Z"⟩
abbrev cX6_numberOf : ByteArray := prog_1_method_42_code
def yX6_numberOf : MethodName := ⟨RX6, "numberOf", "(LDedupVault$Version;)I"⟩
abbrev cX6_findVersion : ByteArray := prog_1_method_43_code
def yX6_findVersion : MethodName := ⟨RX6, "findVersion", "(II)LDedupVault$Version;"⟩
abbrev cX6_demandVersion : ByteArray := prog_1_method_44_code
def yX6_demandVersion : MethodName := ⟨RX6, "demandVersion", "(II)LDedupVault$Version;"⟩
abbrev cX6_demandChunk : ByteArray := prog_1_method_45_code
def yX6_demandChunk : MethodName := ⟨RX6, "demandChunk", "(I)LDedupVault$Chunk;"⟩
abbrev cX6_latestKept : ByteArray := prog_1_method_46_code
def yX6_latestKept : MethodName := ⟨RX6, "latestKept", "(I)LDedupVault$Version;"⟩
abbrev cX6_piecesOf : ByteArray := prog_1_method_47_code
def yX6_piecesOf : MethodName := ⟨RX6, "piecesOf", "(LDedupVault$Row;)Ljava/util/ArrayList;"⟩
abbrev cX6_endsPiece : ByteArray := prog_1_method_48_code
def yX6_endsPiece : MethodName := ⟨RX6, "endsPiece", "(LDedupVault$Row;II)Z"⟩
abbrev cX6_windowSum : ByteArray := prog_1_method_49_code
def yX6_windowSum : MethodName := ⟨RX6, "windowSum", "(LDedupVault$Row;I)I"⟩
abbrev cX6_cameBefore : ByteArray := prog_1_method_50_code
def yX6_cameBefore : MethodName := ⟨RX6, "cameBefore", "(Ljava/util/ArrayList;I)Z"⟩
abbrev cX7_init : ByteArray := prog_9_method_1_code
def yX7_init : MethodName := ⟨RX7, "<init>", "()V"⟩
abbrev cX7_thrown : ByteArray := prog_9_method_2_code
def yX7_thrown : MethodName := ⟨RX7, "thrown", "()I"⟩
abbrev cX7_can : ByteArray := prog_9_method_3_code
def yX7_can : MethodName := ⟨RX7, "can", "(I)Z"⟩
abbrev cX7_isIn : ByteArray := prog_9_method_4_code
def yX7_isIn : MethodName := ⟨RX7, "isIn", "(III)Z"⟩
abbrev cX7_adds : ByteArray := prog_9_method_5_code
def yX7_adds : MethodName := ⟨RX7, "adds", "(I)V"⟩
abbrev cX7_append : ByteArray := prog_9_method_6_code
def yX7_append : MethodName := ⟨RX7, "append", "(III)I"⟩
abbrev cX7_appendCopy : ByteArray := prog_9_method_7_code
def yX7_appendCopy : MethodName := ⟨RX7, "appendCopy", "(IIII)I"⟩
abbrev cX7_insert : ByteArray := prog_9_method_8_code
def yX7_insert : MethodName := ⟨RX7, "insert", "(II)I"⟩
abbrev cX7_cut : ByteArray := prog_9_method_9_code
def yX7_cut : MethodName := ⟨RX7, "cut", "(II)I"⟩
abbrev cX7_clearDraft : ByteArray := prog_9_method_10_code
def yX7_clearDraft : MethodName := ⟨RX7, "clearDraft", "()I"⟩
abbrev cX7_draftLength : ByteArray := prog_9_method_11_code
def yX7_draftLength : MethodName := ⟨RX7, "draftLength", "()I"⟩
abbrev cX7_draftAt : ByteArray := prog_9_method_12_code
def yX7_draftAt : MethodName := ⟨RX7, "draftAt", "(I)I"⟩
abbrev cX7_end : ByteArray := prog_9_method_13_code
def yX7_end : MethodName := ⟨RX7, "end", "(I)I"⟩
abbrev cX7_find : ByteArray := prog_9_method_14_code
def yX7_find : MethodName := ⟨RX7, "find", "(II)I"⟩
abbrev cX7_row : ByteArray := prog_9_method_15_code
def yX7_row : MethodName := ⟨RX7, "row", "(I)I"⟩
abbrev cX7_bytesIn : ByteArray := prog_9_method_16_code
def yX7_bytesIn : MethodName := ⟨RX7, "bytesIn", "(I)I"⟩
abbrev cX7_putRow : ByteArray := prog_9_method_17_code
def yX7_putRow : MethodName := ⟨RX7, "putRow", "(III)V"⟩
abbrev cX7_dropRow : ByteArray := prog_9_method_18_code
def yX7_dropRow : MethodName := ⟨RX7, "dropRow", "(I)V"⟩
abbrev cX7_usesOf : ByteArray := prog_9_method_19_code
def yX7_usesOf : MethodName := ⟨RX7, "usesOf", "(I)I"⟩
abbrev cX7_isCached : ByteArray := prog_9_method_20_code
def yX7_isCached : MethodName := ⟨RX7, "isCached", "(I)Z"⟩
abbrev cX7_leaveCache : ByteArray := prog_9_method_21_code
def yX7_leaveCache : MethodName := ⟨RX7, "leaveCache", "(I)V"⟩
abbrev cX7_use : ByteArray := prog_9_method_22_code
def yX7_use : MethodName := ⟨RX7, "use", "(I)V"⟩
abbrev cX7_place : ByteArray := prog_9_method_23_code
def yX7_place : MethodName := ⟨RX7, "place", "(II)I"⟩
abbrev cX7_keptVersions : ByteArray := prog_9_method_24_code
def yX7_keptVersions : MethodName := ⟨RX7, "keptVersions", "()I"⟩
abbrev cX7_latestOf : ByteArray := prog_9_method_25_code
def yX7_latestOf : MethodName := ⟨RX7, "latestOf", "(I)I"⟩
abbrev cX7_difference : ByteArray := prog_9_method_26_code
def yX7_difference : MethodName := ⟨RX7, "difference", "(II)I"⟩
abbrev cX7_chain : ByteArray := prog_9_method_27_code
def yX7_chain : MethodName := ⟨RX7, "chain", "(I)I"⟩
abbrev cX7_save : ByteArray := prog_9_method_28_code
def yX7_save : MethodName := ⟨RX7, "save", "(I)I"⟩
abbrev cX7_wouldStore : ByteArray := prog_9_method_29_code
def yX7_wouldStore : MethodName := ⟨RX7, "wouldStore", "()I"⟩
abbrev cX7_forget : ByteArray := prog_9_method_30_code
def yX7_forget : MethodName := ⟨RX7, "forget", "(II)I"⟩
abbrev cX7_liveIn : ByteArray := prog_9_method_31_code
def yX7_liveIn : MethodName := ⟨RX7, "liveIn", "(I)I"⟩
abbrev cX7_collect : ByteArray := prog_9_method_32_code
def yX7_collect : MethodName := ⟨RX7, "collect", "()I"⟩
abbrev cX7_versions : ByteArray := prog_9_method_33_code
def yX7_versions : MethodName := ⟨RX7, "versions", "()I"⟩
abbrev cX7_isKept : ByteArray := prog_9_method_34_code
def yX7_isKept : MethodName := ⟨RX7, "isKept", "(II)Z"⟩
abbrev cX7_latest : ByteArray := prog_9_method_35_code
def yX7_latest : MethodName := ⟨RX7, "latest", "(I)I"⟩
abbrev cX7_isVersion : ByteArray := prog_9_method_36_code
def yX7_isVersion : MethodName := ⟨RX7, "isVersion", "(II)Z"⟩
abbrev cX7_length : ByteArray := prog_9_method_37_code
def yX7_length : MethodName := ⟨RX7, "length", "(II)I"⟩
abbrev cX7_restored : ByteArray := prog_9_method_38_code
def yX7_restored : MethodName := ⟨RX7, "restored", "(II)I"⟩
abbrev cX7_isByte : ByteArray := prog_9_method_39_code
def yX7_isByte : MethodName := ⟨RX7, "isByte", "(III)Z"⟩
abbrev cX7_byteAt : ByteArray := prog_9_method_40_code
def yX7_byteAt : MethodName := ⟨RX7, "byteAt", "(III)I"⟩
abbrev cX7_byteByCopy : ByteArray := prog_9_method_41_code
def yX7_byteByCopy : MethodName := ⟨RX7, "byteByCopy", "(III)I"⟩
abbrev cX7_chunksOf : ByteArray := prog_9_method_42_code
def yX7_chunksOf : MethodName := ⟨RX7, "chunksOf", "(II)I"⟩
abbrev cX7_chunkAt : ByteArray := prog_9_method_43_code
def yX7_chunkAt : MethodName := ⟨RX7, "chunkAt", "(III)I"⟩
abbrev cX7_baseOf : ByteArray := prog_9_method_44_code
def yX7_baseOf : MethodName := ⟨RX7, "baseOf", "(II)I"⟩
abbrev cX7_chainOf : ByteArray := prog_9_method_45_code
def yX7_chainOf : MethodName := ⟨RX7, "chainOf", "(II)I"⟩
abbrev cX7_costOf : ByteArray := prog_9_method_46_code
def yX7_costOf : MethodName := ⟨RX7, "costOf", "(II)I"⟩
abbrev cX7_isStored : ByteArray := prog_9_method_47_code
def yX7_isStored : MethodName := ⟨RX7, "isStored", "(I)Z"⟩
abbrev cX7_chunks : ByteArray := prog_9_method_48_code
def yX7_chunks : MethodName := ⟨RX7, "chunks", "()I"⟩
abbrev cX7_isChunk : ByteArray := prog_9_method_49_code
def yX7_isChunk : MethodName := ⟨RX7, "isChunk", "(I)Z"⟩
abbrev cX7_chunkLength : ByteArray := prog_9_method_50_code
def yX7_chunkLength : MethodName := ⟨RX7, "chunkLength", "(I)I"⟩
abbrev cX7_fingerprint : ByteArray := prog_9_method_51_code
def yX7_fingerprint : MethodName := ⟨RX7, "fingerprint", "(I)I"⟩
abbrev cX7_references : ByteArray := prog_9_method_52_code
def yX7_references : MethodName := ⟨RX7, "references", "(I)I"⟩
abbrev cX7_containerOf : ByteArray := prog_9_method_53_code
def yX7_containerOf : MethodName := ⟨RX7, "containerOf", "(I)I"⟩
abbrev cX7_containers : ByteArray := prog_9_method_54_code
def yX7_containers : MethodName := ⟨RX7, "containers", "()I"⟩
abbrev cX7_openContainer : ByteArray := prog_9_method_55_code
def yX7_openContainer : MethodName := ⟨RX7, "openContainer", "()I"⟩
abbrev cX7_cached : ByteArray := prog_9_method_56_code
def yX7_cached : MethodName := ⟨RX7, "cached", "(I)I"⟩
abbrev cX7_cacheHits : ByteArray := prog_9_method_57_code
def yX7_cacheHits : MethodName := ⟨RX7, "cacheHits", "()I"⟩
abbrev cX7_indexReads : ByteArray := prog_9_method_58_code
def yX7_indexReads : MethodName := ⟨RX7, "indexReads", "()I"⟩
abbrev cX7_allBytes : ByteArray := prog_9_method_59_code
def yX7_allBytes : MethodName := ⟨RX7, "allBytes", "()I"⟩
abbrev cX7_allSaved : ByteArray := prog_9_method_60_code
def yX7_allSaved : MethodName := ⟨RX7, "allSaved", "()I"⟩
abbrev cX7_storedBytes : ByteArray := prog_9_method_61_code
def yX7_storedBytes : MethodName := ⟨RX7, "storedBytes", "()I"⟩
abbrev cX7_savedBytes : ByteArray := prog_9_method_62_code
def yX7_savedBytes : MethodName := ⟨RX7, "savedBytes", "()I"⟩
abbrev cX7_garbage : ByteArray := prog_9_method_63_code
def yX7_garbage : MethodName := ⟨RX7, "garbage", "()I"⟩
abbrev cX7_ratio : ByteArray := prog_9_method_64_code
def yX7_ratio : MethodName := ⟨RX7, "ratio", "()D"⟩
abbrev cL_append : ByteArray := method_3_code
def yL_append : MethodName := ⟨RL, "append", "(LDedupVault;III[J)I"⟩
abbrev cL_appendCopy : ByteArray := method_4_code
def yL_appendCopy : MethodName := ⟨RL, "appendCopy", "(LDedupVault;IIII[J)I"⟩
abbrev cL_insert : ByteArray := method_5_code
def yL_insert : MethodName := ⟨RL, "insert", "(LDedupVault;II[J)I"⟩
abbrev cL_cut : ByteArray := method_6_code
def yL_cut : MethodName := ⟨RL, "cut", "(LDedupVault;II[J)I"⟩
abbrev cL_draftAt : ByteArray := method_7_code
def yL_draftAt : MethodName := ⟨RL, "draftAt", "(LDedupVault;I[J)I"⟩
abbrev cL_save : ByteArray := method_8_code
def yL_save : MethodName := ⟨RL, "save", "(LDedupVault;I[J)I"⟩
abbrev cL_forget : ByteArray := method_9_code
def yL_forget : MethodName := ⟨RL, "forget", "(LDedupVault;II[J)I"⟩
abbrev cL_isKept : ByteArray := method_10_code
def yL_isKept : MethodName := ⟨RL, "isKept", "(LDedupVault;II[J)I"⟩
abbrev cL_latest : ByteArray := method_11_code
def yL_latest : MethodName := ⟨RL, "latest", "(LDedupVault;I[J)I"⟩
abbrev cL_length : ByteArray := method_12_code
def yL_length : MethodName := ⟨RL, "length", "(LDedupVault;II[J)I"⟩
abbrev cL_byteAt : ByteArray := method_13_code
def yL_byteAt : MethodName := ⟨RL, "byteAt", "(LDedupVault;III[J)I"⟩
abbrev cL_byteByCopy : ByteArray := method_14_code
def yL_byteByCopy : MethodName := ⟨RL, "byteByCopy", "(LDedupVault;III[J)I"⟩
abbrev cL_chunksOf : ByteArray := method_15_code
def yL_chunksOf : MethodName := ⟨RL, "chunksOf", "(LDedupVault;II[J)I"⟩
abbrev cL_chunkAt : ByteArray := method_16_code
def yL_chunkAt : MethodName := ⟨RL, "chunkAt", "(LDedupVault;III[J)I"⟩
abbrev cL_baseOf : ByteArray := method_17_code
def yL_baseOf : MethodName := ⟨RL, "baseOf", "(LDedupVault;II[J)I"⟩
abbrev cL_chainOf : ByteArray := method_18_code
def yL_chainOf : MethodName := ⟨RL, "chainOf", "(LDedupVault;II[J)I"⟩
abbrev cL_costOf : ByteArray := method_19_code
def yL_costOf : MethodName := ⟨RL, "costOf", "(LDedupVault;II[J)I"⟩
abbrev cL_chunkLength : ByteArray := method_20_code
def yL_chunkLength : MethodName := ⟨RL, "chunkLength", "(LDedupVault;I[J)I"⟩
abbrev cL_fingerprint : ByteArray := method_21_code
def yL_fingerprint : MethodName := ⟨RL, "fingerprint", "(LDedupVault;I[J)I"⟩
abbrev cL_references : ByteArray := method_22_code
def yL_references : MethodName := ⟨RL, "references", "(LDedupVault;I[J)I"⟩
abbrev cL_containerOf : ByteArray := method_23_code
def yL_containerOf : MethodName := ⟨RL, "containerOf", "(LDedupVault;I[J)I"⟩
abbrev cL_cached : ByteArray := method_24_code
def yL_cached : MethodName := ⟨RL, "cached", "(LDedupVault;I[J)I"⟩
def RN (k : Nat) : String := match k with
  | 0 => RJx4a65c
  | 1 => RX0
  | 2 => RX1
  | 3 => RX2
  | 4 => RX3
  | 5 => RX4
  | 6 => RX5
  | 7 => RX6
  | 8 => RX7
  | _ => RL
def TN (k : Nat) : u_T := match k with
  | 0 => TJx4a65c
  | 1 => TX0
  | 2 => TX1
  | 3 => TX2
  | 4 => TX3
  | 5 => TX4
  | 6 => TX5
  | 7 => TX6
  | _ => TX7
def tyN (k : Nat) : Nat → FieldType := match k with
  | 0 => tyJx4a65c
  | 1 => tyX0
  | 2 => tyX1
  | 3 => tyX2
  | 4 => tyX3
  | 5 => tyX4
  | 6 => tyX5
  | 7 => tyX6
  | _ => tyX7
def NN (k : Nat) : Nat := match k with
  | 0 => 3
  | 1 => 4
  | 2 => 3
  | 3 => 4
  | 4 => 2
  | 5 => 6
  | 6 => 5
  | 7 => 5
  | 8 => 23
  | _ => 0
abbrev kcl : List vw_C := [(RJx4a65c, TJx4a65c, 3), (RX0, TX0, 4), (RX1, TX1, 3), (RX2, TX2, 4), (RX3, TX3, 2), (RX4, TX4, 6), (RX5, TX5, 5), (RX6, TX6, 5), (RX7, TX7, 23)]
def fI (ci k : Nat) : Bool := match ci with
  | 0 => decide (k ∈ ([0, 2] : List Nat))
  | 1 => decide (k ∈ ([0, 3] : List Nat))
  | 2 => decide (k ∈ ([0, 2] : List Nat))
  | 3 => decide (k ∈ ([1, 2, 3] : List Nat))
  | 4 => decide (k ∈ ([1] : List Nat))
  | 5 => decide (k ∈ ([3, 4, 5] : List Nat))
  | 6 => decide (k ∈ ([0, 1] : List Nat))
  | 7 => decide (k ∈ ([4] : List Nat))
  | 8 => decide (k ∈ ([0, 10, 11, 16, 18, 20, 21, 22] : List Nat))
  | _ => false
def fF (ci k : Nat) : Bool := match ci with
  | 0 => decide (k ∈ ([] : List Nat))
  | 1 => decide (k ∈ ([0, 1] : List Nat))
  | 2 => decide (k ∈ ([0, 1] : List Nat))
  | 3 => decide (k ∈ ([0, 1, 2, 3] : List Nat))
  | 4 => decide (k ∈ ([0] : List Nat))
  | 5 => decide (k ∈ ([0, 1] : List Nat))
  | 6 => decide (k ∈ ([0, 1, 2, 3] : List Nat))
  | 7 => decide (k ∈ ([0, 1, 2, 3] : List Nat))
  | 8 => decide (k ∈ ([1, 2, 3, 4, 5, 6, 7, 8, 9, 12, 13, 14, 15, 17, 19] : List Nat))
  | _ => false
abbrev MI : Type := MethodName × ByteArray × Nat × Option FieldType × Nat × Bool × Nat
def mPT_0 : List (MI × (Nat × Nat × Nat × Nat)) := [
  ((yJx4a65c_init_da8c8, cJx4a65c_init_da8c8, 1, none, 0, false, 0), (99, 47, 98, 98)),
  ((yJx4a65c_grow_92f84, cJx4a65c_grow_92f84, 4, (some (.array (.object "java/lang/Object"))), 0, false, 1), (162, 47, 161, 2)),
  ((yJx4a65c_grow_d5877, cJx4a65c_grow_d5877, 1, (some (.array (.object "java/lang/Object"))), 0, false, 0), (158, 47, 157, 1)),
  ((yJx4a65c_size_8abf5, cJx4a65c_size_8abf5, 1, (some (.int)), 0, false, 0), (306, 47, 304, 305)),
  ((yJx4a65c_elementData_915e3, cJx4a65c_elementData_915e3, 2, (some (.object "java/lang/Object")), 0, false, 1), (320, 47, 318, 319)),
  ((yJx4a65c_get_915e3, cJx4a65c_get_915e3, 2, (some (.object "java/lang/Object")), 0, false, 1), (310, 47, 308, 309)),
  ((yJx4a65c_add_72be8, cJx4a65c_add_72be8, 4, none, 0, false, 3), (154, 47, 153, 0)),
  ((yJx4a65c_add_9ea2d, cJx4a65c_add_9ea2d, 2, (some (.boolean)), 0, false, 1), (150, 47, 148, 149)),
  ((yJx4a65c_add_7a177, cJx4a65c_add_7a177, 5, none, 0, false, 2), (762, 47, 760, 761)),
  ((yJx4a65c_remove_915e3, cJx4a65c_remove_915e3, 4, (some (.object "java/lang/Object")), 0, false, 1), (377, 47, 375, 376)),
  ((yJx4a65c_fastRemove_b59b0, cJx4a65c_fastRemove_b59b0, 4, none, 0, false, 2), (381, 47, 380, 3)),
  ((yJx4a65c_rangeCheckForAdd_d00df, cJx4a65c_rangeCheckForAdd_d00df, 2, none, 0, false, 1), (766, 47, 765, 12)),
  ((yJx4a65c_outOfBoundsMsg_b52d3, cJx4a65c_outOfBoundsMsg_b52d3, 2, (some (.object "java/lang/String")), 0, false, 1), (771, 47, 770, 13)),
  ((yX0_init, cX0_init, 4, none, 1, false, 3), (736, 65, 735, 735)),
  ((yX0_number, cX0_number, 1, (some (.int)), 1, false, 0), (437, 65, 435, 436)),
  ((yX0_bytes, cX0_bytes, 1, (some (.object "DedupVault$Piece")), 1, false, 0), (347, 65, 345, 346))]
def mPT_1 : List (MI × (Nat × Nat × Nat × Nat)) := [
  ((yX0_home, cX0_home, 1, (some (.object "DedupVault$Container")), 1, false, 0), (754, 65, 752, 753)),
  ((yX0_moveTo, cX0_moveTo, 2, none, 1, false, 1), (413, 65, 411, 412)),
  ((yX0_uses, cX0_uses, 1, (some (.int)), 1, false, 0), (368, 65, 366, 367)),
  ((yX0_addUses, cX0_addUses, 2, none, 1, false, 1), (1027, 65, 1025, 1026)),
  ((yX1_init, cX1_init, 2, none, 2, false, 1), (133, 49, 132, 132)),
  ((yX1_number, cX1_number, 1, (some (.int)), 2, false, 0), (405, 49, 403, 404)),
  ((yX1_filled, cX1_filled, 1, (some (.int)), 2, false, 0), (373, 49, 371, 372)),
  ((yX1_count, cX1_count, 1, (some (.int)), 2, false, 0), (449, 49, 447, 448)),
  ((yX1_fits, cX1_fits, 2, (some (.boolean)), 2, false, 1), (401, 49, 399, 400)),
  ((yX1_put, cX1_put, 2, none, 2, false, 1), (409, 49, 407, 408)),
  ((yX1_withBytes, cX1_withBytes, 3, (some (.object "DedupVault$Chunk")), 2, false, 1), (340, 49, 338, 339)),
  ((yX1_withNumber, cX1_withNumber, 3, (some (.object "DedupVault$Chunk")), 2, false, 1), (433, 49, 431, 432)),
  ((yX1_needed, cX1_needed, 3, (some (.object "java/util/ArrayList")), 2, false, 0), (390, 49, 388, 389)),
  ((yX1_neededBytes, cX1_neededBytes, 3, (some (.int)), 2, false, 0), (364, 49, 362, 363)),
  ((yX2_init, cX2_init, 4, none, 3, false, 3), (283, 64, 282, 282)),
  ((yX2_markOf, cX2_markOf, 6, (some (.int)), 3, true, 3), (287, 64, 286, 286))]
def mPT_2 : List (MI × (Nat × Nat × Nat × Nat)) := [
  ((yX2_size, cX2_size, 1, (some (.int)), 3, false, 0), (352, 64, 350, 351)),
  ((yX2_mark, cX2_mark, 1, (some (.int)), 3, false, 0), (1193, 64, 1191, 1192)),
  ((yX2_get, cX2_get, 2, (some (.int)), 3, false, 1), (1114, 64, 1112, 1113)),
  ((yX2_detached, cX2_detached, 2, (some (.object "DedupVault$Piece")), 3, false, 0), (728, 64, 726, 727)),
  ((yX2_sameAs, cX2_sameAs, 3, (some (.boolean)), 3, false, 1), (327, 64, 325, 326)),
  ((yX3_init, cX3_init, 2, none, 4, false, 1), (85, 44, 84, 84)),
  ((yX3_size, cX3_size, 1, (some (.int)), 4, false, 0), (250, 44, 248, 249)),
  ((yX3_get, cX3_get, 2, (some (.int)), 4, false, 1), (278, 44, 276, 277)),
  ((yX3_add, cX3_add, 2, none, 4, false, 1), (606, 44, 604, 605)),
  ((yX3_addPart, cX3_addPart, 5, none, 4, false, 3), (654, 44, 652, 653)),
  ((yX3_putIn, cX3_putIn, 4, none, 4, false, 2), (610, 44, 608, 609)),
  ((yX3_takeOut, cX3_takeOut, 4, none, 4, false, 2), (254, 44, 252, 253)),
  ((yX4_init, cX4_init, 1, none, 5, false, 0), (125, 48, 124, 124)),
  ((yX4_hits, cX4_hits, 1, (some (.int)), 5, false, 0), (473, 48, 471, 472)),
  ((yX4_reads, cX4_reads, 1, (some (.int)), 5, false, 0), (481, 48, 479, 480)),
  ((yX4_containerCount, cX4_containerCount, 1, (some (.int)), 5, false, 0), (457, 48, 455, 456))]
def mPT_3 : List (MI × (Nat × Nat × Nat × Nat)) := [
  ((yX4_openNumber, cX4_openNumber, 1, (some (.int)), 5, false, 0), (465, 48, 463, 464)),
  ((yX4_recentNumber, cX4_recentNumber, 2, (some (.int)), 5, false, 1), (1221, 48, 1219, 1220)),
  ((yX4_has, cX4_has, 2, (some (.boolean)), 5, false, 1), (331, 48, 329, 330)),
  ((yX4_findChunk, cX4_findChunk, 4, (some (.object "DedupVault$Chunk")), 5, false, 1), (429, 48, 427, 428)),
  ((yX4_chunkCount, cX4_chunkCount, 3, (some (.int)), 5, false, 0), (445, 48, 443, 444)),
  ((yX4_filledBytes, cX4_filledBytes, 3, (some (.int)), 5, false, 0), (489, 48, 487, 488)),
  ((yX4_garbageBytes, cX4_garbageBytes, 3, (some (.int)), 5, false, 0), (506, 48, 504, 505)),
  ((yX4_chunkFor, cX4_chunkFor, 3, (some (.object "DedupVault$Chunk")), 5, false, 1), (719, 48, 717, 718)),
  ((yX4_chunkIn, cX4_chunkIn, 4, (some (.object "DedupVault$Chunk")), 5, true, 2), (334, 48, 333, 333)),
  ((yX4_storeNew, cX4_storeNew, 4, (some (.object "DedupVault$Chunk")), 5, false, 1), (723, 48, 722, 10)),
  ((yX4_openFor, cX4_openFor, 2, (some (.object "DedupVault$Container")), 5, false, 1), (397, 48, 396, 5)),
  ((yX4_use, cX4_use, 2, none, 5, false, 1), (758, 48, 757, 11)),
  ((yX4_leaveCache, cX4_leaveCache, 3, none, 5, false, 1), (417, 48, 416, 6)),
  ((yX4_collectGarbage, cX4_collectGarbage, 7, (some (.int)), 5, false, 0), (360, 48, 358, 359)),
  ((yX4_empty, cX4_empty, 4, none, 5, false, 1), (386, 48, 385, 4)),
  ((yX5_init, cX5_init, 4, none, 6, false, 3), (692, 63, 691, 691))]
def mPT_4 : List (MI × (Nat × Nat × Nat × Nat)) := [
  ((yX5_file, cX5_file, 1, (some (.int)), 6, false, 0), (630, 63, 628, 629)),
  ((yX5_number, cX5_number, 1, (some (.int)), 6, false, 0), (634, 63, 632, 633)),
  ((yX5_copy, cX5_copy, 1, (some (.object "DedupVault$Row")), 6, false, 0), (498, 63, 496, 497)),
  ((yX5_base, cX5_base, 1, (some (.object "DedupVault$Version")), 6, false, 0), (1151, 63, 1149, 1150)),
  ((yX5_entryCount, cX5_entryCount, 1, (some (.int)), 6, false, 0), (1132, 63, 1130, 1131)),
  ((yX5_entryNumber, cX5_entryNumber, 2, (some (.int)), 6, false, 1), (1049, 63, 1047, 1048)),
  ((yX5_addEntry, cX5_addEntry, 2, none, 6, false, 1), (1022, 63, 1020, 1021)),
  ((yX5_releaseEntries, cX5_releaseEntries, 2, none, 6, false, 0), (1073, 63, 1071, 1072)),
  ((yX5_restored, cX5_restored, 5, (some (.int)), 6, false, 1), (1108, 63, 1106, 1107)),
  ((yX5_chain, cX5_chain, 3, (some (.int)), 6, false, 0), (1039, 63, 1037, 1038)),
  ((yX5_cost, cX5_cost, 1, (some (.int)), 6, false, 0), (1170, 63, 1168, 1169)),
  ((yX5_chooseBase, cX5_chooseBase, 2, none, 6, false, 1), (1035, 63, 1033, 1034)),
  ((yX5_loseBase, cX5_loseBase, 2, none, 6, false, 1), (1069, 63, 1067, 1068)),
  ((yX5_differenceTo, cX5_differenceTo, 5, (some (.int)), 6, false, 1), (1043, 63, 1042, 15)),
  ((yX5_fromEnd, cX5_fromEnd, 2, (some (.int)), 6, false, 1), (1057, 63, 1056, 16)),
  ((yX6_init, cX6_init, 1, none, 7, false, 0), (77, 43, 76, 76))]
def mPT_5 : List (MI × (Nat × Nat × Nat × Nat)) := [
  ((yX6_append, cX6_append, 6, (some (.int)), 7, false, 3), (520, 43, 518, 519)),
  ((yX6_appendCopy, cX6_appendCopy, 6, (some (.int)), 7, false, 4), (618, 43, 616, 617)),
  ((yX6_insert, cX6_insert, 3, (some (.int)), 7, false, 2), (663, 43, 661, 662)),
  ((yX6_cut, cX6_cut, 3, (some (.int)), 7, false, 2), (671, 43, 669, 670)),
  ((yX6_clearDraft, cX6_clearDraft, 2, (some (.int)), 7, false, 0), (246, 43, 244, 245)),
  ((yX6_draftLength, cX6_draftLength, 1, (some (.int)), 7, false, 0), (261, 43, 259, 260)),
  ((yX6_draftAt, cX6_draftAt, 2, (some (.int)), 7, false, 1), (678, 43, 676, 677)),
  ((yX6_save, cX6_save, 6, (some (.int)), 7, false, 1), (688, 43, 686, 687)),
  ((yX6_wouldStore, cX6_wouldStore, 5, (some (.int)), 7, false, 0), (265, 43, 263, 264)),
  ((yX6_forget, cX6_forget, 6, (some (.int)), 7, false, 2), (1064, 43, 1062, 1063)),
  ((yX6_collect, cX6_collect, 1, (some (.int)), 7, false, 0), (356, 43, 354, 355)),
  ((yX6_versions, cX6_versions, 1, (some (.int)), 7, false, 0), (421, 43, 419, 420)),
  ((yX6_isKept, cX6_isKept, 3, (some (.boolean)), 7, false, 2), (1080, 43, 1078, 1079)),
  ((yX6_latest, cX6_latest, 2, (some (.int)), 7, false, 1), (1087, 43, 1085, 1086)),
  ((yX6_length, cX6_length, 3, (some (.int)), 7, false, 2), (1097, 43, 1095, 1096)),
  ((yX6_byteAt, cX6_byteAt, 5, (some (.int)), 7, false, 3), (1104, 43, 1102, 1103))]
def mPT_6 : List (MI × (Nat × Nat × Nat × Nat)) := [
  ((yX6_byteByCopy, cX6_byteByCopy, 5, (some (.int)), 7, false, 3), (1121, 43, 1119, 1120)),
  ((yX6_chunksOf, cX6_chunksOf, 3, (some (.int)), 7, false, 2), (1128, 43, 1126, 1127)),
  ((yX6_chunkAt, cX6_chunkAt, 5, (some (.int)), 7, false, 3), (1139, 43, 1137, 1138)),
  ((yX6_baseOf, cX6_baseOf, 3, (some (.int)), 7, false, 2), (1147, 43, 1145, 1146)),
  ((yX6_chainOf, cX6_chainOf, 3, (some (.int)), 7, false, 2), (1158, 43, 1156, 1157)),
  ((yX6_costOf, cX6_costOf, 3, (some (.int)), 7, false, 2), (1166, 43, 1164, 1165)),
  ((yX6_isStored, cX6_isStored, 2, (some (.boolean)), 7, false, 1), (425, 43, 423, 424)),
  ((yX6_chunks, cX6_chunks, 1, (some (.int)), 7, false, 0), (441, 43, 439, 440)),
  ((yX6_chunkLength, cX6_chunkLength, 2, (some (.int)), 7, false, 1), (1177, 43, 1175, 1176)),
  ((yX6_fingerprint, cX6_fingerprint, 2, (some (.int)), 7, false, 1), (1189, 43, 1187, 1188)),
  ((yX6_references, cX6_references, 2, (some (.int)), 7, false, 1), (1200, 43, 1198, 1199)),
  ((yX6_containerOf, cX6_containerOf, 2, (some (.int)), 7, false, 1), (1208, 43, 1206, 1207)),
  ((yX6_containers, cX6_containers, 1, (some (.int)), 7, false, 0), (453, 43, 451, 452)),
  ((yX6_openContainer, cX6_openContainer, 1, (some (.int)), 7, false, 0), (461, 43, 459, 460)),
  ((yX6_cached, cX6_cached, 2, (some (.int)), 7, false, 1), (1217, 43, 1215, 1216)),
  ((yX6_cacheHits, cX6_cacheHits, 1, (some (.int)), 7, false, 0), (469, 43, 467, 468))]
def mPT_7 : List (MI × (Nat × Nat × Nat × Nat)) := [
  ((yX6_indexReads, cX6_indexReads, 1, (some (.int)), 7, false, 0), (477, 43, 475, 476)),
  ((yX6_storedBytes, cX6_storedBytes, 1, (some (.int)), 7, false, 0), (485, 43, 483, 484)),
  ((yX6_savedBytes, cX6_savedBytes, 3, (some (.int)), 7, false, 0), (493, 43, 491, 492)),
  ((yX6_garbage, cX6_garbage, 1, (some (.int)), 7, false, 0), (502, 43, 500, 501)),
  ((yX6_ratio, cX6_ratio, 2, (some (.double)), 7, false, 0), (510, 43, 508, 509)),
  ((yX6_noByteValue, cX6_noByteValue, 1, (some (.boolean)), 7, true, 1), (523, 43, 522, 522)),
  ((yX6_noPlace, cX6_noPlace, 2, (some (.boolean)), 7, true, 2), (681, 43, 680, 680)),
  ((yX6_noSpan, cX6_noSpan, 3, (some (.boolean)), 7, true, 3), (257, 43, 256, 256)),
  ((yX6_numberOf, cX6_numberOf, 1, (some (.int)), 7, true, 1), (1090, 43, 1089, 1089)),
  ((yX6_findVersion, cX6_findVersion, 5, (some (.object "DedupVault$Version")), 7, false, 2), (626, 43, 625, 9)),
  ((yX6_demandVersion, cX6_demandVersion, 4, (some (.object "DedupVault$Version")), 7, false, 2), (622, 43, 621, 8)),
  ((yX6_demandChunk, cX6_demandChunk, 3, (some (.object "DedupVault$Chunk")), 7, false, 1), (1181, 43, 1180, 17)),
  ((yX6_latestKept, cX6_latestKept, 4, (some (.object "DedupVault$Version")), 7, false, 1), (1031, 43, 1030, 14)),
  ((yX6_piecesOf, cX6_piecesOf, 4, (some (.object "java/util/ArrayList")), 7, true, 1), (268, 43, 267, 267)),
  ((yX6_endsPiece, cX6_endsPiece, 4, (some (.boolean)), 7, true, 3), (271, 43, 270, 270)),
  ((yX6_windowSum, cX6_windowSum, 4, (some (.int)), 7, true, 2), (274, 43, 273, 273))]
def mPT_8 : List (MI × (Nat × Nat × Nat × Nat)) := [
  ((yX6_cameBefore, cX6_cameBefore, 3, (some (.boolean)), 7, true, 2), (323, 43, 322, 322)),
  ((yX7_init, cX7_init, 2, none, 8, false, 0), (1227, 54, 1226, 1226)),
  ((yX7_thrown, cX7_thrown, 1, (some (.int)), 8, false, 0), (1303, 54, 1301, 1302)),
  ((yX7_can, cX7_can, 2, (some (.boolean)), 8, false, 1), (1314, 54, 1313, 18)),
  ((yX7_isIn, cX7_isIn, 3, (some (.boolean)), 8, true, 3), (1310, 54, 1309, 1309)),
  ((yX7_adds, cX7_adds, 2, none, 8, false, 1), (1318, 54, 1317, 19)),
  ((yX7_append, cX7_append, 6, (some (.int)), 8, false, 3), (1307, 54, 1305, 1306)),
  ((yX7_appendCopy, cX7_appendCopy, 8, (some (.int)), 8, false, 4), (1322, 54, 1320, 1321)),
  ((yX7_insert, cX7_insert, 4, (some (.int)), 8, false, 2), (1330, 54, 1328, 1329)),
  ((yX7_cut, cX7_cut, 4, (some (.int)), 8, false, 2), (1334, 54, 1332, 1333)),
  ((yX7_clearDraft, cX7_clearDraft, 2, (some (.int)), 8, false, 0), (1338, 54, 1336, 1337)),
  ((yX7_draftLength, cX7_draftLength, 1, (some (.int)), 8, false, 0), (1342, 54, 1340, 1341)),
  ((yX7_draftAt, cX7_draftAt, 2, (some (.int)), 8, false, 1), (1346, 54, 1344, 1345)),
  ((yX7_end, cX7_end, 5, (some (.int)), 8, false, 1), (1362, 54, 1361, 23)),
  ((yX7_find, cX7_find, 7, (some (.int)), 8, false, 2), (1366, 54, 1365, 24)),
  ((yX7_row, cX7_row, 4, (some (.int)), 8, false, 1), (1454, 54, 1453, 38))]
def mPT_9 : List (MI × (Nat × Nat × Nat × Nat)) := [
  ((yX7_bytesIn, cX7_bytesIn, 4, (some (.int)), 8, false, 1), (1378, 54, 1377, 27)),
  ((yX7_putRow, cX7_putRow, 4, none, 8, false, 3), (1374, 54, 1373, 26)),
  ((yX7_dropRow, cX7_dropRow, 3, none, 8, false, 1), (1418, 54, 1417, 34)),
  ((yX7_usesOf, cX7_usesOf, 5, (some (.int)), 8, false, 1), (1414, 54, 1413, 33)),
  ((yX7_isCached, cX7_isCached, 2, (some (.boolean)), 8, false, 1), (1370, 54, 1369, 25)),
  ((yX7_leaveCache, cX7_leaveCache, 5, none, 8, false, 1), (1386, 54, 1385, 29)),
  ((yX7_use, cX7_use, 2, none, 8, false, 1), (1382, 54, 1381, 28)),
  ((yX7_place, cX7_place, 5, (some (.int)), 8, false, 2), (1326, 54, 1325, 20)),
  ((yX7_keptVersions, cX7_keptVersions, 3, (some (.int)), 8, false, 0), (1354, 54, 1353, 21)),
  ((yX7_latestOf, cX7_latestOf, 4, (some (.int)), 8, false, 1), (1358, 54, 1357, 22)),
  ((yX7_difference, cX7_difference, 6, (some (.int)), 8, false, 2), (1394, 54, 1393, 31)),
  ((yX7_chain, cX7_chain, 4, (some (.int)), 8, false, 1), (1390, 54, 1389, 30)),
  ((yX7_save, cX7_save, 7, (some (.int)), 8, false, 1), (1350, 54, 1348, 1349)),
  ((yX7_wouldStore, cX7_wouldStore, 8, (some (.int)), 8, false, 0), (1398, 54, 1396, 1397)),
  ((yX7_forget, cX7_forget, 5, (some (.int)), 8, false, 2), (1402, 54, 1400, 1401)),
  ((yX7_liveIn, cX7_liveIn, 4, (some (.int)), 8, false, 1), (1410, 54, 1409, 32))]
def mPT_10 : List (MI × (Nat × Nat × Nat × Nat)) := [
  ((yX7_collect, cX7_collect, 9, (some (.int)), 8, false, 0), (1406, 54, 1404, 1405)),
  ((yX7_versions, cX7_versions, 1, (some (.int)), 8, false, 0), (1422, 54, 1420, 1421)),
  ((yX7_isKept, cX7_isKept, 3, (some (.boolean)), 8, false, 2), (1426, 54, 1424, 1425)),
  ((yX7_latest, cX7_latest, 2, (some (.int)), 8, false, 1), (1430, 54, 1428, 1429)),
  ((yX7_isVersion, cX7_isVersion, 3, (some (.boolean)), 8, false, 2), (1438, 54, 1437, 35)),
  ((yX7_length, cX7_length, 3, (some (.int)), 8, false, 2), (1434, 54, 1432, 1433)),
  ((yX7_restored, cX7_restored, 6, (some (.int)), 8, false, 2), (1450, 54, 1449, 37)),
  ((yX7_isByte, cX7_isByte, 5, (some (.boolean)), 8, false, 3), (1446, 54, 1445, 36)),
  ((yX7_byteAt, cX7_byteAt, 4, (some (.int)), 8, false, 3), (1442, 54, 1440, 1441)),
  ((yX7_byteByCopy, cX7_byteByCopy, 4, (some (.int)), 8, false, 3), (1458, 54, 1456, 1457)),
  ((yX7_chunksOf, cX7_chunksOf, 3, (some (.int)), 8, false, 2), (1462, 54, 1460, 1461)),
  ((yX7_chunkAt, cX7_chunkAt, 5, (some (.int)), 8, false, 3), (1466, 54, 1464, 1465)),
  ((yX7_baseOf, cX7_baseOf, 3, (some (.int)), 8, false, 2), (1470, 54, 1468, 1469)),
  ((yX7_chainOf, cX7_chainOf, 3, (some (.int)), 8, false, 2), (1474, 54, 1472, 1473)),
  ((yX7_costOf, cX7_costOf, 4, (some (.int)), 8, false, 2), (1478, 54, 1476, 1477)),
  ((yX7_isStored, cX7_isStored, 2, (some (.boolean)), 8, false, 1), (1482, 54, 1480, 1481))]
def mPT_11 : List (MI × (Nat × Nat × Nat × Nat)) := [
  ((yX7_chunks, cX7_chunks, 1, (some (.int)), 8, false, 0), (1486, 54, 1484, 1485)),
  ((yX7_isChunk, cX7_isChunk, 2, (some (.boolean)), 8, false, 1), (1494, 54, 1493, 39)),
  ((yX7_chunkLength, cX7_chunkLength, 2, (some (.int)), 8, false, 1), (1490, 54, 1488, 1489)),
  ((yX7_fingerprint, cX7_fingerprint, 6, (some (.int)), 8, false, 1), (1498, 54, 1496, 1497)),
  ((yX7_references, cX7_references, 2, (some (.int)), 8, false, 1), (1502, 54, 1500, 1501)),
  ((yX7_containerOf, cX7_containerOf, 2, (some (.int)), 8, false, 1), (1506, 54, 1504, 1505)),
  ((yX7_containers, cX7_containers, 3, (some (.int)), 8, false, 0), (1510, 54, 1508, 1509)),
  ((yX7_openContainer, cX7_openContainer, 1, (some (.int)), 8, false, 0), (1514, 54, 1512, 1513)),
  ((yX7_cached, cX7_cached, 2, (some (.int)), 8, false, 1), (1518, 54, 1516, 1517)),
  ((yX7_cacheHits, cX7_cacheHits, 1, (some (.int)), 8, false, 0), (1522, 54, 1520, 1521)),
  ((yX7_indexReads, cX7_indexReads, 1, (some (.int)), 8, false, 0), (1526, 54, 1524, 1525)),
  ((yX7_allBytes, cX7_allBytes, 3, (some (.int)), 8, false, 0), (1534, 54, 1533, 40)),
  ((yX7_allSaved, cX7_allSaved, 3, (some (.int)), 8, false, 0), (1542, 54, 1541, 41)),
  ((yX7_storedBytes, cX7_storedBytes, 1, (some (.int)), 8, false, 0), (1530, 54, 1528, 1529)),
  ((yX7_savedBytes, cX7_savedBytes, 1, (some (.int)), 8, false, 0), (1538, 54, 1536, 1537)),
  ((yX7_garbage, cX7_garbage, 3, (some (.int)), 8, false, 0), (1546, 54, 1544, 1545))]
def mPT_12 : List (MI × (Nat × Nat × Nat × Nat)) := [
  ((yX7_ratio, cX7_ratio, 1, (some (.double)), 8, false, 0), (1550, 54, 1548, 1549)),
  ((yL_append, cL_append, 6, (some (.int)), 9, true, 5), (514, 42, 513, 513)),
  ((yL_appendCopy, cL_appendCopy, 7, (some (.int)), 9, true, 6), (613, 42, 612, 612)),
  ((yL_insert, cL_insert, 5, (some (.int)), 9, true, 4), (659, 42, 658, 658)),
  ((yL_cut, cL_cut, 5, (some (.int)), 9, true, 4), (667, 42, 666, 666)),
  ((yL_draftAt, cL_draftAt, 4, (some (.int)), 9, true, 3), (674, 42, 673, 673)),
  ((yL_save, cL_save, 4, (some (.int)), 9, true, 3), (684, 42, 683, 683)),
  ((yL_forget, cL_forget, 5, (some (.int)), 9, true, 4), (1060, 42, 1059, 1059)),
  ((yL_isKept, cL_isKept, 5, (some (.int)), 9, true, 4), (1076, 42, 1075, 1075)),
  ((yL_latest, cL_latest, 4, (some (.int)), 9, true, 3), (1083, 42, 1082, 1082)),
  ((yL_length, cL_length, 5, (some (.int)), 9, true, 4), (1093, 42, 1092, 1092)),
  ((yL_byteAt, cL_byteAt, 6, (some (.int)), 9, true, 5), (1100, 42, 1099, 1099)),
  ((yL_byteByCopy, cL_byteByCopy, 6, (some (.int)), 9, true, 5), (1117, 42, 1116, 1116)),
  ((yL_chunksOf, cL_chunksOf, 5, (some (.int)), 9, true, 4), (1124, 42, 1123, 1123)),
  ((yL_chunkAt, cL_chunkAt, 6, (some (.int)), 9, true, 5), (1135, 42, 1134, 1134)),
  ((yL_baseOf, cL_baseOf, 5, (some (.int)), 9, true, 4), (1143, 42, 1142, 1142))]
def mPT_13 : List (MI × (Nat × Nat × Nat × Nat)) := [
  ((yL_chainOf, cL_chainOf, 5, (some (.int)), 9, true, 4), (1154, 42, 1153, 1153)),
  ((yL_costOf, cL_costOf, 5, (some (.int)), 9, true, 4), (1162, 42, 1161, 1161)),
  ((yL_chunkLength, cL_chunkLength, 4, (some (.int)), 9, true, 3), (1173, 42, 1172, 1172)),
  ((yL_fingerprint, cL_fingerprint, 4, (some (.int)), 9, true, 3), (1185, 42, 1184, 1184)),
  ((yL_references, cL_references, 4, (some (.int)), 9, true, 3), (1196, 42, 1195, 1195)),
  ((yL_containerOf, cL_containerOf, 4, (some (.int)), 9, true, 3), (1204, 42, 1203, 1203)),
  ((yL_cached, cL_cached, 4, (some (.int)), 9, true, 3), (1213, 42, 1212, 1212))]
def mPT : List (MI × (Nat × Nat × Nat × Nat)) := mPT_0 ++ (mPT_1 ++ (mPT_2 ++ (mPT_3 ++ (mPT_4 ++ (mPT_5 ++ (mPT_6 ++ (mPT_7 ++ (mPT_8 ++ (mPT_9 ++ (mPT_10 ++ (mPT_11 ++ (mPT_12 ++ (mPT_13)))))))))))))
def mth (k : Nat) : Option MI := (mPT[k]?).map (fun e => e.1)
def fldT : List ((Nat × Nat) × Nat × Nat × Nat) := [((1, 7), 1, 0, 738), ((1, 13), 1, 1, 739), ((1, 17), 1, 2, 740), ((1, 21), 1, 3, 741), ((2, 9), 2, 0, 137), ((2, 18), 2, 1, 138), ((2, 22), 2, 2, 139), ((3, 9), 3, 0, 289), ((3, 15), 3, 1, 290), ((3, 19), 3, 2, 291), ((3, 26), 3, 3, 292), ((4, 7), 4, 0, 87), ((4, 13), 4, 1, 88), ((5, 12), 5, 0, 208), ((5, 18), 5, 1, 209), ((5, 26), 5, 2, 210), ((5, 34), 5, 3, 211), ((5, 38), 5, 4, 212), ((5, 41), 5, 5, 213), ((6, 9), 6, 0, 700), ((6, 15), 6, 1, 701), ((6, 27), 6, 2, 702), ((6, 38), 6, 3, 703), ((6, 42), 6, 4, 704), ((7, 14), 7, 0, 227), ((7, 21), 7, 1, 228), ((7, 25), 7, 2, 229), ((7, 32), 7, 3, 230), ((7, 36), 7, 4, 231), ((8, 7), 8, 1, 1231), ((8, 13), 8, 2, 1232), ((8, 16), 8, 3, 1233), ((8, 19), 8, 4, 1234), ((8, 22), 8, 5, 1235), ((8, 25), 8, 6, 1236), ((8, 28), 8, 7, 1237), ((8, 31), 8, 8, 1238), ((8, 34), 8, 9, 1239), ((8, 37), 8, 12, 1242), ((8, 40), 8, 13, 1243), ((8, 43), 8, 14, 1244), ((8, 46), 8, 15, 1245), ((8, 50), 8, 17, 1247), ((8, 54), 8, 19, 1249), ((8, 57), 8, 22, 1252), ((8, 61), 8, 0, 1230), ((8, 80), 8, 10, 1240), ((8, 83), 8, 18, 1248), ((8, 109), 8, 20, 1250), ((8, 112), 8, 21, 1251), ((8, 115), 8, 16, 1246), ((8, 118), 8, 11, 1241)]
def callT : List ((Nat × Nat) × Nat × Nat × Nat) := [((1, 1), 4, 0, 737), ((2, 3), 4, 0, 134), ((2, 17), 3, 0, 136), ((2, 25), 0, 3, 341), ((2, 29), 0, 32, 369), ((2, 32), 0, 7, 391), ((2, 36), 0, 15, 344), ((2, 42), 0, 17, 410), ((2, 46), 0, 5, 342), ((2, 50), 0, 36, 348), ((2, 54), 0, 14, 434), ((2, 56), 0, 18, 365), ((3, 3), 4, 0, 284), ((3, 22), 1, 31, 285), ((3, 29), 0, 39, 288), ((3, 35), 3, 37, 730), ((3, 38), 0, 41, 731), ((3, 42), 3, 30, 733), ((4, 1), 4, 0, 86), ((4, 17), 0, 42, 607), ((4, 21), 0, 39, 655), ((4, 25), 0, 40, 656), ((4, 29), 2, 119, 255), ((5, 3), 4, 0, 126), ((5, 11), 3, 0, 128), ((5, 23), 3, 20, 131), ((5, 30), 0, 7, 147), ((5, 44), 0, 3, 335), ((5, 48), 0, 21, 402), ((5, 51), 2, 118, 1222), ((5, 55), 0, 5, 336), ((5, 59), 1, 56, 332), ((5, 63), 0, 27, 430), ((5, 67), 0, 23, 446), ((5, 70), 0, 22, 370), ((5, 73), 0, 29, 361), ((5, 76), 0, 57, 720), ((5, 80), 0, 16, 751), ((5, 86), 0, 59, 755), ((5, 90), 0, 26, 337), ((5, 93), 0, 58, 394), ((5, 97), 0, 35, 725), ((5, 103), 3, 13, 734), ((5, 106), 0, 25, 406), ((5, 110), 0, 24, 398), ((5, 114), 0, 60, 414), ((5, 117), 0, 8, 759), ((5, 120), 0, 9, 374), ((5, 123), 0, 62, 383), ((5, 126), 0, 28, 387), ((5, 130), 0, 15, 393), ((6, 3), 4, 0, 693), ((6, 20), 0, 38, 695), ((6, 24), 3, 37, 696), ((6, 31), 0, 41, 697), ((6, 37), 3, 0, 699), ((6, 46), 0, 3, 1044), ((6, 47), 2, 118, 1050), ((6, 51), 0, 5, 1051), ((6, 57), 0, 14, 1053), ((6, 59), 0, 7, 1023), ((6, 63), 0, 19, 1024), ((6, 66), 0, 15, 1109), ((6, 70), 0, 32, 1110), ((6, 73), 0, 34, 1111), ((6, 76), 0, 77, 1040), ((6, 80), 0, 73, 1036), ((6, 83), 5, 0, 1045), ((6, 89), 0, 69, 1046), ((6, 92), 0, 78, 1054), ((7, 1), 4, 0, 78), ((7, 11), 3, 37, 83), ((7, 20), 3, 0, 97), ((7, 31), 3, 44, 123), ((7, 40), 1, 117, 521), ((7, 47), 0, 38, 247), ((7, 54), 0, 40, 603), ((7, 57), 0, 122, 619), ((7, 61), 0, 66, 495), ((7, 67), 1, 119, 650), ((7, 74), 0, 41, 651), ((7, 78), 0, 42, 664), ((7, 82), 0, 43, 251), ((7, 85), 1, 118, 679), ((7, 89), 0, 39, 275), ((7, 93), 0, 3, 303), ((7, 94), 3, 63, 690), ((7, 97), 1, 125, 266), ((7, 101), 0, 5, 307), ((7, 106), 0, 55, 716), ((7, 110), 0, 70, 1019), ((7, 114), 0, 124, 1028), ((7, 118), 0, 75, 1032), ((7, 122), 0, 7, 302), ((7, 125), 1, 128, 321), ((7, 129), 0, 50, 328), ((7, 133), 0, 32, 349), ((7, 134), 0, 9, 1065), ((7, 137), 0, 76, 1066), ((7, 140), 0, 71, 1070), ((7, 143), 0, 61, 357), ((7, 146), 0, 121, 623), ((7, 149), 1, 120, 1088), ((7, 153), 0, 72, 1105), ((7, 156), 0, 68, 1129), ((7, 159), 0, 69, 1140), ((7, 162), 0, 67, 1148), ((7, 166), 0, 73, 1159), ((7, 169), 0, 74, 1167), ((7, 172), 0, 51, 426), ((7, 176), 0, 52, 442), ((7, 179), 0, 123, 1178), ((7, 182), 0, 15, 1182), ((7, 188), 0, 33, 1190), ((7, 191), 0, 18, 1201), ((7, 194), 0, 16, 1209), ((7, 198), 0, 21, 1210), ((7, 203), 0, 47, 454), ((7, 206), 0, 48, 462), ((7, 209), 0, 49, 1218), ((7, 212), 0, 45, 470), ((7, 215), 0, 46, 478), ((7, 218), 0, 53, 486), ((7, 221), 0, 54, 503), ((7, 224), 0, 114, 511), ((7, 227), 0, 65, 631), ((7, 228), 0, 64, 627), ((7, 231), 1, 126, 269), ((7, 235), 3, 30, 281), ((7, 237), 1, 127, 272), ((7, 241), 0, 36, 324), ((8, 1), 4, 0, 1228), ((8, 64), 1, 132, 1308), ((8, 68), 0, 131, 1311), ((8, 72), 0, 133, 1315), ((8, 76), 0, 151, 1323), ((8, 86), 0, 144, 1375), ((8, 90), 0, 149, 1383), ((8, 93), 0, 152, 1351), ((8, 97), 0, 153, 1355), ((8, 100), 0, 141, 1359), ((8, 103), 0, 142, 1363), ((8, 106), 0, 148, 1367), ((8, 121), 0, 145, 1371), ((8, 125), 0, 150, 1379), ((8, 128), 0, 155, 1387), ((8, 131), 0, 154, 1391), ((8, 134), 0, 147, 1411), ((8, 137), 0, 159, 1407), ((8, 140), 0, 146, 1415), ((8, 143), 0, 164, 1435), ((8, 147), 0, 143, 1451), ((8, 150), 0, 167, 1443), ((8, 153), 0, 166, 1447), ((8, 156), 0, 177, 1491), ((8, 159), 0, 187, 1531), ((8, 162), 0, 188, 1539), ((9, 7), 0, 80, 517), ((9, 17), 0, 81, 615), ((9, 23), 0, 82, 660), ((9, 27), 0, 83, 668), ((9, 30), 0, 86, 675), ((9, 34), 0, 87, 685), ((9, 37), 0, 89, 1061), ((9, 40), 0, 92, 1077), ((9, 44), 0, 93, 1084), ((9, 47), 0, 94, 1094), ((9, 50), 0, 95, 1101), ((9, 53), 0, 96, 1118), ((9, 56), 0, 97, 1125), ((9, 59), 0, 98, 1136), ((9, 62), 0, 99, 1144), ((9, 65), 0, 100, 1155), ((9, 68), 0, 101, 1163), ((9, 71), 0, 104, 1174), ((9, 74), 0, 105, 1186), ((9, 77), 0, 106, 1197), ((9, 80), 0, 107, 1205), ((9, 83), 0, 110, 1214), ((9, 86), 3, 79, 75), ((9, 89), 3, 129, 1225), ((9, 90), 1, 193, 512), ((9, 95), 0, 134, 1304), ((9, 96), 0, 130, 1300), ((9, 100), 1, 194, 611), ((9, 103), 0, 135, 1319), ((9, 104), 1, 195, 657), ((9, 107), 0, 136, 1327), ((9, 108), 1, 196, 665), ((9, 110), 0, 137, 1331), ((9, 111), 0, 84, 243), ((9, 114), 0, 138, 1335), ((9, 115), 0, 85, 258), ((9, 118), 0, 139, 1339), ((9, 119), 1, 197, 672), ((9, 122), 0, 140, 1343), ((9, 123), 1, 198, 682), ((9, 125), 0, 156, 1347), ((9, 126), 0, 88, 262), ((9, 129), 0, 157, 1395), ((9, 130), 1, 199, 1058), ((9, 132), 0, 158, 1399), ((9, 133), 0, 90, 353), ((9, 136), 0, 160, 1403), ((9, 137), 0, 91, 418), ((9, 140), 0, 161, 1419), ((9, 141), 1, 200, 1074), ((9, 143), 0, 162, 1423), ((9, 144), 1, 201, 1081), ((9, 146), 0, 163, 1427), ((9, 147), 1, 202, 1091), ((9, 149), 0, 165, 1431), ((9, 150), 1, 203, 1098), ((9, 152), 0, 168, 1439), ((9, 153), 1, 204, 1115), ((9, 155), 0, 169, 1455), ((9, 156), 1, 205, 1122), ((9, 158), 0, 170, 1459), ((9, 159), 1, 206, 1133), ((9, 161), 0, 171, 1463), ((9, 162), 1, 207, 1141), ((9, 164), 0, 172, 1467), ((9, 165), 1, 208, 1152), ((9, 167), 0, 173, 1471), ((9, 168), 1, 209, 1160), ((9, 170), 0, 174, 1475), ((9, 171), 0, 102, 422), ((9, 175), 0, 175, 1479), ((9, 176), 0, 103, 438), ((9, 179), 0, 176, 1483), ((9, 180), 1, 210, 1171), ((9, 182), 0, 178, 1487), ((9, 183), 1, 211, 1183), ((9, 185), 0, 179, 1495), ((9, 186), 1, 212, 1194), ((9, 188), 0, 180, 1499), ((9, 189), 1, 213, 1202), ((9, 191), 0, 181, 1503), ((9, 192), 0, 108, 450), ((9, 195), 0, 182, 1507), ((9, 196), 0, 109, 458), ((9, 199), 0, 183, 1511), ((9, 200), 1, 214, 1211), ((9, 202), 0, 184, 1515), ((9, 203), 0, 111, 466), ((9, 206), 0, 185, 1519), ((9, 207), 0, 112, 474), ((9, 210), 0, 186, 1523), ((9, 211), 0, 113, 482), ((9, 214), 0, 189, 1527), ((9, 215), 0, 114, 490), ((9, 218), 0, 190, 1535), ((9, 219), 0, 115, 499), ((9, 222), 0, 191, 1543), ((9, 223), 0, 116, 507), ((9, 227), 0, 192, 1547)]
def clT : List ((Nat × Nat) × Nat × Nat) := [((2, 15), 0, 135), ((2, 37), 1, 343), ((3, 10), 3, 732), ((3, 30), 4, 729), ((5, 9), 0, 127), ((5, 21), 2, 129), ((5, 81), 1, 392), ((6, 18), 4, 694), ((6, 35), 0, 698), ((6, 55), 1, 1052), ((7, 7), 4, 81), ((7, 18), 0, 95), ((7, 29), 5, 121), ((7, 44), 100, 524), ((7, 51), 101, 588), ((7, 62), 6, 494), ((7, 71), 102, 635), ((7, 104), 3, 279), ((9, 8), 7, 73), ((9, 87), 8, 1223)]
