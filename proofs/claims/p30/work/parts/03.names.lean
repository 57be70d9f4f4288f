def RX0 : String := "TailBlocks$Disk"
def TX0 : u_T := fun k => match k with
  | 0 => ("TailBlocks$Disk", "kinds", "[I", true)
  | 1 => ("TailBlocks$Disk", "owners", "[I", true)
  | 2 => ("TailBlocks$Disk", "ranks", "[I", true)
  | 3 => ("TailBlocks$Disk", "sizes", "[I", true)
  | 4 => ("TailBlocks$Disk", "tailBlocks", "[I", true)
  | 5 => ("TailBlocks$Disk", "tailStarts", "[I", true)
  | 6 => ("TailBlocks$Disk", "broken", "[I", true)
  | 7 => ("TailBlocks$Disk", "placings", "[I", true)
  | 8 => ("TailBlocks$Disk", "refused", "I", false)
  | 9 => ("TailBlocks$Disk", "packings", "I", false)
  | _ => ("TailBlocks$Disk", "setting", "I", false)
def tyX0 : Nat → FieldType := fun k => match k with
  | 0 => .array .int
  | 1 => .array .int
  | 2 => .array .int
  | 3 => .array .int
  | 4 => .array .int
  | 5 => .array .int
  | 6 => .array .int
  | 7 => .array .int
  | 8 => .int
  | 9 => .int
  | _ => .int
abbrev wsX00 : List Cond := u_ws RX0 TX0 11
theorem nmX0 : ∀ a, a < 11 → ∀ b, b < 11 → a ≠ b → (TX0 a).2.1 ≠ (TX0 b).2.1 := by decide +kernel
theorem tyX0_ok : ∀ k, k < 11 → parseFieldDescriptor (TX0 k).2.2.1 = some (tyX0 k) := by decide +kernel
abbrev cX0_init : ByteArray := prog_2_method_1_code
def yX0_init : MethodName := ⟨RX0, "<init>", "()V"⟩
abbrev cX0_copyFrom : ByteArray := prog_2_method_2_code
def yX0_copyFrom : MethodName := ⟨RX0, "copyFrom", "(LTailBlocks$Disk;)V"⟩
abbrev cX0_exists : ByteArray := prog_2_method_3_code
def yX0_exists : MethodName := ⟨RX0, "exists", "(I)Z"⟩
abbrev cX0_files : ByteArray := prog_2_method_4_code
def yX0_files : MethodName := ⟨RX0, "files", "()I"⟩
abbrev cX0_brokenFiles : ByteArray := prog_2_method_5_code
def yX0_brokenFiles : MethodName := ⟨RX0, "brokenFiles", "()I"⟩
abbrev cX0_isBroken : ByteArray := prog_2_method_6_code
def yX0_isBroken : MethodName := ⟨RX0, "isBroken", "(I)Z"⟩
abbrev cX0_sizeOf : ByteArray := prog_2_method_7_code
def yX0_sizeOf : MethodName := ⟨RX0, "sizeOf", "(I)I"⟩
abbrev cX0_tailCells : ByteArray := prog_2_method_8_code
def yX0_tailCells : MethodName := ⟨RX0, "tailCells", "(I)I"⟩
abbrev cX0_kindOf : ByteArray := prog_2_method_9_code
def yX0_kindOf : MethodName := ⟨RX0, "kindOf", "(I)I"⟩
abbrev cX0_blocksOf : ByteArray := prog_2_method_10_code
def yX0_blocksOf : MethodName := ⟨RX0, "blocksOf", "(I)I"⟩
abbrev cX0_sharedTailCells : ByteArray := prog_2_method_11_code
def yX0_sharedTailCells : MethodName := ⟨RX0, "sharedTailCells", "()I"⟩
abbrev cX0_fileProperty : ByteArray := prog_2_method_12_code
def yX0_fileProperty : MethodName := ⟨RX0, "fileProperty", "(II)I"⟩
abbrev cX0_blockProperty : ByteArray := prog_2_method_13_code
def yX0_blockProperty : MethodName := ⟨RX0, "blockProperty", "(II)I"⟩
abbrev cX0_tailsIn : ByteArray := prog_2_method_14_code
def yX0_tailsIn : MethodName := ⟨RX0, "tailsIn", "(I)I"⟩
abbrev cX0_tailCellsIn : ByteArray := prog_2_method_15_code
def yX0_tailCellsIn : MethodName := ⟨RX0, "tailCellsIn", "(I)I"⟩
abbrev cX0_whereIs : ByteArray := prog_2_method_16_code
def yX0_whereIs : MethodName := ⟨RX0, "whereIs", "(II)I"⟩
abbrev cX0_hasSomething : ByteArray := prog_2_method_17_code
def yX0_hasSomething : MethodName := ⟨RX0, "hasSomething", "(II)Z"⟩
abbrev cX0_soundFilesIn : ByteArray := prog_2_method_19_code
def yX0_soundFilesIn : MethodName := ⟨RX0, "soundFilesIn", "(I)I"⟩
abbrev cX0_takenCells : ByteArray := prog_2_method_20_code
def yX0_takenCells : MethodName := ⟨RX0, "takenCells", "(II)I"⟩
abbrev cX0_isTaken : ByteArray := prog_2_method_21_code
def yX0_isTaken : MethodName := ⟨RX0, "isTaken", "(II)Z"⟩
abbrev cX0_gapFrom : ByteArray := prog_2_method_22_code
def yX0_gapFrom : MethodName := ⟨RX0, "gapFrom", "(II)I"⟩
abbrev cX0_longestGap : ByteArray := prog_2_method_23_code
def yX0_longestGap : MethodName := ⟨RX0, "longestGap", "(I)I"⟩
abbrev cX0_lowestFree : ByteArray := prog_2_method_24_code
def yX0_lowestFree : MethodName := ⟨RX0, "lowestFree", "()I"⟩
abbrev cX0_placeFor : ByteArray := prog_2_method_25_code
def yX0_placeFor : MethodName := ⟨RX0, "placeFor", "(I)I"⟩
abbrev cX0_isEnough : ByteArray := prog_2_method_26_code
def yX0_isEnough : MethodName := ⟨RX0, "isEnough", "(III)Z"⟩
abbrev cX0_hasRoomFor : ByteArray := prog_2_method_27_code
def yX0_hasRoomFor : MethodName := ⟨RX0, "hasRoomFor", "(I)Z"⟩
abbrev cX0_lowestNumber : ByteArray := prog_2_method_28_code
def yX0_lowestNumber : MethodName := ⟨RX0, "lowestNumber", "()I"⟩
abbrev cX0_growthOf : ByteArray := prog_2_method_29_code
def yX0_growthOf : MethodName := ⟨RX0, "growthOf", "(II)I"⟩
abbrev cX0_cellsBehindTail : ByteArray := prog_2_method_30_code
def yX0_cellsBehindTail : MethodName := ⟨RX0, "cellsBehindTail", "(I)I"⟩
abbrev cX0_addFile : ByteArray := prog_2_method_31_code
def yX0_addFile : MethodName := ⟨RX0, "addFile", "(I)I"⟩
abbrev cX0_extend : ByteArray := prog_2_method_32_code
def yX0_extend : MethodName := ⟨RX0, "extend", "(II)I"⟩
abbrev cX0_shorten : ByteArray := prog_2_method_33_code
def yX0_shorten : MethodName := ⟨RX0, "shorten", "(II)I"⟩
abbrev cX0_removeFile : ByteArray := prog_2_method_34_code
def yX0_removeFile : MethodName := ⟨RX0, "removeFile", "(I)I"⟩
abbrev cX0_rebuild : ByteArray := prog_2_method_35_code
def yX0_rebuild : MethodName := ⟨RX0, "rebuild", "(II)V"⟩
abbrev cX0_takeWhole : ByteArray := prog_2_method_36_code
def yX0_takeWhole : MethodName := ⟨RX0, "takeWhole", "(II)V"⟩
abbrev cX0_dropWholes : ByteArray := prog_2_method_37_code
def yX0_dropWholes : MethodName := ⟨RX0, "dropWholes", "(II)I"⟩
abbrev cX0_putTail : ByteArray := prog_2_method_38_code
def yX0_putTail : MethodName := ⟨RX0, "putTail", "(III)V"⟩
abbrev cX0_dropTail : ByteArray := prog_2_method_39_code
def yX0_dropTail : MethodName := ⟨RX0, "dropTail", "(I)I"⟩
abbrev cX0_freeIfEmpty : ByteArray := prog_2_method_40_code
def yX0_freeIfEmpty : MethodName := ⟨RX0, "freeIfEmpty", "(I)I"⟩
abbrev cX0_turnBad : ByteArray := prog_2_method_42_code
def yX0_turnBad : MethodName := ⟨RX0, "turnBad", "(I)I"⟩
abbrev cX0_takesPacking : ByteArray := prog_2_method_43_code
def yX0_takesPacking : MethodName := ⟨RX0, "takesPacking", "(I)Z"⟩
def RX1 : String := "TailBlocks$Fewest"
def TX1 : u_T := fun k => match k with
  | 0 => ("TailBlocks$Fewest", "tails", "LTailBlocks$Tails;", true)
  | 1 => ("TailBlocks$Fewest", "loads", "[I", true)
  | 2 => ("TailBlocks$Fewest", "setBlocks", "[I", true)
  | _ => ("TailBlocks$Fewest", "setLoads", "[I", true)
def tyX1 : Nat → FieldType := fun k => match k with
  | 0 => .object "TailBlocks$Tails"
  | 1 => .array .int
  | 2 => .array .int
  | _ => .array .int
abbrev wsX10 : List Cond := u_ws RX1 TX1 4
theorem nmX1 : ∀ a, a < 4 → ∀ b, b < 4 → a ≠ b → (TX1 a).2.1 ≠ (TX1 b).2.1 := by decide +kernel
theorem tyX1_ok : ∀ k, k < 4 → parseFieldDescriptor (TX1 k).2.2.1 = some (tyX1 k) := by decide +kernel
abbrev cX1_init : ByteArray := prog_3_method_1_code
def yX1_init : MethodName := ⟨RX1, "<init>", "()V"⟩
abbrev cX1_bySets : ByteArray := prog_3_method_2_code
def yX1_bySets : MethodName := ⟨RX1, "bySets", "(LTailBlocks$Disk;)I"⟩
abbrev cX1_solveSet : ByteArray := prog_3_method_3_code
def yX1_solveSet : MethodName := ⟨RX1, "solveSet", "(I)V"⟩
abbrev cX1_byTrying : ByteArray := prog_3_method_4_code
def yX1_byTrying : MethodName := ⟨RX1, "byTrying", "(LTailBlocks$Disk;)I"⟩
abbrev cX1_tryTail : ByteArray := prog_3_method_5_code
def yX1_tryTail : MethodName := ⟨RX1, "tryTail", "(LTailBlocks$Tails;[IIIII)I"⟩
def RX2 : String := "TailBlocks$History"
def TX2 : u_T := fun k => match k with
  | 0 => ("TailBlocks$History", "states", "[LTailBlocks$Disk;", true)
  | _ => ("TailBlocks$History", "held", "I", false)
def tyX2 : Nat → FieldType := fun k => match k with
  | 0 => .array (.object "TailBlocks$Disk")
  | _ => .int
abbrev wsX20 : List Cond := u_ws RX2 TX2 2
theorem nmX2 : ∀ a, a < 2 → ∀ b, b < 2 → a ≠ b → (TX2 a).2.1 ≠ (TX2 b).2.1 := by decide +kernel
theorem tyX2_ok : ∀ k, k < 2 → parseFieldDescriptor (TX2 k).2.2.1 = some (tyX2 k) := by decide +kernel
abbrev cX2_init : ByteArray := prog_4_method_1_code
def yX2_init : MethodName := ⟨RX2, "<init>", "()V"⟩
abbrev cX2_held : ByteArray := prog_4_method_2_code
def yX2_held : MethodName := ⟨RX2, "held", "()I"⟩
abbrev cX2_store : ByteArray := prog_4_method_3_code
def yX2_store : MethodName := ⟨RX2, "store", "(LTailBlocks$Disk;)V"⟩
abbrev cX2_dropOldest : ByteArray := prog_4_method_4_code
def yX2_dropOldest : MethodName := ⟨RX2, "dropOldest", "()V"⟩
def RX3 : String := "TailBlocks$Orders"
def TX3 : u_T := fun k => match k with
  | 0 => ("TailBlocks$Orders", "due", "I", false)
  | 1 => ("TailBlocks$Orders", "sign", "I", false)
  | 2 => ("TailBlocks$Orders", "file", "I", false)
  | _ => ("TailBlocks$Orders", "number", "I", false)
def tyX3 : Nat → FieldType := fun k => match k with
  | 0 => .int
  | 1 => .int
  | 2 => .int
  | _ => .int
abbrev wsX30 : List Cond := u_ws RX3 TX3 4
theorem nmX3 : ∀ a, a < 4 → ∀ b, b < 4 → a ≠ b → (TX3 a).2.1 ≠ (TX3 b).2.1 := by decide +kernel
theorem tyX3_ok : ∀ k, k < 4 → parseFieldDescriptor (TX3 k).2.2.1 = some (tyX3 k) := by decide +kernel
abbrev cX3_init : ByteArray := prog_5_method_1_code
def yX3_init : MethodName := ⟨RX3, "<init>", "()V"⟩
def RX4 : String := "TailBlocks$Packer"
def TX4 : u_T := fun k => match k with
  | 0 => ("TailBlocks$Packer", "tails", "LTailBlocks$Tails;", true)
  | 1 => ("TailBlocks$Packer", "newBlocks", "[I", true)
  | 2 => ("TailBlocks$Packer", "newStarts", "[I", true)
  | _ => ("TailBlocks$Packer", "filled", "[I", true)
def tyX4 : Nat → FieldType := fun k => match k with
  | 0 => .object "TailBlocks$Tails"
  | 1 => .array .int
  | 2 => .array .int
  | _ => .array .int
abbrev wsX40 : List Cond := u_ws RX4 TX4 4
theorem nmX4 : ∀ a, a < 4 → ∀ b, b < 4 → a ≠ b → (TX4 a).2.1 ≠ (TX4 b).2.1 := by decide +kernel
theorem tyX4_ok : ∀ k, k < 4 → parseFieldDescriptor (TX4 k).2.2.1 = some (tyX4 k) := by decide +kernel
abbrev cX4_init : ByteArray := prog_6_method_1_code
def yX4_init : MethodName := ⟨RX4, "<init>", "()V"⟩
abbrev cX4_plan : ByteArray := prog_6_method_2_code
def yX4_plan : MethodName := ⟨RX4, "plan", "(LTailBlocks$Disk;)I"⟩
abbrev cX4_firstWithRoom : ByteArray := prog_6_method_3_code
def yX4_firstWithRoom : MethodName := ⟨RX4, "firstWithRoom", "(I)I"⟩
abbrev cX4_emptyBlocks : ByteArray := prog_6_method_4_code
def yX4_emptyBlocks : MethodName := ⟨RX4, "emptyBlocks", "()I"⟩
abbrev cX4_carryOut : ByteArray := prog_6_method_5_code
def yX4_carryOut : MethodName := ⟨RX4, "carryOut", "(LTailBlocks$Disk;)V"⟩
def RX5 : String := "TailBlocks$Tails"
def TX5 : u_T := fun k => match k with
  | 0 => ("TailBlocks$Tails", "files", "[I", true)
  | 1 => ("TailBlocks$Tails", "lengths", "[I", true)
  | _ => ("TailBlocks$Tails", "number", "I", false)
def tyX5 : Nat → FieldType := fun k => match k with
  | 0 => .array .int
  | 1 => .array .int
  | _ => .int
abbrev wsX50 : List Cond := u_ws RX5 TX5 3
theorem nmX5 : ∀ a, a < 3 → ∀ b, b < 3 → a ≠ b → (TX5 a).2.1 ≠ (TX5 b).2.1 := by decide +kernel
theorem tyX5_ok : ∀ k, k < 3 → parseFieldDescriptor (TX5 k).2.2.1 = some (tyX5 k) := by decide +kernel
abbrev cX5_init : ByteArray := prog_7_method_1_code
def yX5_init : MethodName := ⟨RX5, "<init>", "()V"⟩
abbrev cX5_collect : ByteArray := prog_7_method_2_code
def yX5_collect : MethodName := ⟨RX5, "collect", "(LTailBlocks$Disk;)V"⟩
abbrev cX5_insert : ByteArray := prog_7_method_3_code
def yX5_insert : MethodName := ⟨RX5, "insert", "(II)V"⟩
abbrev cX5_cells : ByteArray := prog_7_method_4_code
def yX5_cells : MethodName := ⟨RX5, "cells", "()I"⟩
def RX6 : String := "TailBlocks$Text"
def TX6 : u_T := fun k => match k with
  | 0 => ("TailBlocks$Text", "codes", "[I", true)
  | _ => ("TailBlocks$Text", "length", "I", false)
def tyX6 : Nat → FieldType := fun k => match k with
  | 0 => .array .int
  | _ => .int
abbrev wsX60 : List Cond := u_ws RX6 TX6 2
theorem nmX6 : ∀ a, a < 2 → ∀ b, b < 2 → a ≠ b → (TX6 a).2.1 ≠ (TX6 b).2.1 := by decide +kernel
theorem tyX6_ok : ∀ k, k < 2 → parseFieldDescriptor (TX6 k).2.2.1 = some (tyX6 k) := by decide +kernel
abbrev cX6_init : ByteArray := prog_8_method_1_code
def yX6_init : MethodName := ⟨RX6, "<init>", "()V"⟩
def RX7 : String := "TailBlocks"
def TX7 : u_T := fun k => match k with
  | 0 => ("TailBlocks", "disk", "LTailBlocks$Disk;", true)
  | 1 => ("TailBlocks", "history", "LTailBlocks$History;", true)
  | 2 => ("TailBlocks", "slots", "[LTailBlocks$Disk;", true)
  | 3 => ("TailBlocks", "text", "LTailBlocks$Text;", true)
  | 4 => ("TailBlocks", "orders", "LTailBlocks$Orders;", true)
  | 5 => ("TailBlocks", "packer", "LTailBlocks$Packer;", true)
  | _ => ("TailBlocks", "bins", "LTailBlocks$Fewest;", true)
def tyX7 : Nat → FieldType := fun k => match k with
  | 0 => .object "TailBlocks$Disk"
  | 1 => .object "TailBlocks$History"
  | 2 => .array (.object "TailBlocks$Disk")
  | 3 => .object "TailBlocks$Text"
  | 4 => .object "TailBlocks$Orders"
  | 5 => .object "TailBlocks$Packer"
  | _ => .object "TailBlocks$Fewest"
abbrev wsX70 : List Cond := u_ws RX7 TX7 7
theorem nmX7 : ∀ a, a < 7 → ∀ b, b < 7 → a ≠ b → (TX7 a).2.1 ≠ (TX7 b).2.1 := by decide +kernel
theorem tyX7_ok : ∀ k, k < 7 → parseFieldDescriptor (TX7 k).2.2.1 = some (tyX7 k) := by decide +kernel
abbrev cX7_init : ByteArray := prog_1_method_1_code
def yX7_init : MethodName := ⟨RX7, "<init>", "()V"⟩
abbrev cX7_create : ByteArray := prog_1_method_2_code
def yX7_create : MethodName := ⟨RX7, "create", "(I)I"⟩
abbrev cX7_grow : ByteArray := prog_1_method_3_code
def yX7_grow : MethodName := ⟨RX7, "grow", "(II)I"⟩
abbrev cX7_cut : ByteArray := prog_1_method_4_code
def yX7_cut : MethodName := ⟨RX7, "cut", "(II)I"⟩
abbrev cX7_delete : ByteArray := prog_1_method_5_code
def yX7_delete : MethodName := ⟨RX7, "delete", "(I)I"⟩
abbrev cX7_spoil : ByteArray := prog_1_method_6_code
def yX7_spoil : MethodName := ⟨RX7, "spoil", "(I)I"⟩
abbrev cX7_pack : ByteArray := prog_1_method_8_code
def yX7_pack : MethodName := ⟨RX7, "pack", "()I"⟩
abbrev cX7_set : ByteArray := prog_1_method_9_code
def yX7_set : MethodName := ⟨RX7, "set", "(I)I"⟩
abbrev cX7_fileOf : ByteArray := prog_1_method_17_code
def yX7_fileOf : MethodName := ⟨RX7, "fileOf", "(II)I"⟩
abbrev cX7_place : ByteArray := prog_1_method_18_code
def yX7_place : MethodName := ⟨RX7, "place", "(II)I"⟩
abbrev cX7_blockOf : ByteArray := prog_1_method_19_code
def yX7_blockOf : MethodName := ⟨RX7, "blockOf", "(II)I"⟩
abbrev cX7_count : ByteArray := prog_1_method_20_code
def yX7_count : MethodName := ⟨RX7, "count", "(I)I"⟩
abbrev cX7_ifGrown : ByteArray := prog_1_method_22_code
def yX7_ifGrown : MethodName := ⟨RX7, "ifGrown", "(II)I"⟩
abbrev cX7_greatest : ByteArray := prog_1_method_23_code
def yX7_greatest : MethodName := ⟨RX7, "greatest", "()I"⟩
abbrev cX7_fewest : ByteArray := prog_1_method_24_code
def yX7_fewest : MethodName := ⟨RX7, "fewest", "(I)I"⟩
abbrev cX7_ifPacked : ByteArray := prog_1_method_25_code
def yX7_ifPacked : MethodName := ⟨RX7, "ifPacked", "()I"⟩
abbrev cX7_weakest : ByteArray := prog_1_method_26_code
def yX7_weakest : MethodName := ⟨RX7, "weakest", "()I"⟩
abbrev cX7_checkFile : ByteArray := prog_1_method_36_code
def yX7_checkFile : MethodName := ⟨RX7, "checkFile", "(I)V"⟩
abbrev cX7_checkBlock : ByteArray := prog_1_method_37_code
def yX7_checkBlock : MethodName := ⟨RX7, "checkBlock", "(I)V"⟩
abbrev cX7_checkArgument : ByteArray := prog_1_method_38_code
def yX7_checkArgument : MethodName := ⟨RX7, "checkArgument", "(III)V"⟩
abbrev cX7_isBlock : ByteArray := prog_1_method_39_code
def yX7_isBlock : MethodName := ⟨RX7, "isBlock", "(I)Z"⟩
def RX8 : String := "TailBlocksModel"
def TX8 : u_T := fun k => match k with
  | _ => ("", "", "", false)
def tyX8 : Nat → FieldType := fun k => match k with
  | _ => .int
abbrev wsX80 : List Cond := u_ws RX8 TX8 0
theorem nmX8 : ∀ a, a < 0 → ∀ b, b < 0 → a ≠ b → (TX8 a).2.1 ≠ (TX8 b).2.1 := by decide +kernel
theorem tyX8_ok : ∀ k, k < 0 → parseFieldDescriptor (TX8 k).2.2.1 = some (tyX8 k) := by decide +kernel
def RJ6 : String := "java/lang/Integer"
def TJ6 : u_T := fun k => match k with
  | _ => ("", "", "", false)
def tyJ6 : Nat → FieldType := fun k => match k with
  | _ => .int
abbrev wsJ60 : List Cond := u_ws RJ6 TJ6 0
theorem nmJ6 : ∀ a, a < 0 → ∀ b, b < 0 → a ≠ b → (TJ6 a).2.1 ≠ (TJ6 b).2.1 := by decide +kernel
theorem tyJ6_ok : ∀ k, k < 0 → parseFieldDescriptor (TJ6 k).2.2.1 = some (tyJ6 k) := by decide +kernel
abbrev cJ6_bitCount_0f7a4 : ByteArray := prog_15_method_49_code
def yJ6_bitCount_0f7a4 : MethodName := ⟨RJ6, "bitCount", "(I)I"⟩
def RJ9 : String := "java/lang/Math"
def TJ9 : u_T := fun k => match k with
  | _ => ("", "", "", false)
def tyJ9 : Nat → FieldType := fun k => match k with
  | _ => .int
abbrev wsJ90 : List Cond := u_ws RJ9 TJ9 0
theorem nmJ9 : ∀ a, a < 0 → ∀ b, b < 0 → a ≠ b → (TJ9 a).2.1 ≠ (TJ9 b).2.1 := by decide +kernel
theorem tyJ9_ok : ∀ k, k < 0 → parseFieldDescriptor (TJ9 k).2.2.1 = some (tyJ9 k) := by decide +kernel
abbrev cJ9_max_7cf53 : ByteArray := prog_16_method_65_code
def yJ9_max_7cf53 : MethodName := ⟨RJ9, "max", "(II)I"⟩
def RJ0 : String := "java/lang/String"
def TJ0 : u_T := fun k => match k with
  | _ => ("", "", "", false)
def tyJ0 : Nat → FieldType := fun k => match k with
  | _ => .int
abbrev wsJ00 : List Cond := u_ws RJ0 TJ0 0
theorem nmJ0 : ∀ a, a < 0 → ∀ b, b < 0 → a ≠ b → (TJ0 a).2.1 ≠ (TJ0 b).2.1 := by decide +kernel
theorem tyJ0_ok : ∀ k, k < 0 → parseFieldDescriptor (TJ0 k).2.2.1 = some (tyJ0 k) := by decide +kernel
def RL : String := "TailBlocksLaw"
abbrev cL_cell : ByteArray := method_2_code
def yL_cell : MethodName := ⟨RL, "cell", "([II)I"⟩
abbrev cL_low : ByteArray := method_3_code
def yL_low : MethodName := ⟨RL, "low", "(II)I"⟩
abbrev cL_has : ByteArray := method_4_code
def yL_has : MethodName := ⟨RL, "has", "(II)Z"⟩
abbrev cL_places : ByteArray := method_5_code
def yL_places : MethodName := ⟨RL, "places", "(LTailBlocks;I)Z"⟩
abbrev cL_file : ByteArray := method_6_code
def yL_file : MethodName := ⟨RL, "file", "(LTailBlocks;IZ)Z"⟩
abbrev cL_blocks : ByteArray := method_7_code
def yL_blocks : MethodName := ⟨RL, "blocks", "(LTailBlocks;[I)Z"⟩
abbrev cL_hasGap : ByteArray := method_8_code
def yL_hasGap : MethodName := ⟨RL, "hasGap", "(LTailBlocks;I)Z"⟩
abbrev cL_comes : ByteArray := method_9_code
def yL_comes : MethodName := ⟨RL, "comes", "(LTailBlocks;II)I"⟩
abbrev cL_grows : ByteArray := method_10_code
def yL_grows : MethodName := ⟨RL, "grows", "(LTailBlocks;II)Z"⟩
abbrev cL_cuts : ByteArray := method_11_code
def yL_cuts : MethodName := ⟨RL, "cuts", "(LTailBlocks;II)Z"⟩
abbrev cL_packs : ByteArray := method_12_code
def yL_packs : MethodName := ⟨RL, "packs", "(LTailBlocks;)Z"⟩
abbrev cL_spoils : ByteArray := method_13_code
def yL_spoils : MethodName := ⟨RL, "spoils", "(LTailBlocks;II)Z"⟩
abbrev cL_law : ByteArray := code
def yL_law : MethodName := ⟨RL, "law", "([I)Z"⟩
abbrev cL_ones : ByteArray := method_15_code
def yL_ones : MethodName := ⟨RL, "ones", "(I)I"⟩
abbrev vwCl : List vw_C := [(RX0, TX0, 11), (RX1, TX1, 4), (RX2, TX2, 2), (RX3, TX3, 4), (RX4, TX4, 4), (RX5, TX5, 3), (RX6, TX6, 2), (RX7, TX7, 7)]
