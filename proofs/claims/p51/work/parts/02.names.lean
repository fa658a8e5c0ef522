def RX0 : String := "CourierBags$1"
def TX0 : u_T := fun k => match k with
  | _ => ("", "", "", false)
def tyX0 : Nat → FieldType := fun k => match k with
  | _ => .int
abbrev wsX00 : List Cond := u_ws RX0 TX0 0
theorem nmX0 : ∀ a, a < 0 → ∀ b, b < 0 → a ≠ b → (TX0 a).2.1 ≠ (TX0 b).2.1 := by decide +kernel
theorem tyX0_ok : ∀ k, k < 0 → parseFieldDescriptor (TX0 k).2.2.1 = some (tyX0 k) := by decide +kernel
def RX1 : String := "CourierBags$Cargo"
def TX1 : u_T := fun k => match k with
  | 0 => ("CourierBags$Cargo", "items", "[LCourierBags$Item;", true)
  | 1 => ("CourierBags$Cargo", "nobody", "LCourierBags$Item;", true)
  | 2 => ("CourierBags$Cargo", "limits", "[I", true)
  | 3 => ("CourierBags$Cargo", "nextId", "I", false)
  | 4 => ("CourierBags$Cargo", "openBags", "I", false)
  | 5 => ("CourierBags$Cargo", "deliveredItems", "I", false)
  | _ => ("CourierBags$Cargo", "deliveredLoad", "I", false)
def tyX1 : Nat → FieldType := fun k => match k with
  | 0 => .array (.object "CourierBags$Item")
  | 1 => .object "CourierBags$Item"
  | 2 => .array .int
  | 3 => .int
  | 4 => .int
  | 5 => .int
  | _ => .int
abbrev wsX10 : List Cond := u_ws RX1 TX1 7
theorem nmX1 : ∀ a, a < 7 → ∀ b, b < 7 → a ≠ b → (TX1 a).2.1 ≠ (TX1 b).2.1 := by decide +kernel
theorem tyX1_ok : ∀ k, k < 7 → parseFieldDescriptor (TX1 k).2.2.1 = some (tyX1 k) := by decide +kernel
abbrev cX1_init : ByteArray := prog_3_method_1_code
def yX1_init : MethodName := ⟨RX1, "<init>", "()V"⟩
abbrev cX1_copyFrom : ByteArray := prog_3_method_2_code
def yX1_copyFrom : MethodName := ⟨RX1, "copyFrom", "(LCourierBags$Cargo;)V"⟩
abbrev cX1_openFault : ByteArray := prog_3_method_3_code
def yX1_openFault : MethodName := ⟨RX1, "openFault", "(I)LCourierBags$Fault;"⟩
abbrev cX1_open : ByteArray := prog_3_method_4_code
def yX1_open : MethodName := ⟨RX1, "open", "(I)I"⟩
abbrev cX1_takeInFault : ByteArray := prog_3_method_5_code
def yX1_takeInFault : MethodName := ⟨RX1, "takeInFault", "(III)LCourierBags$Fault;"⟩
abbrev cX1_takeIn : ByteArray := prog_3_method_6_code
def yX1_takeIn : MethodName := ⟨RX1, "takeIn", "(IIIZ)I"⟩
abbrev cX1_dropFault : ByteArray := prog_3_method_7_code
def yX1_dropFault : MethodName := ⟨RX1, "dropFault", "(I)LCourierBags$Fault;"⟩
abbrev cX1_drop : ByteArray := prog_3_method_8_code
def yX1_drop : MethodName := ⟨RX1, "drop", "(I)I"⟩
abbrev cX1_loadFault : ByteArray := prog_3_method_9_code
def yX1_loadFault : MethodName := ⟨RX1, "loadFault", "(II)LCourierBags$Fault;"⟩
abbrev cX1_load : ByteArray := prog_3_method_10_code
def yX1_load : MethodName := ⟨RX1, "load", "(II)I"⟩
abbrev cX1_unloadFault : ByteArray := prog_3_method_11_code
def yX1_unloadFault : MethodName := ⟨RX1, "unloadFault", "(I)LCourierBags$Fault;"⟩
abbrev cX1_unload : ByteArray := prog_3_method_12_code
def yX1_unload : MethodName := ⟨RX1, "unload", "(I)I"⟩
abbrev cX1_fillFault : ByteArray := prog_3_method_13_code
def yX1_fillFault : MethodName := ⟨RX1, "fillFault", "(I)LCourierBags$Fault;"⟩
abbrev cX1_fill : ByteArray := prog_3_method_14_code
def yX1_fill : MethodName := ⟨RX1, "fill", "(I)I"⟩
abbrev cX1_handOverFault : ByteArray := prog_3_method_15_code
def yX1_handOverFault : MethodName := ⟨RX1, "handOverFault", "()LCourierBags$Fault;"⟩
abbrev cX1_handOver : ByteArray := prog_3_method_16_code
def yX1_handOver : MethodName := ⟨RX1, "handOver", "()I"⟩
abbrev cX1_putInto : ByteArray := prog_3_method_17_code
def yX1_putInto : MethodName := ⟨RX1, "putInto", "(LCourierBags$Item;I)V"⟩
abbrev cX1_takeOut : ByteArray := prog_3_method_18_code
def yX1_takeOut : MethodName := ⟨RX1, "takeOut", "(LCourierBags$Item;)V"⟩
abbrev cX1_refusal : ByteArray := prog_3_method_19_code
def yX1_refusal : MethodName := ⟨RX1, "refusal", "(LCourierBags$Item;I)I"⟩
abbrev cX1_targetLayer : ByteArray := prog_3_method_20_code
def yX1_targetLayer : MethodName := ⟨RX1, "targetLayer", "(LCourierBags$Item;I)I"⟩
abbrev cX1_hasEarlierStopBelow : ByteArray := prog_3_method_21_code
def yX1_hasEarlierStopBelow : MethodName := ⟨RX1, "hasEarlierStopBelow", "(LCourierBags$Item;II)Z"⟩
abbrev cX1_crushesBelow : ByteArray := prog_3_method_22_code
def yX1_crushesBelow : MethodName := ⟨RX1, "crushesBelow", "(LCourierBags$Item;II)Z"⟩
abbrev cX1_find : ByteArray := prog_3_method_23_code
def yX1_find : MethodName := ⟨RX1, "find", "(I)LCourierBags$Item;"⟩
abbrev cX1_findRank : ByteArray := prog_3_method_24_code
def yX1_findRank : MethodName := ⟨RX1, "findRank", "(I)LCourierBags$Item;"⟩
abbrev cX1_findPlace : ByteArray := prog_3_method_25_code
def yX1_findPlace : MethodName := ⟨RX1, "findPlace", "(III)LCourierBags$Item;"⟩
abbrev cX1_findFree : ByteArray := prog_3_method_26_code
def yX1_findFree : MethodName := ⟨RX1, "findFree", "()LCourierBags$Item;"⟩
abbrev cX1_rankOf : ByteArray := prog_3_method_27_code
def yX1_rankOf : MethodName := ⟨RX1, "rankOf", "(LCourierBags$Item;)I"⟩
abbrev cX1_countItems : ByteArray := prog_3_method_28_code
def yX1_countItems : MethodName := ⟨RX1, "countItems", "()I"⟩
abbrev cX1_countDepot : ByteArray := prog_3_method_29_code
def yX1_countDepot : MethodName := ⟨RX1, "countDepot", "()I"⟩
abbrev cX1_hasPackedItem : ByteArray := prog_3_method_30_code
def yX1_hasPackedItem : MethodName := ⟨RX1, "hasPackedItem", "()Z"⟩
abbrev cX1_lowestPackedStop : ByteArray := prog_3_method_31_code
def yX1_lowestPackedStop : MethodName := ⟨RX1, "lowestPackedStop", "()I"⟩
abbrev cX1_packedWeight : ByteArray := prog_3_method_32_code
def yX1_packedWeight : MethodName := ⟨RX1, "packedWeight", "()I"⟩
abbrev cX1_hasBag : ByteArray := prog_3_method_33_code
def yX1_hasBag : MethodName := ⟨RX1, "hasBag", "(I)Z"⟩
abbrev cX1_limit : ByteArray := prog_3_method_34_code
def yX1_limit : MethodName := ⟨RX1, "limit", "(I)I"⟩
abbrev cX1_sumOfLimits : ByteArray := prog_3_method_35_code
def yX1_sumOfLimits : MethodName := ⟨RX1, "sumOfLimits", "()I"⟩
abbrev cX1_weightByItems : ByteArray := prog_3_method_36_code
def yX1_weightByItems : MethodName := ⟨RX1, "weightByItems", "(I)I"⟩
abbrev cX1_weightByLayers : ByteArray := prog_3_method_37_code
def yX1_weightByLayers : MethodName := ⟨RX1, "weightByLayers", "(I)I"⟩
abbrev cX1_roomIn : ByteArray := prog_3_method_38_code
def yX1_roomIn : MethodName := ⟨RX1, "roomIn", "(I)I"⟩
abbrev cX1_findEmptiest : ByteArray := prog_3_method_39_code
def yX1_findEmptiest : MethodName := ⟨RX1, "findEmptiest", "()I"⟩
abbrev cX1_countLayers : ByteArray := prog_3_method_40_code
def yX1_countLayers : MethodName := ⟨RX1, "countLayers", "(I)I"⟩
abbrev cX1_countInLayer : ByteArray := prog_3_method_41_code
def yX1_countInLayer : MethodName := ⟨RX1, "countInLayer", "(II)I"⟩
abbrev cX1_sizeOfLayer : ByteArray := prog_3_method_42_code
def yX1_sizeOfLayer : MethodName := ⟨RX1, "sizeOfLayer", "(II)I"⟩
abbrev cX1_weightOfLayer : ByteArray := prog_3_method_43_code
def yX1_weightOfLayer : MethodName := ⟨RX1, "weightOfLayer", "(II)I"⟩
abbrev cX1_loadOn : ByteArray := prog_3_method_44_code
def yX1_loadOn : MethodName := ⟨RX1, "loadOn", "(II)I"⟩
abbrev cX1_describe : ByteArray := prog_3_method_45_code
def yX1_describe : MethodName := ⟨RX1, "describe", "(ILjava/lang/StringBuilder;)V"⟩
abbrev cX1_describeLayer : ByteArray := prog_3_method_46_code
def yX1_describeLayer : MethodName := ⟨RX1, "describeLayer", "(IILjava/lang/StringBuilder;)V"⟩
abbrev cX1_bestBySets : ByteArray := prog_3_method_47_code
def yX1_bestBySets : MethodName := ⟨RX1, "bestBySets", "(I)I"⟩
abbrev cX1_bestFrom : ByteArray := prog_3_method_48_code
def yX1_bestFrom : MethodName := ⟨RX1, "bestFrom", "([LCourierBags$Item;II)I"⟩
abbrev cX1_bestByTable : ByteArray := prog_3_method_49_code
def yX1_bestByTable : MethodName := ⟨RX1, "bestByTable", "(I[I)I"⟩
abbrev cX1_extendTable : ByteArray := prog_3_method_50_code
def yX1_extendTable : MethodName := ⟨RX1, "extendTable", "([ILCourierBags$Item;I)V"⟩
def RX2 : String := "CourierBags$Fault"
def TX2 : u_T := fun k => match k with
  | _ => ("", "", "", false)
def tyX2 : Nat → FieldType := fun k => match k with
  | _ => .int
abbrev wsX20 : List Cond := u_ws RX2 TX2 0
theorem nmX2 : ∀ a, a < 0 → ∀ b, b < 0 → a ≠ b → (TX2 a).2.1 ≠ (TX2 b).2.1 := by decide +kernel
theorem tyX2_ok : ∀ k, k < 0 → parseFieldDescriptor (TX2 k).2.2.1 = some (tyX2 k) := by decide +kernel
def RX3 : String := "CourierBags$History"
def TX3 : u_T := fun k => match k with
  | 0 => ("CourierBags$History", "states", "[LCourierBags$Cargo;", true)
  | _ => ("CourierBags$History", "count", "I", false)
def tyX3 : Nat → FieldType := fun k => match k with
  | 0 => .array (.object "CourierBags$Cargo")
  | _ => .int
abbrev wsX30 : List Cond := u_ws RX3 TX3 2
theorem nmX3 : ∀ a, a < 2 → ∀ b, b < 2 → a ≠ b → (TX3 a).2.1 ≠ (TX3 b).2.1 := by decide +kernel
theorem tyX3_ok : ∀ k, k < 2 → parseFieldDescriptor (TX3 k).2.2.1 = some (tyX3 k) := by decide +kernel
abbrev cX3_init : ByteArray := prog_5_method_1_code
def yX3_init : MethodName := ⟨RX3, "<init>", "()V"⟩
abbrev cX3_push : ByteArray := prog_5_method_2_code
def yX3_push : MethodName := ⟨RX3, "push", "(LCourierBags$Cargo;)V"⟩
abbrev cX3_forgetOldest : ByteArray := prog_5_method_3_code
def yX3_forgetOldest : MethodName := ⟨RX3, "forgetOldest", "()V"⟩
abbrev cX3_popInto : ByteArray := prog_5_method_4_code
def yX3_popInto : MethodName := ⟨RX3, "popInto", "(LCourierBags$Cargo;)V"⟩
abbrev cX3_clear : ByteArray := prog_5_method_5_code
def yX3_clear : MethodName := ⟨RX3, "clear", "()V"⟩
def RX4 : String := "CourierBags$Item"
def TX4 : u_T := fun k => match k with
  | 0 => ("CourierBags$Item", "id", "I", false)
  | 1 => ("CourierBags$Item", "size", "I", false)
  | 2 => ("CourierBags$Item", "weight", "I", false)
  | 3 => ("CourierBags$Item", "stop", "I", false)
  | 4 => ("CourierBags$Item", "fragile", "Z", false)
  | 5 => ("CourierBags$Item", "bag", "I", false)
  | 6 => ("CourierBags$Item", "layer", "I", false)
  | _ => ("CourierBags$Item", "position", "I", false)
def tyX4 : Nat → FieldType := fun k => match k with
  | 0 => .int
  | 1 => .int
  | 2 => .int
  | 3 => .int
  | 4 => .boolean
  | 5 => .int
  | 6 => .int
  | _ => .int
abbrev wsX40 : List Cond := u_ws RX4 TX4 8
theorem nmX4 : ∀ a, a < 8 → ∀ b, b < 8 → a ≠ b → (TX4 a).2.1 ≠ (TX4 b).2.1 := by decide +kernel
theorem tyX4_ok : ∀ k, k < 8 → parseFieldDescriptor (TX4 k).2.2.1 = some (tyX4 k) := by decide +kernel
abbrev cX4_init : ByteArray := prog_6_method_1_code
def yX4_init : MethodName := ⟨RX4, "<init>", "()V"⟩
abbrev cX4_isThere : ByteArray := prog_6_method_2_code
def yX4_isThere : MethodName := ⟨RX4, "isThere", "()Z"⟩
abbrev cX4_isInDepot : ByteArray := prog_6_method_3_code
def yX4_isInDepot : MethodName := ⟨RX4, "isInDepot", "()Z"⟩
abbrev cX4_isInBag : ByteArray := prog_6_method_4_code
def yX4_isInBag : MethodName := ⟨RX4, "isInBag", "()Z"⟩
abbrev cX4_ranksBefore : ByteArray := prog_6_method_5_code
def yX4_ranksBefore : MethodName := ⟨RX4, "ranksBefore", "(LCourierBags$Item;)Z"⟩
abbrev cX4_copyFrom : ByteArray := prog_6_method_6_code
def yX4_copyFrom : MethodName := ⟨RX4, "copyFrom", "(LCourierBags$Item;)V"⟩
def RX5 : String := "CourierBags$Kind"
def TX5 : u_T := fun k => match k with
  | _ => ("", "", "", false)
def tyX5 : Nat → FieldType := fun k => match k with
  | _ => .int
abbrev wsX50 : List Cond := u_ws RX5 TX5 0
theorem nmX5 : ∀ a, a < 0 → ∀ b, b < 0 → a ≠ b → (TX5 a).2.1 ≠ (TX5 b).2.1 := by decide +kernel
theorem tyX5_ok : ∀ k, k < 0 → parseFieldDescriptor (TX5 k).2.2.1 = some (tyX5 k) := by decide +kernel
def RX6 : String := "CourierBags$Script"
def TX6 : u_T := fun k => match k with
  | 0 => ("CourierBags$Script", "text", "[C", true)
  | 1 => ("CourierBags$Script", "length", "I", false)
  | 2 => ("CourierBags$Script", "position", "I", false)
  | 3 => ("CourierBags$Script", "kind", "LCourierBags$Kind;", false)
  | 4 => ("CourierBags$Script", "numbers", "[I", true)
  | 5 => ("CourierBags$Script", "numberCount", "I", false)
  | _ => ("CourierBags$Script", "isMarked", "Z", false)
def tyX6 : Nat → FieldType := fun k => match k with
  | 0 => .array .char
  | 1 => .int
  | 2 => .int
  | 3 => .object "CourierBags$Kind"
  | 4 => .array .int
  | 5 => .int
  | _ => .boolean
abbrev wsX60 : List Cond := u_ws RX6 TX6 7
theorem nmX6 : ∀ a, a < 7 → ∀ b, b < 7 → a ≠ b → (TX6 a).2.1 ≠ (TX6 b).2.1 := by decide +kernel
theorem tyX6_ok : ∀ k, k < 7 → parseFieldDescriptor (TX6 k).2.2.1 = some (tyX6 k) := by decide +kernel
abbrev cX6_init : ByteArray := prog_8_method_1_code
def yX6_init : MethodName := ⟨RX6, "<init>", "()V"⟩
abbrev cX6_isFull : ByteArray := prog_8_method_2_code
def yX6_isFull : MethodName := ⟨RX6, "isFull", "()Z"⟩
abbrev cX6_append : ByteArray := prog_8_method_3_code
def yX6_append : MethodName := ⟨RX6, "append", "(C)I"⟩
abbrev cX6_clear : ByteArray := prog_8_method_4_code
def yX6_clear : MethodName := ⟨RX6, "clear", "()V"⟩
abbrev cX6_rewind : ByteArray := prog_8_method_5_code
def yX6_rewind : MethodName := ⟨RX6, "rewind", "()V"⟩
abbrev cX6_countCommands : ByteArray := prog_8_method_6_code
def yX6_countCommands : MethodName := ⟨RX6, "countCommands", "()I"⟩
abbrev cX6_readCommand : ByteArray := prog_8_method_7_code
def yX6_readCommand : MethodName := ⟨RX6, "readCommand", "()Z"⟩
abbrev cX6_readPattern : ByteArray := prog_8_method_8_code
def yX6_readPattern : MethodName := ⟨RX6, "readPattern", "(Ljava/lang/String;)Z"⟩
abbrev cX6_readPart : ByteArray := prog_8_method_9_code
def yX6_readPart : MethodName := ⟨RX6, "readPart", "(C)Z"⟩
abbrev cX6_readNumber : ByteArray := prog_8_method_10_code
def yX6_readNumber : MethodName := ⟨RX6, "readNumber", "(I)Z"⟩
abbrev cX6_isAtDigit : ByteArray := prog_8_method_11_code
def yX6_isAtDigit : MethodName := ⟨RX6, "isAtDigit", "()Z"⟩
abbrev cX6_take : ByteArray := prog_8_method_12_code
def yX6_take : MethodName := ⟨RX6, "take", "(C)Z"⟩
abbrev cX6_number : ByteArray := prog_8_method_13_code
def yX6_number : MethodName := ⟨RX6, "number", "(I)I"⟩
def RX7 : String := "CourierBags"
def TX7 : u_T := fun k => match k with
  | 0 => ("CourierBags", "cargo", "LCourierBags$Cargo;", true)
  | 1 => ("CourierBags", "beforeProgram", "LCourierBags$Cargo;", true)
  | 2 => ("CourierBags", "snapshot", "LCourierBags$Cargo;", true)
  | 3 => ("CourierBags", "history", "LCourierBags$History;", true)
  | 4 => ("CourierBags", "script", "LCourierBags$Script;", true)
  | 5 => ("CourierBags", "label", "Ljava/lang/StringBuilder;", true)
  | 6 => ("CourierBags", "bestSizes", "[I", true)
  | 7 => ("CourierBags", "hasSnapshot", "Z", false)
  | 8 => ("CourierBags", "lastReason", "I", false)
  | 9 => ("CourierBags", "lastRefused", "I", false)
  | 10 => ("CourierBags", "lastErrorPosition", "I", false)
  | _ => ("CourierBags", "lastFailedCommand", "I", false)
def tyX7 : Nat → FieldType := fun k => match k with
  | 0 => .object "CourierBags$Cargo"
  | 1 => .object "CourierBags$Cargo"
  | 2 => .object "CourierBags$Cargo"
  | 3 => .object "CourierBags$History"
  | 4 => .object "CourierBags$Script"
  | 5 => .object "java/lang/StringBuilder"
  | 6 => .array .int
  | 7 => .boolean
  | 8 => .int
  | 9 => .int
  | 10 => .int
  | _ => .int
abbrev wsX70 : List Cond := u_ws RX7 TX7 12
theorem nmX7 : ∀ a, a < 12 → ∀ b, b < 12 → a ≠ b → (TX7 a).2.1 ≠ (TX7 b).2.1 := by decide +kernel
theorem tyX7_ok : ∀ k, k < 12 → parseFieldDescriptor (TX7 k).2.2.1 = some (tyX7 k) := by decide +kernel
abbrev cX7_init : ByteArray := prog_1_method_1_code
def yX7_init : MethodName := ⟨RX7, "<init>", "()V"⟩
abbrev cX7_addBag : ByteArray := prog_1_method_2_code
def yX7_addBag : MethodName := ⟨RX7, "addBag", "(I)I"⟩
abbrev cX7_addItem : ByteArray := prog_1_method_3_code
def yX7_addItem : MethodName := ⟨RX7, "addItem", "(IIIZ)I"⟩
abbrev cX7_removeItem : ByteArray := prog_1_method_4_code
def yX7_removeItem : MethodName := ⟨RX7, "removeItem", "(I)I"⟩
abbrev cX7_pack : ByteArray := prog_1_method_5_code
def yX7_pack : MethodName := ⟨RX7, "pack", "(II)I"⟩
abbrev cX7_canPack : ByteArray := prog_1_method_6_code
def yX7_canPack : MethodName := ⟨RX7, "canPack", "(II)Z"⟩
abbrev cX7_unpack : ByteArray := prog_1_method_7_code
def yX7_unpack : MethodName := ⟨RX7, "unpack", "(I)I"⟩
abbrev cX7_autoPack : ByteArray := prog_1_method_8_code
def yX7_autoPack : MethodName := ⟨RX7, "autoPack", "(I)I"⟩
abbrev cX7_deliver : ByteArray := prog_1_method_9_code
def yX7_deliver : MethodName := ⟨RX7, "deliver", "()I"⟩
abbrev cX7_nextStop : ByteArray := prog_1_method_10_code
def yX7_nextStop : MethodName := ⟨RX7, "nextStop", "()I"⟩
abbrev cX7_deliveredCount : ByteArray := prog_1_method_11_code
def yX7_deliveredCount : MethodName := ⟨RX7, "deliveredCount", "()I"⟩
abbrev cX7_deliveredWeight : ByteArray := prog_1_method_12_code
def yX7_deliveredWeight : MethodName := ⟨RX7, "deliveredWeight", "()I"⟩
abbrev cX7_itemCount : ByteArray := prog_1_method_13_code
def yX7_itemCount : MethodName := ⟨RX7, "itemCount", "()I"⟩
abbrev cX7_depotCount : ByteArray := prog_1_method_14_code
def yX7_depotCount : MethodName := ⟨RX7, "depotCount", "()I"⟩
abbrev cX7_exists : ByteArray := prog_1_method_15_code
def yX7_exists : MethodName := ⟨RX7, "exists", "(I)Z"⟩
abbrev cX7_sizeOf : ByteArray := prog_1_method_16_code
def yX7_sizeOf : MethodName := ⟨RX7, "sizeOf", "(I)I"⟩
abbrev cX7_weightOf : ByteArray := prog_1_method_17_code
def yX7_weightOf : MethodName := ⟨RX7, "weightOf", "(I)I"⟩
abbrev cX7_stopOf : ByteArray := prog_1_method_18_code
def yX7_stopOf : MethodName := ⟨RX7, "stopOf", "(I)I"⟩
abbrev cX7_isFragile : ByteArray := prog_1_method_19_code
def yX7_isFragile : MethodName := ⟨RX7, "isFragile", "(I)Z"⟩
abbrev cX7_isPacked : ByteArray := prog_1_method_20_code
def yX7_isPacked : MethodName := ⟨RX7, "isPacked", "(I)Z"⟩
abbrev cX7_bagOf : ByteArray := prog_1_method_21_code
def yX7_bagOf : MethodName := ⟨RX7, "bagOf", "(I)I"⟩
abbrev cX7_layerOf : ByteArray := prog_1_method_22_code
def yX7_layerOf : MethodName := ⟨RX7, "layerOf", "(I)I"⟩
abbrev cX7_itemAtRank : ByteArray := prog_1_method_23_code
def yX7_itemAtRank : MethodName := ⟨RX7, "itemAtRank", "(I)I"⟩
abbrev cX7_bagCount : ByteArray := prog_1_method_24_code
def yX7_bagCount : MethodName := ⟨RX7, "bagCount", "()I"⟩
abbrev cX7_limitOf : ByteArray := prog_1_method_25_code
def yX7_limitOf : MethodName := ⟨RX7, "limitOf", "(I)I"⟩
abbrev cX7_weightIn : ByteArray := prog_1_method_26_code
def yX7_weightIn : MethodName := ⟨RX7, "weightIn", "(I)I"⟩
abbrev cX7_weightInByLayers : ByteArray := prog_1_method_27_code
def yX7_weightInByLayers : MethodName := ⟨RX7, "weightInByLayers", "(I)I"⟩
abbrev cX7_weightLeft : ByteArray := prog_1_method_28_code
def yX7_weightLeft : MethodName := ⟨RX7, "weightLeft", "(I)I"⟩
abbrev cX7_layerCount : ByteArray := prog_1_method_29_code
def yX7_layerCount : MethodName := ⟨RX7, "layerCount", "(I)I"⟩
abbrev cX7_itemsInLayer : ByteArray := prog_1_method_30_code
def yX7_itemsInLayer : MethodName := ⟨RX7, "itemsInLayer", "(II)I"⟩
abbrev cX7_itemAt : ByteArray := prog_1_method_31_code
def yX7_itemAt : MethodName := ⟨RX7, "itemAt", "(III)I"⟩
abbrev cX7_sizeUsed : ByteArray := prog_1_method_32_code
def yX7_sizeUsed : MethodName := ⟨RX7, "sizeUsed", "(II)I"⟩
abbrev cX7_loadOf : ByteArray := prog_1_method_33_code
def yX7_loadOf : MethodName := ⟨RX7, "loadOf", "(II)I"⟩
abbrev cX7_bestLoad : ByteArray := prog_1_method_34_code
def yX7_bestLoad : MethodName := ⟨RX7, "bestLoad", "(I)I"⟩
abbrev cX7_bestLoadByTable : ByteArray := prog_1_method_35_code
def yX7_bestLoadByTable : MethodName := ⟨RX7, "bestLoadByTable", "(I)I"⟩
abbrev cX7_emptiestBag : ByteArray := prog_1_method_36_code
def yX7_emptiestBag : MethodName := ⟨RX7, "emptiestBag", "()I"⟩
abbrev cX7_shareUsed : ByteArray := prog_1_method_37_code
def yX7_shareUsed : MethodName := ⟨RX7, "shareUsed", "()D"⟩
abbrev cX7_refusalReason : ByteArray := prog_1_method_39_code
def yX7_refusalReason : MethodName := ⟨RX7, "refusalReason", "()I"⟩
abbrev cX7_refusedItem : ByteArray := prog_1_method_40_code
def yX7_refusedItem : MethodName := ⟨RX7, "refusedItem", "()I"⟩
abbrev cX7_writeLabel : ByteArray := prog_1_method_41_code
def yX7_writeLabel : MethodName := ⟨RX7, "writeLabel", "(I)I"⟩
abbrev cX7_labelAt : ByteArray := prog_1_method_42_code
def yX7_labelAt : MethodName := ⟨RX7, "labelAt", "(I)C"⟩
abbrev cX7_type : ByteArray := prog_1_method_43_code
def yX7_type : MethodName := ⟨RX7, "type", "(C)I"⟩
abbrev cX7_execute : ByteArray := prog_1_method_44_code
def yX7_execute : MethodName := ⟨RX7, "execute", "()I"⟩
abbrev cX7_errorPosition : ByteArray := prog_1_method_45_code
def yX7_errorPosition : MethodName := ⟨RX7, "errorPosition", "()I"⟩
abbrev cX7_failedCommand : ByteArray := prog_1_method_46_code
def yX7_failedCommand : MethodName := ⟨RX7, "failedCommand", "()I"⟩
abbrev cX7_undo : ByteArray := prog_1_method_47_code
def yX7_undo : MethodName := ⟨RX7, "undo", "()I"⟩
abbrev cX7_save : ByteArray := prog_1_method_48_code
def yX7_save : MethodName := ⟨RX7, "save", "()I"⟩
abbrev cX7_restore : ByteArray := prog_1_method_49_code
def yX7_restore : MethodName := ⟨RX7, "restore", "()I"⟩
abbrev cX7_raise : ByteArray := prog_1_method_50_code
def yX7_raise : MethodName := ⟨RX7, "raise", "(LCourierBags$Fault;)V"⟩
abbrev cX7_requireItem : ByteArray := prog_1_method_51_code
def yX7_requireItem : MethodName := ⟨RX7, "requireItem", "(I)LCourierBags$Item;"⟩
abbrev cX7_requirePacked : ByteArray := prog_1_method_52_code
def yX7_requirePacked : MethodName := ⟨RX7, "requirePacked", "(I)LCourierBags$Item;"⟩
abbrev cX7_requireBag : ByteArray := prog_1_method_53_code
def yX7_requireBag : MethodName := ⟨RX7, "requireBag", "(I)V"⟩
abbrev cX7_requireLayer : ByteArray := prog_1_method_54_code
def yX7_requireLayer : MethodName := ⟨RX7, "requireLayer", "(II)V"⟩
abbrev cX7_keepRefusal : ByteArray := prog_1_method_55_code
def yX7_keepRefusal : MethodName := ⟨RX7, "keepRefusal", "(LCourierBags$Fault;II)V"⟩
abbrev cX7_runCommands : ByteArray := prog_1_method_56_code
def yX7_runCommands : MethodName := ⟨RX7, "runCommands", "(I)I"⟩
abbrev cX7_commandFault : ByteArray := prog_1_method_57_code
def yX7_commandFault : MethodName := ⟨RX7, "commandFault", "()LCourierBags$Fault;"⟩
abbrev cX7_runCommand : ByteArray := prog_1_method_58_code
def yX7_runCommand : MethodName := ⟨RX7, "runCommand", "()V"⟩
def RX8 : String := "CourierBagsModel"
def TX8 : u_T := fun k => match k with
  | _ => ("", "", "", false)
def tyX8 : Nat → FieldType := fun k => match k with
  | _ => .int
abbrev wsX80 : List Cond := u_ws RX8 TX8 0
theorem nmX8 : ∀ a, a < 0 → ∀ b, b < 0 → a ≠ b → (TX8 a).2.1 ≠ (TX8 b).2.1 := by decide +kernel
theorem tyX8_ok : ∀ k, k < 0 → parseFieldDescriptor (TX8 k).2.2.1 = some (tyX8 k) := by decide +kernel
def RJx145de : String := "java/io/Serializable"
def TJx145de : u_T := fun k => match k with
  | _ => ("", "", "", false)
def tyJx145de : Nat → FieldType := fun k => match k with
  | _ => .int
abbrev wsJx145de0 : List Cond := u_ws RJx145de TJx145de 0
theorem nmJx145de : ∀ a, a < 0 → ∀ b, b < 0 → a ≠ b → (TJx145de a).2.1 ≠ (TJx145de b).2.1 := by decide +kernel
theorem tyJx145de_ok : ∀ k, k < 0 → parseFieldDescriptor (TJx145de k).2.2.1 = some (tyJx145de k) := by decide +kernel
def RJ5 : String := "java/lang/AbstractStringBuilder"
def TJ5 : u_T := fun k => match k with
  | _ => ("", "", "", false)
def tyJ5 : Nat → FieldType := fun k => match k with
  | _ => .int
abbrev wsJ50 : List Cond := u_ws RJ5 TJ5 0
theorem nmJ5 : ∀ a, a < 0 → ∀ b, b < 0 → a ≠ b → (TJ5 a).2.1 ≠ (TJ5 b).2.1 := by decide +kernel
theorem tyJ5_ok : ∀ k, k < 0 → parseFieldDescriptor (TJ5 k).2.2.1 = some (tyJ5 k) := by decide +kernel
abbrev cJ5_init_d00df : ByteArray := prog_12_method_2_code
def yJ5_init_d00df : MethodName := ⟨RJ5, "<init>", "(I)V"⟩
abbrev cJ5_length_8abf5 : ByteArray := prog_12_method_6_code
def yJ5_length_8abf5 : MethodName := ⟨RJ5, "length", "()I"⟩
abbrev cJ5_ensureCapacityInternal_d00df : ByteArray := prog_12_method_9_code
def yJ5_ensureCapacityInternal_d00df : MethodName := ⟨RJ5, "ensureCapacityInternal", "(I)V"⟩
abbrev cJ5_newCapacity_0f7a4 : ByteArray := prog_12_method_10_code
def yJ5_newCapacity_0f7a4 : MethodName := ⟨RJ5, "newCapacity", "(I)I"⟩
abbrev cJ5_inflate_da8c8 : ByteArray := prog_12_method_11_code
def yJ5_inflate_da8c8 : MethodName := ⟨RJ5, "inflate", "()V"⟩
abbrev cJ5_setLength_d00df : ByteArray := prog_12_method_13_code
def yJ5_setLength_d00df : MethodName := ⟨RJ5, "setLength", "(I)V"⟩
abbrev cJ5_charAt_5068e : ByteArray := prog_12_method_14_code
def yJ5_charAt_5068e : MethodName := ⟨RJ5, "charAt", "(I)C"⟩
abbrev cJ5_append_cf1ce : ByteArray := prog_12_method_22_code
def yJ5_append_cf1ce : MethodName := ⟨RJ5, "append", "(Ljava/lang/String;)Ljava/lang/AbstractStringBuilder;"⟩
abbrev cJ5_appendNull_278bc : ByteArray := prog_12_method_26_code
def yJ5_appendNull_278bc : MethodName := ⟨RJ5, "appendNull", "()Ljava/lang/AbstractStringBuilder;"⟩
abbrev cJ5_append_3fe6f : ByteArray := prog_12_method_31_code
def yJ5_append_3fe6f : MethodName := ⟨RJ5, "append", "(C)Ljava/lang/AbstractStringBuilder;"⟩
abbrev cJ5_append_c97b9 : ByteArray := prog_12_method_32_code
def yJ5_append_c97b9 : MethodName := ⟨RJ5, "append", "(I)Ljava/lang/AbstractStringBuilder;"⟩
abbrev cJ5_getValue_6d5f1 : ByteArray := prog_12_method_64_code
def yJ5_getValue_6d5f1 : MethodName := ⟨RJ5, "getValue", "()[B"⟩
abbrev cJ5_isLatin1_aae02 : ByteArray := prog_12_method_68_code
def yJ5_isLatin1_aae02 : MethodName := ⟨RJ5, "isLatin1", "()Z"⟩
abbrev cJ5_inflateIfNeededFor_a7421 : ByteArray := prog_12_method_71_code
def yJ5_inflateIfNeededFor_a7421 : MethodName := ⟨RJ5, "inflateIfNeededFor", "(Ljava/lang/String;)V"⟩
abbrev cJ5_putStringAt_47b60 : ByteArray := prog_12_method_73_code
def yJ5_putStringAt_47b60 : MethodName := ⟨RJ5, "putStringAt", "(ILjava/lang/String;)V"⟩
def RJx2cfe8 : String := "java/lang/Appendable"
def TJx2cfe8 : u_T := fun k => match k with
  | _ => ("", "", "", false)
def tyJx2cfe8 : Nat → FieldType := fun k => match k with
  | _ => .int
abbrev wsJx2cfe80 : List Cond := u_ws RJx2cfe8 TJx2cfe8 0
theorem nmJx2cfe8 : ∀ a, a < 0 → ∀ b, b < 0 → a ≠ b → (TJx2cfe8 a).2.1 ≠ (TJx2cfe8 b).2.1 := by decide +kernel
theorem tyJx2cfe8_ok : ∀ k, k < 0 → parseFieldDescriptor (TJx2cfe8 k).2.2.1 = some (tyJx2cfe8 k) := by decide +kernel
def RJx00060 : String := "java/lang/ArrayIndexOutOfBoundsException"
def TJx00060 : u_T := fun k => match k with
  | 0 => ("java/lang/Throwable", "backtrace", "Ljava/lang/Object;", false)
  | 1 => ("java/lang/Throwable", "detailMessage", "Ljava/lang/String;", false)
  | 2 => ("java/lang/Throwable", "cause", "Ljava/lang/Throwable;", false)
  | 3 => ("java/lang/Throwable", "stackTrace", "[Ljava/lang/StackTraceElement;", false)
  | 4 => ("java/lang/Throwable", "depth", "I", false)
  | _ => ("java/lang/Throwable", "suppressedExceptions", "Ljava/util/List;", false)
def tyJx00060 : Nat → FieldType := fun k => match k with
  | 0 => .object "java/lang/Object"
  | 1 => .object "java/lang/String"
  | 2 => .object "java/lang/Throwable"
  | 3 => .array (.object "java/lang/StackTraceElement")
  | 4 => .int
  | _ => .object "java/util/List"
abbrev wsJx000600 : List Cond := u_ws RJx00060 TJx00060 6
theorem nmJx00060 : ∀ a, a < 6 → ∀ b, b < 6 → a ≠ b → (TJx00060 a).2.1 ≠ (TJx00060 b).2.1 := by decide +kernel
theorem tyJx00060_ok : ∀ k, k < 6 → parseFieldDescriptor (TJx00060 k).2.2.1 = some (tyJx00060 k) := by decide +kernel
abbrev cJx00060_init_a7421 : ByteArray := prog_15_method_2_code
def yJx00060_init_a7421 : MethodName := ⟨RJx00060, "<init>", "(Ljava/lang/String;)V"⟩
abbrev cJx00060_init_d00df : ByteArray := prog_15_method_3_code
def yJx00060_init_d00df : MethodName := ⟨RJx00060, "<init>", "(I)V"⟩
def RJx9f9b0 : String := "java/lang/CharSequence"
def TJx9f9b0 : u_T := fun k => match k with
  | _ => ("", "", "", false)
def tyJx9f9b0 : Nat → FieldType := fun k => match k with
  | _ => .int
abbrev wsJx9f9b00 : List Cond := u_ws RJx9f9b0 TJx9f9b0 0
theorem nmJx9f9b0 : ∀ a, a < 0 → ∀ b, b < 0 → a ≠ b → (TJx9f9b0 a).2.1 ≠ (TJx9f9b0 b).2.1 := by decide +kernel
theorem tyJx9f9b0_ok : ∀ k, k < 0 → parseFieldDescriptor (TJx9f9b0 k).2.2.1 = some (tyJx9f9b0 k) := by decide +kernel
def RJx8e188 : String := "java/lang/Cloneable"
def TJx8e188 : u_T := fun k => match k with
  | _ => ("", "", "", false)
def tyJx8e188 : Nat → FieldType := fun k => match k with
  | _ => .int
abbrev wsJx8e1880 : List Cond := u_ws RJx8e188 TJx8e188 0
theorem nmJx8e188 : ∀ a, a < 0 → ∀ b, b < 0 → a ≠ b → (TJx8e188 a).2.1 ≠ (TJx8e188 b).2.1 := by decide +kernel
theorem tyJx8e188_ok : ∀ k, k < 0 → parseFieldDescriptor (TJx8e188 k).2.2.1 = some (tyJx8e188 k) := by decide +kernel
def RJxb160c : String := "java/lang/Comparable"
def TJxb160c : u_T := fun k => match k with
  | _ => ("", "", "", false)
def tyJxb160c : Nat → FieldType := fun k => match k with
  | _ => .int
abbrev wsJxb160c0 : List Cond := u_ws RJxb160c TJxb160c 0
theorem nmJxb160c : ∀ a, a < 0 → ∀ b, b < 0 → a ≠ b → (TJxb160c a).2.1 ≠ (TJxb160c b).2.1 := by decide +kernel
theorem tyJxb160c_ok : ∀ k, k < 0 → parseFieldDescriptor (TJxb160c k).2.2.1 = some (tyJxb160c k) := by decide +kernel
def RJxe99ae : String := "java/lang/Double"
def TJxe99ae : u_T := fun k => match k with
  | _ => ("", "", "", false)
def tyJxe99ae : Nat → FieldType := fun k => match k with
  | _ => .int
abbrev wsJxe99ae0 : List Cond := u_ws RJxe99ae TJxe99ae 0
theorem nmJxe99ae : ∀ a, a < 0 → ∀ b, b < 0 → a ≠ b → (TJxe99ae a).2.1 ≠ (TJxe99ae b).2.1 := by decide +kernel
theorem tyJxe99ae_ok : ∀ k, k < 0 → parseFieldDescriptor (TJxe99ae k).2.2.1 = some (tyJxe99ae k) := by decide +kernel
abbrev cJxe99ae_isNaN_b9ae7 : ByteArray := prog_19_method_6_code
def yJxe99ae_isNaN_b9ae7 : MethodName := ⟨RJxe99ae, "isNaN", "(D)Z"⟩
abbrev cJxe99ae_doubleToLongBits_ccdee : ByteArray := prog_19_method_23_code
def yJxe99ae_doubleToLongBits_ccdee : MethodName := ⟨RJxe99ae, "doubleToLongBits", "(D)J"⟩
def RJx29ce0 : String := "java/lang/Enum"
def TJx29ce0 : u_T := fun k => match k with
  | _ => ("", "", "", false)
def tyJx29ce0 : Nat → FieldType := fun k => match k with
  | _ => .int
abbrev wsJx29ce00 : List Cond := u_ws RJx29ce0 TJx29ce0 0
theorem nmJx29ce0 : ∀ a, a < 0 → ∀ b, b < 0 → a ≠ b → (TJx29ce0 a).2.1 ≠ (TJx29ce0 b).2.1 := by decide +kernel
theorem tyJx29ce0_ok : ∀ k, k < 0 → parseFieldDescriptor (TJx29ce0 k).2.2.1 = some (tyJx29ce0 k) := by decide +kernel
abbrev cJx29ce0_ordinal_8abf5 : ByteArray := prog_20_method_2_code
def yJx29ce0_ordinal_8abf5 : MethodName := ⟨RJx29ce0, "ordinal", "()I"⟩
def RJ6 : String := "java/lang/Integer"
def TJ6 : u_T := fun k => match k with
  | _ => ("", "", "", false)
def tyJ6 : Nat → FieldType := fun k => match k with
  | _ => .int
abbrev wsJ60 : List Cond := u_ws RJ6 TJ6 0
theorem nmJ6 : ∀ a, a < 0 → ∀ b, b < 0 → a ≠ b → (TJ6 a).2.1 ≠ (TJ6 b).2.1 := by decide +kernel
theorem tyJ6_ok : ∀ k, k < 0 → parseFieldDescriptor (TJ6 k).2.2.1 = some (tyJ6 k) := by decide +kernel
abbrev cJ6_getChars_ba4f3 : ByteArray := prog_25_method_12_code
def yJ6_getChars_ba4f3 : MethodName := ⟨RJ6, "getChars", "(II[B)I"⟩
abbrev cJ6_stringSize_0f7a4 : ByteArray := prog_25_method_13_code
def yJ6_stringSize_0f7a4 : MethodName := ⟨RJ6, "stringSize", "(I)I"⟩
def RJ9 : String := "java/lang/Math"
def TJ9 : u_T := fun k => match k with
  | _ => ("", "", "", false)
def tyJ9 : Nat → FieldType := fun k => match k with
  | _ => .int
abbrev wsJ90 : List Cond := u_ws RJ9 TJ9 0
theorem nmJ9 : ∀ a, a < 0 → ∀ b, b < 0 → a ≠ b → (TJ9 a).2.1 ≠ (TJ9 b).2.1 := by decide +kernel
theorem tyJ9_ok : ∀ k, k < 0 → parseFieldDescriptor (TJ9 k).2.2.1 = some (tyJ9 k) := by decide +kernel
abbrev cJ9_max_7cf53 : ByteArray := prog_26_method_65_code
def yJ9_max_7cf53 : MethodName := ⟨RJ9, "max", "(II)I"⟩
abbrev cJ9_min_7cf53 : ByteArray := prog_26_method_69_code
def yJ9_min_7cf53 : MethodName := ⟨RJ9, "min", "(II)I"⟩
def RJxd2413 : String := "java/lang/Number"
def TJxd2413 : u_T := fun k => match k with
  | _ => ("", "", "", false)
def tyJxd2413 : Nat → FieldType := fun k => match k with
  | _ => .int
abbrev wsJxd24130 : List Cond := u_ws RJxd2413 TJxd2413 0
theorem nmJxd2413 : ∀ a, a < 0 → ∀ b, b < 0 → a ≠ b → (TJxd2413 a).2.1 ≠ (TJxd2413 b).2.1 := by decide +kernel
theorem tyJxd2413_ok : ∀ k, k < 0 → parseFieldDescriptor (TJxd2413 k).2.2.1 = some (tyJxd2413 k) := by decide +kernel
def RJ0 : String := "java/lang/String"
def TJ0 : u_T := fun k => match k with
  | 0 => ("java/lang/String", "value", "[B", true)
  | 1 => ("java/lang/String", "coder", "B", true)
  | 2 => ("java/lang/String", "hash", "I", false)
  | _ => ("java/lang/String", "hashIsZero", "Z", false)
def tyJ0 : Nat → FieldType := fun k => match k with
  | 0 => .array .byte
  | 1 => .byte
  | 2 => .int
  | _ => .boolean
abbrev wsJ00 : List Cond := u_ws RJ0 TJ0 4
theorem nmJ0 : ∀ a, a < 4 → ∀ b, b < 4 → a ≠ b → (TJ0 a).2.1 ≠ (TJ0 b).2.1 := by decide +kernel
theorem tyJ0_ok : ∀ k, k < 4 → parseFieldDescriptor (TJ0 k).2.2.1 = some (tyJ0 k) := by decide +kernel
abbrev cJ0_init_81219 : ByteArray := prog_29_method_53_code
def yJ0_init_81219 : MethodName := ⟨RJ0, "<init>", "(Ljava/lang/StringBuilder;)V"⟩
abbrev cJ0_length_8abf5 : ByteArray := prog_29_method_54_code
def yJ0_length_8abf5 : MethodName := ⟨RJ0, "length", "()I"⟩
abbrev cJ0_charAt_5068e : ByteArray := prog_29_method_56_code
def yJ0_charAt_5068e : MethodName := ⟨RJ0, "charAt", "(I)C"⟩
abbrev cJ0_getBytes_840e7 : ByteArray := prog_29_method_147_code
def yJ0_getBytes_840e7 : MethodName := ⟨RJ0, "getBytes", "([BIB)V"⟩
abbrev cJ0_init_db425 : ByteArray := prog_29_method_150_code
def yJ0_init_db425 : MethodName := ⟨RJ0, "<init>", "(Ljava/lang/AbstractStringBuilder;Ljava/lang/Void;)V"⟩
abbrev cJ0_coder_7d493 : ByteArray := prog_29_method_152_code
def yJ0_coder_7d493 : MethodName := ⟨RJ0, "coder", "()B"⟩
abbrev cJ0_isLatin1_aae02 : ByteArray := prog_29_method_154_code
def yJ0_isLatin1_aae02 : MethodName := ⟨RJ0, "isLatin1", "()Z"⟩
abbrev cJ0_checkIndex_df160 : ByteArray := prog_29_method_155_code
def yJ0_checkIndex_df160 : MethodName := ⟨RJ0, "checkIndex", "(II)V"⟩
abbrev cJ0_checkBoundsOffCount_cabcc : ByteArray := prog_29_method_157_code
def yJ0_checkBoundsOffCount_cabcc : MethodName := ⟨RJ0, "checkBoundsOffCount", "(III)I"⟩
abbrev cJ0_checkBoundsBeginEnd_23922 : ByteArray := prog_29_method_158_code
def yJ0_checkBoundsBeginEnd_23922 : MethodName := ⟨RJ0, "checkBoundsBeginEnd", "(III)V"⟩
def RJ4 : String := "java/lang/StringBuilder"
def TJ4 : u_T := fun k => match k with
  | 0 => ("java/lang/AbstractStringBuilder", "value", "[B", false)
  | 1 => ("java/lang/AbstractStringBuilder", "coder", "B", false)
  | 2 => ("java/lang/AbstractStringBuilder", "maybeLatin1", "Z", false)
  | _ => ("java/lang/AbstractStringBuilder", "count", "I", false)
def tyJ4 : Nat → FieldType := fun k => match k with
  | 0 => .array .byte
  | 1 => .byte
  | 2 => .boolean
  | _ => .int
abbrev wsJ40 : List Cond := u_ws RJ4 TJ4 4
theorem nmJ4 : ∀ a, a < 4 → ∀ b, b < 4 → a ≠ b → (TJ4 a).2.1 ≠ (TJ4 b).2.1 := by decide +kernel
theorem tyJ4_ok : ∀ k, k < 4 → parseFieldDescriptor (TJ4 k).2.2.1 = some (tyJ4 k) := by decide +kernel
abbrev cJ4_init_da8c8 : ByteArray := prog_30_method_1_code
def yJ4_init_da8c8 : MethodName := ⟨RJ4, "<init>", "()V"⟩
abbrev cJ4_append_15ec4 : ByteArray := prog_30_method_7_code
def yJ4_append_15ec4 : MethodName := ⟨RJ4, "append", "(Ljava/lang/String;)Ljava/lang/StringBuilder;"⟩
abbrev cJ4_append_cf468 : ByteArray := prog_30_method_14_code
def yJ4_append_cf468 : MethodName := ⟨RJ4, "append", "(C)Ljava/lang/StringBuilder;"⟩
abbrev cJ4_append_bf812 : ByteArray := prog_30_method_15_code
def yJ4_append_bf812 : MethodName := ⟨RJ4, "append", "(I)Ljava/lang/StringBuilder;"⟩
abbrev cJ4_toString_0e30d : ByteArray := prog_30_method_42_code
def yJ4_toString_0e30d : MethodName := ⟨RJ4, "toString", "()Ljava/lang/String;"⟩
abbrev cJ4_charAt_5068e : ByteArray := prog_30_method_88_code
def yJ4_charAt_5068e : MethodName := ⟨RJ4, "charAt", "(I)C"⟩
abbrev cJ4_setLength_d00df : ByteArray := prog_30_method_89_code
def yJ4_setLength_d00df : MethodName := ⟨RJ4, "setLength", "(I)V"⟩
abbrev cJ4_length_8abf5 : ByteArray := prog_30_method_93_code
def yJ4_length_8abf5 : MethodName := ⟨RJ4, "length", "()I"⟩
def RJx7c733 : String := "java/lang/StringIndexOutOfBoundsException"
def TJx7c733 : u_T := fun k => match k with
  | 0 => ("java/lang/Throwable", "backtrace", "Ljava/lang/Object;", false)
  | 1 => ("java/lang/Throwable", "detailMessage", "Ljava/lang/String;", false)
  | 2 => ("java/lang/Throwable", "cause", "Ljava/lang/Throwable;", false)
  | 3 => ("java/lang/Throwable", "stackTrace", "[Ljava/lang/StackTraceElement;", false)
  | 4 => ("java/lang/Throwable", "depth", "I", false)
  | _ => ("java/lang/Throwable", "suppressedExceptions", "Ljava/util/List;", false)
def tyJx7c733 : Nat → FieldType := fun k => match k with
  | 0 => .object "java/lang/Object"
  | 1 => .object "java/lang/String"
  | 2 => .object "java/lang/Throwable"
  | 3 => .array (.object "java/lang/StackTraceElement")
  | 4 => .int
  | _ => .object "java/util/List"
abbrev wsJx7c7330 : List Cond := u_ws RJx7c733 TJx7c733 6
theorem nmJx7c733 : ∀ a, a < 6 → ∀ b, b < 6 → a ≠ b → (TJx7c733 a).2.1 ≠ (TJx7c733 b).2.1 := by decide +kernel
theorem tyJx7c733_ok : ∀ k, k < 6 → parseFieldDescriptor (TJx7c733 k).2.2.1 = some (tyJx7c733 k) := by decide +kernel
abbrev cJx7c733_init_d00df : ByteArray := prog_31_method_3_code
def yJx7c733_init_d00df : MethodName := ⟨RJx7c733, "<init>", "(I)V"⟩
def RJ1 : String := "java/lang/StringLatin1"
def TJ1 : u_T := fun k => match k with
  | _ => ("", "", "", false)
def tyJ1 : Nat → FieldType := fun k => match k with
  | _ => .int
abbrev wsJ10 : List Cond := u_ws RJ1 TJ1 0
theorem nmJ1 : ∀ a, a < 0 → ∀ b, b < 0 → a ≠ b → (TJ1 a).2.1 ≠ (TJ1 b).2.1 := by decide +kernel
theorem tyJ1_ok : ∀ k, k < 0 → parseFieldDescriptor (TJ1 k).2.2.1 = some (tyJ1 k) := by decide +kernel
abbrev cJ1_charAt_3b067 : ByteArray := prog_32_method_2_code
def yJ1_charAt_3b067 : MethodName := ⟨RJ1, "charAt", "([BI)C"⟩
abbrev cJ1_canEncode_fc78d : ByteArray := prog_32_method_3_code
def yJ1_canEncode_fc78d : MethodName := ⟨RJ1, "canEncode", "(C)Z"⟩
abbrev cJ1_fillNull_b72d1 : ByteArray := prog_32_method_48_code
def yJ1_fillNull_b72d1 : MethodName := ⟨RJ1, "fillNull", "([BII)V"⟩
abbrev cJ1_inflate_0e8fd : ByteArray := prog_32_method_50_code
def yJ1_inflate_0e8fd : MethodName := ⟨RJ1, "inflate", "([BI[BII)V"⟩
def RJ2 : String := "java/lang/StringUTF16"
def TJ2 : u_T := fun k => match k with
  | _ => ("", "", "", false)
def tyJ2 : Nat → FieldType := fun k => match k with
  | _ => .int
abbrev wsJ20 : List Cond := u_ws RJ2 TJ2 0
theorem nmJ2 : ∀ a, a < 0 → ∀ b, b < 0 → a ≠ b → (TJ2 a).2.1 ≠ (TJ2 b).2.1 := by decide +kernel
theorem tyJ2_ok : ∀ k, k < 0 → parseFieldDescriptor (TJ2 k).2.2.1 = some (tyJ2 k) := by decide +kernel
abbrev cJ2_newBytesFor_77867 : ByteArray := prog_33_method_2_code
def yJ2_newBytesFor_77867 : MethodName := ⟨RJ2, "newBytesFor", "(I)[B"⟩
abbrev cJ2_newBytesLength_0f7a4 : ByteArray := prog_33_method_3_code
def yJ2_newBytesLength_0f7a4 : MethodName := ⟨RJ2, "newBytesLength", "(I)I"⟩
abbrev cJ2_putChar_b72d1 : ByteArray := prog_33_method_4_code
def yJ2_putChar_b72d1 : MethodName := ⟨RJ2, "putChar", "([BII)V"⟩
abbrev cJ2_getChar_3b067 : ByteArray := prog_33_method_5_code
def yJ2_getChar_3b067 : MethodName := ⟨RJ2, "getChar", "([BI)C"⟩
abbrev cJ2_length_9d52b : ByteArray := prog_33_method_6_code
def yJ2_length_9d52b : MethodName := ⟨RJ2, "length", "([B)I"⟩
abbrev cJ2_coderFromArrayLen_85cad : ByteArray := prog_33_method_15_code
def yJ2_coderFromArrayLen_85cad : MethodName := ⟨RJ2, "coderFromArrayLen", "([BI)B"⟩
abbrev cJ2_compress_39247 : ByteArray := prog_33_method_17_code
def yJ2_compress_39247 : MethodName := ⟨RJ2, "compress", "([BII)[B"⟩
abbrev cJ2_compress_5af95 : ByteArray := prog_33_method_22_code
def yJ2_compress_5af95 : MethodName := ⟨RJ2, "compress", "([BI[BII)I"⟩
abbrev cJ2_fillNull_b72d1 : ByteArray := prog_33_method_70_code
def yJ2_fillNull_b72d1 : MethodName := ⟨RJ2, "fillNull", "([BII)V"⟩
abbrev cJ2_putCharSB_b72d1 : ByteArray := prog_33_method_71_code
def yJ2_putCharSB_b72d1 : MethodName := ⟨RJ2, "putCharSB", "([BII)V"⟩
abbrev cJ2_getChars_46870 : ByteArray := prog_33_method_77_code
def yJ2_getChars_46870 : MethodName := ⟨RJ2, "getChars", "(III[B)I"⟩
abbrev cJ2_putCharsAt_cd4e5 : ByteArray := prog_33_method_81_code
def yJ2_putCharsAt_cd4e5 : MethodName := ⟨RJ2, "putCharsAt", "([BICCCC)I"⟩
abbrev cJ2_charAt_3b067 : ByteArray := prog_33_method_83_code
def yJ2_charAt_3b067 : MethodName := ⟨RJ2, "charAt", "([BI)C"⟩
abbrev cJ2_inflate_0e8fd : ByteArray := prog_33_method_86_code
def yJ2_inflate_0e8fd : MethodName := ⟨RJ2, "inflate", "([BI[BII)V"⟩
abbrev cJ2_getChars_ba4f3 : ByteArray := prog_33_method_89_code
def yJ2_getChars_ba4f3 : MethodName := ⟨RJ2, "getChars", "(II[B)I"⟩
abbrev cJ2_checkIndex_2214a : ByteArray := prog_33_method_91_code
def yJ2_checkIndex_2214a : MethodName := ⟨RJ2, "checkIndex", "(I[B)V"⟩
abbrev cJ2_checkBoundsBeginEnd_d044e : ByteArray := prog_33_method_93_code
def yJ2_checkBoundsBeginEnd_d044e : MethodName := ⟨RJ2, "checkBoundsBeginEnd", "(II[B)V"⟩
abbrev cJ2_checkBoundsOffCount_d044e : ByteArray := prog_33_method_94_code
def yJ2_checkBoundsOffCount_d044e : MethodName := ⟨RJ2, "checkBoundsOffCount", "(II[B)V"⟩
def RJ10 : String := "java/lang/System"
def TJ10 : u_T := fun k => match k with
  | _ => ("", "", "", false)
def tyJ10 : Nat → FieldType := fun k => match k with
  | _ => .int
abbrev wsJ100 : List Cond := u_ws RJ10 TJ10 0
theorem nmJ10 : ∀ a, a < 0 → ∀ b, b < 0 → a ≠ b → (TJ10 a).2.1 ≠ (TJ10 b).2.1 := by decide +kernel
theorem tyJ10_ok : ∀ k, k < 0 → parseFieldDescriptor (TJ10 k).2.2.1 = some (tyJ10 k) := by decide +kernel
def RJxfd54e : String := "java/lang/constant/Constable"
def TJxfd54e : u_T := fun k => match k with
  | _ => ("", "", "", false)
def tyJxfd54e : Nat → FieldType := fun k => match k with
  | _ => .int
abbrev wsJxfd54e0 : List Cond := u_ws RJxfd54e TJxfd54e 0
theorem nmJxfd54e : ∀ a, a < 0 → ∀ b, b < 0 → a ≠ b → (TJxfd54e a).2.1 ≠ (TJxfd54e b).2.1 := by decide +kernel
theorem tyJxfd54e_ok : ∀ k, k < 0 → parseFieldDescriptor (TJxfd54e k).2.2.1 = some (tyJxfd54e k) := by decide +kernel
def RJx3cf43 : String := "java/lang/constant/ConstantDesc"
def TJx3cf43 : u_T := fun k => match k with
  | _ => ("", "", "", false)
def tyJx3cf43 : Nat → FieldType := fun k => match k with
  | _ => .int
abbrev wsJx3cf430 : List Cond := u_ws RJx3cf43 TJx3cf43 0
theorem nmJx3cf43 : ∀ a, a < 0 → ∀ b, b < 0 → a ≠ b → (TJx3cf43 a).2.1 ≠ (TJx3cf43 b).2.1 := by decide +kernel
theorem tyJx3cf43_ok : ∀ k, k < 0 → parseFieldDescriptor (TJx3cf43 k).2.2.1 = some (tyJx3cf43 k) := by decide +kernel
def RJ7 : String := "java/util/Arrays"
def TJ7 : u_T := fun k => match k with
  | _ => ("", "", "", false)
def tyJ7 : Nat → FieldType := fun k => match k with
  | _ => .int
abbrev wsJ70 : List Cond := u_ws RJ7 TJ7 0
theorem nmJ7 : ∀ a, a < 0 → ∀ b, b < 0 → a ≠ b → (TJ7 a).2.1 ≠ (TJ7 b).2.1 := by decide +kernel
theorem tyJ7_ok : ∀ k, k < 0 → parseFieldDescriptor (TJ7 k).2.2.1 = some (tyJ7 k) := by decide +kernel
abbrev cJ7_rangeCheck_23922 : ByteArray := prog_39_method_30_code
def yJ7_rangeCheck_23922 : MethodName := ⟨RJ7, "rangeCheck", "(III)V"⟩
abbrev cJ7_fill_eb02e : ByteArray := prog_39_method_110_code
def yJ7_fill_eb02e : MethodName := ⟨RJ7, "fill", "([BIIB)V"⟩
abbrev cJ7_copyOf_9075b : ByteArray := prog_39_method_121_code
def yJ7_copyOf_9075b : MethodName := ⟨RJ7, "copyOf", "([BI)[B"⟩
abbrev cJ7_checkLength_df160 : ByteArray := prog_39_method_131_code
def yJ7_checkLength_df160 : MethodName := ⟨RJ7, "checkLength", "(II)V"⟩
abbrev cJ7_copyOfRange_39247 : ByteArray := prog_39_method_132_code
def yJ7_copyOfRange_39247 : MethodName := ⟨RJ7, "copyOfRange", "([BII)[B"⟩
abbrev cJ7_copyOfRangeByte_39247 : ByteArray := prog_39_method_133_code
def yJ7_copyOfRangeByte_39247 : MethodName := ⟨RJ7, "copyOfRangeByte", "([BII)[B"⟩
def RJ8 : String := "jdk/internal/util/ArraysSupport"
def TJ8 : u_T := fun k => match k with
  | _ => ("", "", "", false)
def tyJ8 : Nat → FieldType := fun k => match k with
  | _ => .int
abbrev wsJ80 : List Cond := u_ws RJ8 TJ8 0
theorem nmJ8 : ∀ a, a < 0 → ∀ b, b < 0 → a ≠ b → (TJ8 a).2.1 ≠ (TJ8 b).2.1 := by decide +kernel
theorem tyJ8_ok : ∀ k, k < 0 → parseFieldDescriptor (TJ8 k).2.2.1 = some (tyJ8 k) := by decide +kernel
abbrev cJ8_newLength_cabcc : ByteArray := prog_41_method_27_code
def yJ8_newLength_cabcc : MethodName := ⟨RJ8, "newLength", "(III)I"⟩
abbrev cJ8_hugeLength_7cf53 : ByteArray := prog_41_method_28_code
def yJ8_hugeLength_7cf53 : MethodName := ⟨RJ8, "hugeLength", "(II)I"⟩
def RJ3 : String := "jdk/internal/util/Preconditions"
def TJ3 : u_T := fun k => match k with
  | _ => ("", "", "", false)
def tyJ3 : Nat → FieldType := fun k => match k with
  | _ => .int
abbrev wsJ30 : List Cond := u_ws RJ3 TJ3 0
theorem nmJ3 : ∀ a, a < 0 → ∀ b, b < 0 → a ≠ b → (TJ3 a).2.1 ≠ (TJ3 b).2.1 := by decide +kernel
theorem tyJ3_ok : ∀ k, k < 0 → parseFieldDescriptor (TJ3 k).2.2.1 = some (tyJ3 k) := by decide +kernel
abbrev cJ3_checkIndex_8e157 : ByteArray := prog_42_method_11_code
def yJ3_checkIndex_8e157 : MethodName := ⟨RJ3, "checkIndex", "(IILjava/util/function/BiFunction;)I"⟩
abbrev cJ3_checkFromToIndex_8c36e : ByteArray := prog_42_method_12_code
def yJ3_checkFromToIndex_8c36e : MethodName := ⟨RJ3, "checkFromToIndex", "(IIILjava/util/function/BiFunction;)I"⟩
abbrev cJ3_checkFromIndexSize_8c36e : ByteArray := prog_42_method_13_code
def yJ3_checkFromIndexSize_8c36e : MethodName := ⟨RJ3, "checkFromIndexSize", "(IIILjava/util/function/BiFunction;)I"⟩
def RL : String := "CourierBagsLaw"
abbrev cL_at : ByteArray := method_2_code
def yL_at : MethodName := ⟨RL, "at", "([II)I"⟩
abbrev cL_some : ByteArray := method_3_code
def yL_some : MethodName := ⟨RL, "some", "(II)I"⟩
abbrev cL_addBag : ByteArray := method_4_code
def yL_addBag : MethodName := ⟨RL, "addBag", "(LCourierBags;I)I"⟩
abbrev cL_addItem : ByteArray := method_5_code
def yL_addItem : MethodName := ⟨RL, "addItem", "(LCourierBags;IIIZ)I"⟩
abbrev cL_removeItem : ByteArray := method_6_code
def yL_removeItem : MethodName := ⟨RL, "removeItem", "(LCourierBags;I)I"⟩
abbrev cL_pack : ByteArray := method_7_code
def yL_pack : MethodName := ⟨RL, "pack", "(LCourierBags;II)I"⟩
abbrev cL_canPack : ByteArray := method_8_code
def yL_canPack : MethodName := ⟨RL, "canPack", "(LCourierBags;II)I"⟩
abbrev cL_unpack : ByteArray := method_9_code
def yL_unpack : MethodName := ⟨RL, "unpack", "(LCourierBags;I)I"⟩
abbrev cL_autoPack : ByteArray := method_10_code
def yL_autoPack : MethodName := ⟨RL, "autoPack", "(LCourierBags;I)I"⟩
abbrev cL_deliver : ByteArray := method_11_code
def yL_deliver : MethodName := ⟨RL, "deliver", "(LCourierBags;)I"⟩
abbrev cL_nextStop : ByteArray := method_12_code
def yL_nextStop : MethodName := ⟨RL, "nextStop", "(LCourierBags;)I"⟩
abbrev cL_sizeOf : ByteArray := method_13_code
def yL_sizeOf : MethodName := ⟨RL, "sizeOf", "(LCourierBags;I)I"⟩
abbrev cL_weightOf : ByteArray := method_14_code
def yL_weightOf : MethodName := ⟨RL, "weightOf", "(LCourierBags;I)I"⟩
abbrev cL_stopOf : ByteArray := method_15_code
def yL_stopOf : MethodName := ⟨RL, "stopOf", "(LCourierBags;I)I"⟩
abbrev cL_isFragile : ByteArray := method_16_code
def yL_isFragile : MethodName := ⟨RL, "isFragile", "(LCourierBags;I)I"⟩
abbrev cL_isPacked : ByteArray := method_17_code
def yL_isPacked : MethodName := ⟨RL, "isPacked", "(LCourierBags;I)I"⟩
abbrev cL_bagOf : ByteArray := method_18_code
def yL_bagOf : MethodName := ⟨RL, "bagOf", "(LCourierBags;I)I"⟩
abbrev cL_layerOf : ByteArray := method_19_code
def yL_layerOf : MethodName := ⟨RL, "layerOf", "(LCourierBags;I)I"⟩
abbrev cL_itemAtRank : ByteArray := method_20_code
def yL_itemAtRank : MethodName := ⟨RL, "itemAtRank", "(LCourierBags;I)I"⟩
abbrev cL_limitOf : ByteArray := method_21_code
def yL_limitOf : MethodName := ⟨RL, "limitOf", "(LCourierBags;I)I"⟩
abbrev cL_weightIn : ByteArray := method_22_code
def yL_weightIn : MethodName := ⟨RL, "weightIn", "(LCourierBags;I)I"⟩
abbrev cL_weightByLayers : ByteArray := method_23_code
def yL_weightByLayers : MethodName := ⟨RL, "weightByLayers", "(LCourierBags;I)I"⟩
abbrev cL_weightLeft : ByteArray := method_24_code
def yL_weightLeft : MethodName := ⟨RL, "weightLeft", "(LCourierBags;I)I"⟩
abbrev cL_layerCount : ByteArray := method_25_code
def yL_layerCount : MethodName := ⟨RL, "layerCount", "(LCourierBags;I)I"⟩
abbrev cL_itemsInLayer : ByteArray := method_26_code
def yL_itemsInLayer : MethodName := ⟨RL, "itemsInLayer", "(LCourierBags;II)I"⟩
abbrev cL_itemAt : ByteArray := method_27_code
def yL_itemAt : MethodName := ⟨RL, "itemAt", "(LCourierBags;III)I"⟩
abbrev cL_sizeUsed : ByteArray := method_28_code
def yL_sizeUsed : MethodName := ⟨RL, "sizeUsed", "(LCourierBags;II)I"⟩
abbrev cL_loadOf : ByteArray := method_29_code
def yL_loadOf : MethodName := ⟨RL, "loadOf", "(LCourierBags;II)I"⟩
abbrev cL_bestLoad : ByteArray := method_30_code
def yL_bestLoad : MethodName := ⟨RL, "bestLoad", "(LCourierBags;I)I"⟩
abbrev cL_bestByTable : ByteArray := method_31_code
def yL_bestByTable : MethodName := ⟨RL, "bestByTable", "(LCourierBags;I)I"⟩
abbrev cL_emptiest : ByteArray := method_32_code
def yL_emptiest : MethodName := ⟨RL, "emptiest", "(LCourierBags;)I"⟩
abbrev cL_shareUsed : ByteArray := method_33_code
def yL_shareUsed : MethodName := ⟨RL, "shareUsed", "(LCourierBags;)D"⟩
abbrev cL_reason : ByteArray := method_34_code
def yL_reason : MethodName := ⟨RL, "reason", "(LCourierBags;)I"⟩
abbrev cL_refused : ByteArray := method_35_code
def yL_refused : MethodName := ⟨RL, "refused", "(LCourierBags;)I"⟩
abbrev cL_writeLabel : ByteArray := method_36_code
def yL_writeLabel : MethodName := ⟨RL, "writeLabel", "(LCourierBags;I)I"⟩
abbrev cL_labelAt : ByteArray := method_37_code
def yL_labelAt : MethodName := ⟨RL, "labelAt", "(LCourierBags;I)I"⟩
abbrev cL_type : ByteArray := method_38_code
def yL_type : MethodName := ⟨RL, "type", "(LCourierBags;C)I"⟩
abbrev cL_execute : ByteArray := method_39_code
def yL_execute : MethodName := ⟨RL, "execute", "(LCourierBags;)I"⟩
abbrev cL_errorPosition : ByteArray := method_40_code
def yL_errorPosition : MethodName := ⟨RL, "errorPosition", "(LCourierBags;)I"⟩
abbrev cL_failedCommand : ByteArray := method_41_code
def yL_failedCommand : MethodName := ⟨RL, "failedCommand", "(LCourierBags;)I"⟩
abbrev cL_undo : ByteArray := method_42_code
def yL_undo : MethodName := ⟨RL, "undo", "(LCourierBags;)I"⟩
abbrev cL_restore : ByteArray := method_43_code
def yL_restore : MethodName := ⟨RL, "restore", "(LCourierBags;)I"⟩
abbrev cL_runs : ByteArray := method_44_code
def yL_runs : MethodName := ⟨RL, "runs", "(LCourierBags;Ljava/lang/String;)I"⟩
abbrev cL_makes : ByteArray := method_47_code
def yL_makes : MethodName := ⟨RL, "makes", "(LCourierBags;[I)Z"⟩
abbrev cL_asks : ByteArray := method_48_code
def yL_asks : MethodName := ⟨RL, "asks", "(LCourierBags;)J"⟩
abbrev cL_changes : ByteArray := method_49_code
def yL_changes : MethodName := ⟨RL, "changes", "(LCourierBags;I)Z"⟩
abbrev cL_thrown : ByteArray := method_50_code
def yL_thrown : MethodName := ⟨RL, "thrown", "(LCourierBags;)Z"⟩
abbrev cL_law : ByteArray := code
def yL_law : MethodName := ⟨RL, "law", "([I)Z"⟩
abbrev vwCl : List vw_C := [(RJ0, TJ0, 4), (RJ4, TJ4, 4), (RJx00060, TJx00060, 6), (RJx7c733, TJx7c733, 6), (RX1, TX1, 7), (RX3, TX3, 2), (RX4, TX4, 8), (RX6, TX6, 7), (RX7, TX7, 12)]
/-! the words of every contract: all good ones of the tables; a contract's own code word goes first -/
/-- a private method of the class above -/
theorem sel_up {C : String} {x y : MethodName} {s : State} {args : Array Value} (h1 : (Cond.selects C x x).before args s = true) (hx : x.cls = y.cls) (hy : y.cls ≠ "java/lang/invoke/MethodHandle" ∧ y.cls ≠ "java/lang/invoke/VarHandle")
    (hpriv : (Cond.privateMethod y).before args s = true) (hinst : (Cond.instanceMethod y).before args s = true) : (Cond.selects C y y).before args s = true := by
  obtain ⟨mk, methM, hnamed, hmethM, -, -⟩ := Cond.instanceMethod_spec hinst
  have hfound : s.methodFound? y.cls y.name y.desc = some mk := State.methodFound?_of_named hnamed hy
  simp only [Cond.before, Cond.holds, Cond.value] at h1
  cases hc : s.vm.findClass C with
  | none => rw [hc] at h1; simp at h1
  | some c =>
    cases hr : s.methodFound? x.cls x.name x.desc with
    | none => rw [hc, hr] at h1; simp at h1
    | some r =>
      cases hm : s.methodNamed? x with
      | none => rw [hc, hr, hm] at h1; simp at h1
      | some m =>
        rw [hc, hr, hm] at h1
        have hcl : m.cls = mk.cls := by
          have e1 := findClass_of_methodNamed hm
          have e2 := findClass_of_methodNamed hnamed
          rw [hx, e2] at e1
          exact (Option.some.inj e1).symm
        have hni : ((s.vm.classes[mk.cls]?).any (fun k => !k.isInterface)) = true := by
          rw [← hcl]
          simp only [beq_iff_eq, Option.some.injEq] at h1
          split at h1
          · exact ((Bool.and_eq_true _ _).mp h1).2
          · exact Bool.noConfusion h1
        have hsel : selectMethod {} s.vm c mk = .method mk := selectMethod_private hmethM (Cond.privateMethod_at hpriv mk methM hnamed hmethM)
        simp only [Cond.before, Cond.holds, Cond.value, hc, hfound, hnamed, hsel]
        simp_all
/-- the builder's private methods, reached from the class below -/
def txx : List Cond := [.selects "java/lang/StringBuilder" yJ5_ensureCapacityInternal_d00df yJ5_ensureCapacityInternal_d00df, .selects "java/lang/StringBuilder" yJ5_newCapacity_0f7a4 yJ5_newCapacity_0f7a4, .selects "java/lang/StringBuilder" yJ5_putStringAt_47b60 yJ5_putStringAt_47b60, .selects "java/lang/StringBuilder" yJ5_inflateIfNeededFor_a7421 yJ5_inflateIfNeededFor_a7421]
def tb : List Cond := lw_tbl.filter goodWord ++ txx
theorem tbm {w : Cond} (i : Nat) (h : lw_tbl[i]? = some w) (g : goodWord w = true) : w ∈ tb := List.mem_append_left _ (List.mem_filter.mpr ⟨List.mem_of_getElem? h, g⟩)
theorem tb_all {args : Array Value} {s : State} (h : ∀ w ∈ lw_tbl, w.before args s = true) : ∀ w ∈ tb, w.before args s = true := by
  intro w hw
  rcases List.mem_append.mp hw with h1 | h1
  · exact h w (List.mem_filter.mp h1).1
  · have h0 : (Cond.selects "java/lang/StringBuilder" yJ5_isLatin1_aae02 yJ5_isLatin1_aae02).before args s = true := h _ (List.mem_of_getElem? (i := 1087) (by decide +kernel))
    simp only [txx, List.mem_cons, List.not_mem_nil, or_false] at h1
    rcases h1 with rfl | rfl | rfl | rfl
    · exact sel_up h0 rfl (by decide) (h _ (List.mem_of_getElem? (i := 1054) (by decide +kernel))) (h _ (List.mem_of_getElem? (i := 1055) (by decide +kernel)))
    · exact sel_up h0 rfl (by decide) (h _ (List.mem_of_getElem? (i := 1058) (by decide +kernel))) (h _ (List.mem_of_getElem? (i := 1059) (by decide +kernel)))
    · exact sel_up h0 rfl (by decide) (h _ (List.mem_of_getElem? (i := 1106) (by decide +kernel))) (h _ (List.mem_of_getElem? (i := 1107) (by decide +kernel)))
    · exact sel_up h0 rfl (by decide) (h _ (List.mem_of_getElem? (i := 1110) (by decide +kernel))) (h _ (List.mem_of_getElem? (i := 1111) (by decide +kernel)))
theorem g_tb {ws : List Cond} (h : ∀ w ∈ ws, w ∈ tb) : GoodIn tb ws := by
  intro w hw
  refine ⟨h w hw, ?_⟩
  rcases List.mem_append.mp (h w hw) with h1 | h1
  · exact good_of_word (List.mem_filter.mp h1).2
  · simp only [txx, List.mem_cons, List.not_mem_nil, or_false] at h1
    rcases h1 with rfl | rfl | rfl | rfl <;> exact Or.inl rfl
theorem kwx_0 : (.selects "java/lang/StringBuilder" yJ5_ensureCapacityInternal_d00df yJ5_ensureCapacityInternal_d00df : Cond) ∈ tb := List.mem_append_right _ (by simp [txx])
theorem kwx_1 : (.selects "java/lang/StringBuilder" yJ5_newCapacity_0f7a4 yJ5_newCapacity_0f7a4 : Cond) ∈ tb := List.mem_append_right _ (by simp [txx])
theorem kwx_2 : (.selects "java/lang/StringBuilder" yJ5_putStringAt_47b60 yJ5_putStringAt_47b60 : Cond) ∈ tb := List.mem_append_right _ (by simp [txx])
theorem kwx_3 : (.selects "java/lang/StringBuilder" yJ5_inflateIfNeededFor_a7421 yJ5_inflateIfNeededFor_a7421 : Cond) ∈ tb := List.mem_append_right _ (by simp [txx])
def wA (y : MethodName) (c : ByteArray) (n : Nat) (r : Option FieldType) : List Cond := .code y c n r :: tb
theorem gV {own C : String} {idx : Nat} {y : MethodName} {c : ByteArray} {n : Nat} {r : Option FieldType} (h1 : .methodLink own idx y ∈ tb) (h2 : .instanceMethod y ∈ tb) (h3 : .selects C y y ∈ tb) (h4 : .initialized C ∈ tb) (h5 : .code y c n r ∈ tb) : GoodIn tb (wsV own idx C y (wA y c n r)) := by
  refine g_tb (fun w hw => ?_)
  rcases List.mem_append.mp hw with h | h
  · simp only [List.mem_cons, List.not_mem_nil, or_false] at h
    rcases h with rfl | rfl | rfl | rfl
    · exact h1
    · exact h2
    · exact h3
    · exact h4
  · rcases List.mem_cons.mp h with rfl | h
    · exact h5
    · exact h
theorem gS {own : String} {idx : Nat} {y : MethodName} {c : ByteArray} {n : Nat} {r : Option FieldType} (h1 : .methodLink own idx y ∈ tb) (h2 : .static y ∈ tb) (h4 : .initialized y.cls ∈ tb) (h5 : .code y c n r ∈ tb) : GoodIn tb (va_wsS own idx y (wA y c n r)) := by
  refine g_tb (fun w hw => ?_)
  rcases List.mem_append.mp hw with h | h
  · simp only [List.mem_cons, List.not_mem_nil, or_false] at h
    rcases h with rfl | rfl | rfl
    · exact h1
    · exact h2
    · exact h4
  · rcases List.mem_cons.mp h with rfl | h
    · exact h5
    · exact h
theorem gI {y : MethodName} {c : ByteArray} {n : Nat} {r : Option FieldType} (h5 : .code y c n r ∈ tb) : GoodIn tb (wA y c n r) := by
  refine g_tb (fun w h => ?_)
  rcases List.mem_cons.mp h with rfl | h
  · exact h5
  · exact h
