def RX0 : String := "StubbornBridges$Bridge"
def TX0 : u_T := fun k => match k with
  | 0 => ("StubbornBridges$Bridge", "from", "I", false)
  | 1 => ("StubbornBridges$Bridge", "to", "I", false)
  | 2 => ("StubbornBridges$Bridge", "room", "I", false)
  | 3 => ("StubbornBridges$Bridge", "delay", "I", false)
  | 4 => ("StubbornBridges$Bridge", "pace", "I", false)
  | 5 => ("StubbornBridges$Bridge", "turns", "I", false)
  | 6 => ("StubbornBridges$Bridge", "came", "I", false)
  | 7 => ("StubbornBridges$Bridge", "lost", "I", false)
  | _ => ("StubbornBridges$Bridge", "carried", "I", false)
def tyX0 : Nat → FieldType := fun k => match k with
  | 0 => .int
  | 1 => .int
  | 2 => .int
  | 3 => .int
  | 4 => .int
  | 5 => .int
  | 6 => .int
  | 7 => .int
  | _ => .int
theorem nmX0 : ∀ a, a < 9 → ∀ b, b < 9 → a ≠ b → (TX0 a).2.1 ≠ (TX0 b).2.1 := by decide +kernel
theorem tyX0_ok : ∀ k, k < 9 → parseFieldDescriptor (TX0 k).2.2.1 = some (tyX0 k) := by decide +kernel
abbrev cX0_init : ByteArray := prog_2_method_1_code
def yX0_init : MethodName := ⟨RX0, "<init>", "()V"⟩
abbrev cX0_copyFrom : ByteArray := prog_2_method_2_code
def yX0_copyFrom : MethodName := ⟨RX0, "copyFrom", "(LStubbornBridges$Bridge;)V"⟩
abbrev cX0_bears : ByteArray := prog_2_method_3_code
def yX0_bears : MethodName := ⟨RX0, "bears", "(I)Z"⟩
abbrev cX0_longestPiece : ByteArray := prog_2_method_4_code
def yX0_longestPiece : MethodName := ⟨RX0, "longestPiece", "()I"⟩
abbrev cX0_fullPieces : ByteArray := prog_2_method_5_code
def yX0_fullPieces : MethodName := ⟨RX0, "fullPieces", "(I)I"⟩
abbrev cX0_ticksFor : ByteArray := prog_2_method_6_code
def yX0_ticksFor : MethodName := ⟨RX0, "ticksFor", "(I)I"⟩
abbrev cX0_loses : ByteArray := prog_2_method_7_code
def yX0_loses : MethodName := ⟨RX0, "loses", "()Z"⟩
abbrev cX0_tell : ByteArray := prog_2_method_8_code
def yX0_tell : MethodName := ⟨RX0, "tell", "(I)I"⟩
def RX1 : String := "StubbornBridges$History"
def TX1 : u_T := fun k => match k with
  | 0 => ("StubbornBridges$History", "states", "[LStubbornBridges$World;", true)
  | 1 => ("StubbornBridges$History", "oldest", "I", false)
  | _ => ("StubbornBridges$History", "kept", "I", false)
def tyX1 : Nat → FieldType := fun k => match k with
  | 0 => .array (.object "StubbornBridges$World")
  | 1 => .int
  | _ => .int
theorem nmX1 : ∀ a, a < 3 → ∀ b, b < 3 → a ≠ b → (TX1 a).2.1 ≠ (TX1 b).2.1 := by decide +kernel
theorem tyX1_ok : ∀ k, k < 3 → parseFieldDescriptor (TX1 k).2.2.1 = some (tyX1 k) := by decide +kernel
abbrev cX1_init : ByteArray := prog_3_method_1_code
def yX1_init : MethodName := ⟨RX1, "<init>", "()V"⟩
abbrev cX1_keep : ByteArray := prog_3_method_2_code
def yX1_keep : MethodName := ⟨RX1, "keep", "(LStubbornBridges$World;)V"⟩
abbrev cX1_bringBack : ByteArray := prog_3_method_3_code
def yX1_bringBack : MethodName := ⟨RX1, "bringBack", "(LStubbornBridges$World;)Z"⟩
abbrev cX1_stateAt : ByteArray := prog_3_method_4_code
def yX1_stateAt : MethodName := ⟨RX1, "stateAt", "(I)LStubbornBridges$World;"⟩
def RX2 : String := "StubbornBridges$Node"
def TX2 : u_T := fun k => match k with
  | 0 => ("StubbornBridges$Node", "way", "I", false)
  | 1 => ("StubbornBridges$Node", "timeOut", "I", false)
  | 2 => ("StubbornBridges$Node", "space", "I", false)
  | _ => ("StubbornBridges$Node", "routes", "[I", true)
def tyX2 : Nat → FieldType := fun k => match k with
  | 0 => .int
  | 1 => .int
  | 2 => .int
  | _ => .array .int
theorem nmX2 : ∀ a, a < 4 → ∀ b, b < 4 → a ≠ b → (TX2 a).2.1 ≠ (TX2 b).2.1 := by decide +kernel
theorem tyX2_ok : ∀ k, k < 4 → parseFieldDescriptor (TX2 k).2.2.1 = some (tyX2 k) := by decide +kernel
abbrev cX2_init : ByteArray := prog_4_method_1_code
def yX2_init : MethodName := ⟨RX2, "<init>", "()V"⟩
abbrev cX2_copyFrom : ByteArray := prog_4_method_2_code
def yX2_copyFrom : MethodName := ⟨RX2, "copyFrom", "(LStubbornBridges$Node;)V"⟩
abbrev cX2_tell : ByteArray := prog_4_method_3_code
def yX2_tell : MethodName := ⟨RX2, "tell", "(I)I"⟩
abbrev cX2_routeTo : ByteArray := prog_4_method_4_code
def yX2_routeTo : MethodName := ⟨RX2, "routeTo", "(I)I"⟩
def RX3 : String := "StubbornBridges$Pad"
def TX3 : u_T := fun k => match k with
  | 0 => ("StubbornBridges$Pad", "text", "[C", true)
  | 1 => ("StubbornBridges$Pad", "length", "I", false)
  | 2 => ("StubbornBridges$Pad", "at", "I", false)
  | 3 => ("StubbornBridges$Pad", "kind", "C", false)
  | 4 => ("StubbornBridges$Pad", "numbers", "[I", true)
  | _ => ("StubbornBridges$Pad", "marked", "Z", false)
def tyX3 : Nat → FieldType := fun k => match k with
  | 0 => .array .char
  | 1 => .int
  | 2 => .int
  | 3 => .char
  | 4 => .array .int
  | _ => .boolean
theorem nmX3 : ∀ a, a < 6 → ∀ b, b < 6 → a ≠ b → (TX3 a).2.1 ≠ (TX3 b).2.1 := by decide +kernel
theorem tyX3_ok : ∀ k, k < 6 → parseFieldDescriptor (TX3 k).2.2.1 = some (tyX3 k) := by decide +kernel
abbrev cX3_init : ByteArray := prog_5_method_1_code
def yX3_init : MethodName := ⟨RX3, "<init>", "()V"⟩
abbrev cX3_charactersIn : ByteArray := prog_5_method_2_code
def yX3_charactersIn : MethodName := ⟨RX3, "charactersIn", "(J)I"⟩
abbrev cX3_append : ByteArray := prog_5_method_3_code
def yX3_append : MethodName := ⟨RX3, "append", "(J)I"⟩
abbrev cX3_how : ByteArray := prog_5_method_4_code
def yX3_how : MethodName := ⟨RX3, "how", "()I"⟩
abbrev cX3_last : ByteArray := prog_5_method_5_code
def yX3_last : MethodName := ⟨RX3, "last", "()I"⟩
abbrev cX3_findFault : ByteArray := prog_5_method_6_code
def yX3_findFault : MethodName := ⟨RX3, "findFault", "()I"⟩
abbrev cX3_readOrder : ByteArray := prog_5_method_7_code
def yX3_readOrder : MethodName := ⟨RX3, "readOrder", "()Z"⟩
abbrev cX3_here : ByteArray := prog_5_method_8_code
def yX3_here : MethodName := ⟨RX3, "here", "()C"⟩
abbrev cX3_take : ByteArray := prog_5_method_9_code
def yX3_take : MethodName := ⟨RX3, "take", "(C)Z"⟩
abbrev cX3_readNode : ByteArray := prog_5_method_10_code
def yX3_readNode : MethodName := ⟨RX3, "readNode", "(I)Z"⟩
abbrev cX3_readNumber : ByteArray := prog_5_method_11_code
def yX3_readNumber : MethodName := ⟨RX3, "readNumber", "(I)Z"⟩
abbrev cX3_readMark : ByteArray := prog_5_method_12_code
def yX3_readMark : MethodName := ⟨RX3, "readMark", "(C)Z"⟩
def RX4 : String := "StubbornBridges$Parcel"
def TX4 : u_T := fun k => match k with
  | 0 => ("StubbornBridges$Parcel", "from", "I", false)
  | 1 => ("StubbornBridges$Parcel", "to", "I", false)
  | 2 => ("StubbornBridges$Parcel", "size", "I", false)
  | 3 => ("StubbornBridges$Parcel", "seed", "I", false)
  | 4 => ("StubbornBridges$Parcel", "hops", "I", false)
  | 5 => ("StubbornBridges$Parcel", "sum", "I", false)
  | 6 => ("StubbornBridges$Parcel", "mayBeCut", "Z", false)
  | 7 => ("StubbornBridges$Parcel", "state", "I", false)
  | 8 => ("StubbornBridges$Parcel", "times", "I", false)
  | 9 => ("StubbornBridges$Parcel", "lost", "I", false)
  | 10 => ("StubbornBridges$Parcel", "doneAt", "I", false)
  | 11 => ("StubbornBridges$Parcel", "there", "I", false)
  | 12 => ("StubbornBridges$Parcel", "firstPut", "I", false)
  | 13 => ("StubbornBridges$Parcel", "furthestEnd", "I", false)
  | 14 => ("StubbornBridges$Parcel", "whole", "I", false)
  | _ => ("StubbornBridges$Parcel", "cells", "[J", true)
def tyX4 : Nat → FieldType := fun k => match k with
  | 0 => .int
  | 1 => .int
  | 2 => .int
  | 3 => .int
  | 4 => .int
  | 5 => .int
  | 6 => .boolean
  | 7 => .int
  | 8 => .int
  | 9 => .int
  | 10 => .int
  | 11 => .int
  | 12 => .int
  | 13 => .int
  | 14 => .int
  | _ => .array .long
theorem nmX4 : ∀ a, a < 16 → ∀ b, b < 16 → a ≠ b → (TX4 a).2.1 ≠ (TX4 b).2.1 := by decide +kernel
theorem tyX4_ok : ∀ k, k < 16 → parseFieldDescriptor (TX4 k).2.2.1 = some (tyX4 k) := by decide +kernel
abbrev cX4_init : ByteArray := prog_6_method_1_code
def yX4_init : MethodName := ⟨RX4, "<init>", "()V"⟩
abbrev cX4_begin : ByteArray := prog_6_method_2_code
def yX4_begin : MethodName := ⟨RX4, "begin", "(IIIII)V"⟩
abbrev cX4_copyFrom : ByteArray := prog_6_method_3_code
def yX4_copyFrom : MethodName := ⟨RX4, "copyFrom", "(LStubbornBridges$Parcel;)V"⟩
abbrev cX4_cell : ByteArray := prog_6_method_4_code
def yX4_cell : MethodName := ⟨RX4, "cell", "(I)I"⟩
abbrev cX4_setCell : ByteArray := prog_6_method_5_code
def yX4_setCell : MethodName := ⟨RX4, "setCell", "(II)V"⟩
abbrev cX4_hasByte : ByteArray := prog_6_method_6_code
def yX4_hasByte : MethodName := ⟨RX4, "hasByte", "(I)Z"⟩
abbrev cX4_fits : ByteArray := prog_6_method_7_code
def yX4_fits : MethodName := ⟨RX4, "fits", "(LStubbornBridges$Slice;)Z"⟩
abbrev cX4_overlaps : ByteArray := prog_6_method_8_code
def yX4_overlaps : MethodName := ⟨RX4, "overlaps", "(LStubbornBridges$Slice;)Z"⟩
abbrev cX4_lay : ByteArray := prog_6_method_9_code
def yX4_lay : MethodName := ⟨RX4, "lay", "(LStubbornBridges$Slice;ZI)V"⟩
abbrev cX4_end : ByteArray := prog_6_method_10_code
def yX4_end : MethodName := ⟨RX4, "end", "(II)V"⟩
abbrev cX4_isComplete : ByteArray := prog_6_method_11_code
def yX4_isComplete : MethodName := ⟨RX4, "isComplete", "()Z"⟩
abbrev cX4_isAsSent : ByteArray := prog_6_method_12_code
def yX4_isAsSent : MethodName := ⟨RX4, "isAsSent", "()Z"⟩
abbrev cX4_firstMissing : ByteArray := prog_6_method_13_code
def yX4_firstMissing : MethodName := ⟨RX4, "firstMissing", "()I"⟩
abbrev cX4_lengthOfGap : ByteArray := prog_6_method_14_code
def yX4_lengthOfGap : MethodName := ⟨RX4, "lengthOfGap", "()I"⟩
abbrev cX4_tell : ByteArray := prog_6_method_15_code
def yX4_tell : MethodName := ⟨RX4, "tell", "(I)I"⟩
def RX5 : String := "StubbornBridges$Slice"
def TX5 : u_T := fun k => match k with
  | 0 => ("StubbornBridges$Slice", "parcel", "I", false)
  | 1 => ("StubbornBridges$Slice", "offset", "I", false)
  | 2 => ("StubbornBridges$Slice", "length", "I", false)
  | 3 => ("StubbornBridges$Slice", "hops", "I", false)
  | 4 => ("StubbornBridges$Slice", "seed", "I", false)
  | 5 => ("StubbornBridges$Slice", "last", "Z", false)
  | 6 => ("StubbornBridges$Slice", "node", "I", false)
  | 7 => ("StubbornBridges$Slice", "tick", "I", false)
  | _ => ("StubbornBridges$Slice", "gone", "Z", false)
def tyX5 : Nat → FieldType := fun k => match k with
  | 0 => .int
  | 1 => .int
  | 2 => .int
  | 3 => .int
  | 4 => .int
  | 5 => .boolean
  | 6 => .int
  | 7 => .int
  | _ => .boolean
theorem nmX5 : ∀ a, a < 9 → ∀ b, b < 9 → a ≠ b → (TX5 a).2.1 ≠ (TX5 b).2.1 := by decide +kernel
theorem tyX5_ok : ∀ k, k < 9 → parseFieldDescriptor (TX5 k).2.2.1 = some (tyX5 k) := by decide +kernel
abbrev cX5_init : ByteArray := prog_7_method_1_code
def yX5_init : MethodName := ⟨RX5, "<init>", "()V"⟩
abbrev cX5_begin : ByteArray := prog_7_method_2_code
def yX5_begin : MethodName := ⟨RX5, "begin", "(III)V"⟩
abbrev cX5_span : ByteArray := prog_7_method_3_code
def yX5_span : MethodName := ⟨RX5, "span", "(IIZ)V"⟩
abbrev cX5_arrive : ByteArray := prog_7_method_4_code
def yX5_arrive : MethodName := ⟨RX5, "arrive", "(II)V"⟩
abbrev cX5_copyFrom : ByteArray := prog_7_method_5_code
def yX5_copyFrom : MethodName := ⟨RX5, "copyFrom", "(LStubbornBridges$Slice;)V"⟩
def RX6 : String := "StubbornBridges$World"
def TX6 : u_T := fun k => match k with
  | 0 => ("StubbornBridges$World", "tick", "I", false)
  | 1 => ("StubbornBridges$World", "bridgeCount", "I", false)
  | 2 => ("StubbornBridges$World", "parcelCount", "I", false)
  | 3 => ("StubbornBridges$World", "nodes", "[LStubbornBridges$Node;", true)
  | 4 => ("StubbornBridges$World", "bridges", "[LStubbornBridges$Bridge;", true)
  | 5 => ("StubbornBridges$World", "parcels", "[LStubbornBridges$Parcel;", true)
  | 6 => ("StubbornBridges$World", "slices", "[LStubbornBridges$Slice;", true)
  | 7 => ("StubbornBridges$World", "listed", "I", false)
  | 8 => ("StubbornBridges$World", "underWay", "I", false)
  | 9 => ("StubbornBridges$World", "made", "I", false)
  | 10 => ("StubbornBridges$World", "cut", "I", false)
  | 11 => ("StubbornBridges$World", "joined", "I", false)
  | 12 => ("StubbornBridges$World", "dropped", "[I", true)
  | _ => ("StubbornBridges$World", "path", "[LStubbornBridges$Bridge;", true)
def tyX6 : Nat → FieldType := fun k => match k with
  | 0 => .int
  | 1 => .int
  | 2 => .int
  | 3 => .array (.object "StubbornBridges$Node")
  | 4 => .array (.object "StubbornBridges$Bridge")
  | 5 => .array (.object "StubbornBridges$Parcel")
  | 6 => .array (.object "StubbornBridges$Slice")
  | 7 => .int
  | 8 => .int
  | 9 => .int
  | 10 => .int
  | 11 => .int
  | 12 => .array .int
  | _ => .array (.object "StubbornBridges$Bridge")
theorem nmX6 : ∀ a, a < 14 → ∀ b, b < 14 → a ≠ b → (TX6 a).2.1 ≠ (TX6 b).2.1 := by decide +kernel
theorem tyX6_ok : ∀ k, k < 14 → parseFieldDescriptor (TX6 k).2.2.1 = some (tyX6 k) := by decide +kernel
abbrev cX6_init : ByteArray := prog_8_method_1_code
def yX6_init : MethodName := ⟨RX6, "<init>", "()V"⟩
abbrev cX6_copyFrom : ByteArray := prog_8_method_2_code
def yX6_copyFrom : MethodName := ⟨RX6, "copyFrom", "(LStubbornBridges$World;)V"⟩
abbrev cX6_nodeAt : ByteArray := prog_8_method_3_code
def yX6_nodeAt : MethodName := ⟨RX6, "nodeAt", "(I)LStubbornBridges$Node;"⟩
abbrev cX6_bridgeAt : ByteArray := prog_8_method_4_code
def yX6_bridgeAt : MethodName := ⟨RX6, "bridgeAt", "(I)LStubbornBridges$Bridge;"⟩
abbrev cX6_parcelAt : ByteArray := prog_8_method_5_code
def yX6_parcelAt : MethodName := ⟨RX6, "parcelAt", "(I)LStubbornBridges$Parcel;"⟩
abbrev cX6_sendParcel : ByteArray := prog_8_method_6_code
def yX6_sendParcel : MethodName := ⟨RX6, "sendParcel", "(IIIIILStubbornBridges$History;)I"⟩
abbrev cX6_sendAgain : ByteArray := prog_8_method_7_code
def yX6_sendAgain : MethodName := ⟨RX6, "sendAgain", "(ILStubbornBridges$History;)I"⟩
abbrev cX6_forgeSlice : ByteArray := prog_8_method_8_code
def yX6_forgeSlice : MethodName := ⟨RX6, "forgeSlice", "(IIIIILStubbornBridges$History;)I"⟩
abbrev cX6_keepIn : ByteArray := prog_8_method_9_code
def yX6_keepIn : MethodName := ⟨RX6, "keepIn", "(LStubbornBridges$History;)V"⟩
abbrev cX6_launch : ByteArray := prog_8_method_10_code
def yX6_launch : MethodName := ⟨RX6, "launch", "(LStubbornBridges$Slice;ILStubbornBridges$Parcel;)V"⟩
abbrev cX6_freeSlice : ByteArray := prog_8_method_11_code
def yX6_freeSlice : MethodName := ⟨RX6, "freeSlice", "()LStubbornBridges$Slice;"⟩
abbrev cX6_isFull : ByteArray := prog_8_method_12_code
def yX6_isFull : MethodName := ⟨RX6, "isFull", "()Z"⟩
abbrev cX6_countNew : ByteArray := prog_8_method_13_code
def yX6_countNew : MethodName := ⟨RX6, "countNew", "()V"⟩
abbrev cX6_obey : ByteArray := prog_8_method_14_code
def yX6_obey : MethodName := ⟨RX6, "obey", "(LStubbornBridges$Pad;)Z"⟩
abbrev cX6_pass : ByteArray := prog_8_method_15_code
def yX6_pass : MethodName := ⟨RX6, "pass", "(I)V"⟩
abbrev cX6_nextEvent : ByteArray := prog_8_method_16_code
def yX6_nextEvent : MethodName := ⟨RX6, "nextEvent", "(I)I"⟩
abbrev cX6_overdueAt : ByteArray := prog_8_method_17_code
def yX6_overdueAt : MethodName := ⟨RX6, "overdueAt", "(LStubbornBridges$Parcel;)I"⟩
abbrev cX6_treat : ByteArray := prog_8_method_18_code
def yX6_treat : MethodName := ⟨RX6, "treat", "(LStubbornBridges$Slice;)V"⟩
abbrev cX6_cutUp : ByteArray := prog_8_method_19_code
def yX6_cutUp : MethodName := ⟨RX6, "cutUp", "(LStubbornBridges$Slice;LStubbornBridges$Parcel;LStubbornBridges$Bridge;)V"⟩
abbrev cX6_goOn : ByteArray := prog_8_method_20_code
def yX6_goOn : MethodName := ⟨RX6, "goOn", "(LStubbornBridges$Slice;LStubbornBridges$Parcel;LStubbornBridges$Bridge;)V"⟩
abbrev cX6_drop : ByteArray := prog_8_method_21_code
def yX6_drop : MethodName := ⟨RX6, "drop", "(LStubbornBridges$Slice;LStubbornBridges$Parcel;I)V"⟩
abbrev cX6_join : ByteArray := prog_8_method_22_code
def yX6_join : MethodName := ⟨RX6, "join", "(LStubbornBridges$Slice;LStubbornBridges$Parcel;LStubbornBridges$Node;)V"⟩
abbrev cX6_keepToSpace : ByteArray := prog_8_method_23_code
def yX6_keepToSpace : MethodName := ⟨RX6, "keepToSpace", "(II)V"⟩
abbrev cX6_eldestAtNode : ByteArray := prog_8_method_24_code
def yX6_eldestAtNode : MethodName := ⟨RX6, "eldestAtNode", "(I)LStubbornBridges$Parcel;"⟩
abbrev cX6_giveUpOverdue : ByteArray := prog_8_method_25_code
def yX6_giveUpOverdue : MethodName := ⟨RX6, "giveUpOverdue", "()V"⟩
abbrev cX6_closeRanks : ByteArray := prog_8_method_26_code
def yX6_closeRanks : MethodName := ⟨RX6, "closeRanks", "()V"⟩
abbrev cX6_bytesAtNode : ByteArray := prog_8_method_27_code
def yX6_bytesAtNode : MethodName := ⟨RX6, "bytesAtNode", "(I)I"⟩
abbrev cX6_parcelsAtNode : ByteArray := prog_8_method_28_code
def yX6_parcelsAtNode : MethodName := ⟨RX6, "parcelsAtNode", "(I)I"⟩
abbrev cX6_slicesUnderWay : ByteArray := prog_8_method_29_code
def yX6_slicesUnderWay : MethodName := ⟨RX6, "slicesUnderWay", "(I)I"⟩
abbrev cX6_tell : ByteArray := prog_8_method_30_code
def yX6_tell : MethodName := ⟨RX6, "tell", "(I)I"⟩
abbrev cX6_nextArrival : ByteArray := prog_8_method_31_code
def yX6_nextArrival : MethodName := ⟨RX6, "nextArrival", "()I"⟩
abbrev cX6_parcelsInState : ByteArray := prog_8_method_32_code
def yX6_parcelsInState : MethodName := ⟨RX6, "parcelsInState", "(I)I"⟩
abbrev cX6_findPath : ByteArray := prog_8_method_33_code
def yX6_findPath : MethodName := ⟨RX6, "findPath", "(II)I"⟩
def RX7 : String := "StubbornBridges"
def TX7 : u_T := fun k => match k with
  | 0 => ("StubbornBridges", "live", "LStubbornBridges$World;", true)
  | 1 => ("StubbornBridges", "forecast", "LStubbornBridges$World;", true)
  | 2 => ("StubbornBridges", "history", "LStubbornBridges$History;", true)
  | 3 => ("StubbornBridges", "slots", "[LStubbornBridges$World;", true)
  | 4 => ("StubbornBridges", "saved", "[Z", true)
  | _ => ("StubbornBridges", "pad", "LStubbornBridges$Pad;", true)
def tyX7 : Nat → FieldType := fun k => match k with
  | 0 => .object "StubbornBridges$World"
  | 1 => .object "StubbornBridges$World"
  | 2 => .object "StubbornBridges$History"
  | 3 => .array (.object "StubbornBridges$World")
  | 4 => .array .boolean
  | _ => .object "StubbornBridges$Pad"
theorem nmX7 : ∀ a, a < 6 → ∀ b, b < 6 → a ≠ b → (TX7 a).2.1 ≠ (TX7 b).2.1 := by decide +kernel
theorem tyX7_ok : ∀ k, k < 6 → parseFieldDescriptor (TX7 k).2.2.1 = some (tyX7 k) := by decide +kernel
abbrev cX7_init : ByteArray := prog_1_method_1_code
def yX7_init : MethodName := ⟨RX7, "<init>", "()V"⟩
abbrev cX7_node : ByteArray := prog_1_method_2_code
def yX7_node : MethodName := ⟨RX7, "node", "(IIII)I"⟩
abbrev cX7_bridge : ByteArray := prog_1_method_3_code
def yX7_bridge : MethodName := ⟨RX7, "bridge", "(IIIII)I"⟩
abbrev cX7_mend : ByteArray := prog_1_method_4_code
def yX7_mend : MethodName := ⟨RX7, "mend", "(III)I"⟩
abbrev cX7_route : ByteArray := prog_1_method_5_code
def yX7_route : MethodName := ⟨RX7, "route", "(III)I"⟩
abbrev cX7_send : ByteArray := prog_1_method_6_code
def yX7_send : MethodName := ⟨RX7, "send", "(IIIII)I"⟩
abbrev cX7_resend : ByteArray := prog_1_method_7_code
def yX7_resend : MethodName := ⟨RX7, "resend", "(I)I"⟩
abbrev cX7_forge : ByteArray := prog_1_method_8_code
def yX7_forge : MethodName := ⟨RX7, "forge", "(IIIII)I"⟩
abbrev cX7_ticks : ByteArray := prog_1_method_9_code
def yX7_ticks : MethodName := ⟨RX7, "ticks", "(I)I"⟩
abbrev cX7_ofNode : ByteArray := prog_1_method_10_code
def yX7_ofNode : MethodName := ⟨RX7, "ofNode", "(II)I"⟩
abbrev cX7_ofBridge : ByteArray := prog_1_method_11_code
def yX7_ofBridge : MethodName := ⟨RX7, "ofBridge", "(II)I"⟩
abbrev cX7_ofParcel : ByteArray := prog_1_method_12_code
def yX7_ofParcel : MethodName := ⟨RX7, "ofParcel", "(II)I"⟩
abbrev cX7_byteAt : ByteArray := prog_1_method_13_code
def yX7_byteAt : MethodName := ⟨RX7, "byteAt", "(II)I"⟩
abbrev cX7_count : ByteArray := prog_1_method_14_code
def yX7_count : MethodName := ⟨RX7, "count", "(I)I"⟩
abbrev cX7_leastRoom : ByteArray := prog_1_method_15_code
def yX7_leastRoom : MethodName := ⟨RX7, "leastRoom", "(II)I"⟩
abbrev cX7_slices : ByteArray := prog_1_method_16_code
def yX7_slices : MethodName := ⟨RX7, "slices", "(III)I"⟩
abbrev cX7_time : ByteArray := prog_1_method_17_code
def yX7_time : MethodName := ⟨RX7, "time", "(III)I"⟩
abbrev cX7_stateIn : ByteArray := prog_1_method_18_code
def yX7_stateIn : MethodName := ⟨RX7, "stateIn", "(II)I"⟩
abbrev cX7_doneIn : ByteArray := prog_1_method_19_code
def yX7_doneIn : MethodName := ⟨RX7, "doneIn", "(I)I"⟩
abbrev cX7_gap : ByteArray := prog_1_method_20_code
def yX7_gap : MethodName := ⟨RX7, "gap", "(II)I"⟩
abbrev cX7_put : ByteArray := prog_1_method_21_code
def yX7_put : MethodName := ⟨RX7, "put", "(J)I"⟩
abbrev cX7_wipe : ByteArray := prog_1_method_22_code
def yX7_wipe : MethodName := ⟨RX7, "wipe", "()I"⟩
abbrev cX7_fault : ByteArray := prog_1_method_23_code
def yX7_fault : MethodName := ⟨RX7, "fault", "()I"⟩
abbrev cX7_carryOut : ByteArray := prog_1_method_24_code
def yX7_carryOut : MethodName := ⟨RX7, "carryOut", "()I"⟩
abbrev cX7_undo : ByteArray := prog_1_method_25_code
def yX7_undo : MethodName := ⟨RX7, "undo", "()I"⟩
abbrev cX7_save : ByteArray := prog_1_method_26_code
def yX7_save : MethodName := ⟨RX7, "save", "(I)I"⟩
abbrev cX7_restore : ByteArray := prog_1_method_27_code
def yX7_restore : MethodName := ⟨RX7, "restore", "(I)I"⟩
abbrev cX7_isWithin : ByteArray := prog_1_method_28_code
def yX7_isWithin : MethodName := ⟨RX7, "isWithin", "(III)Z"⟩
abbrev cX7_isPair : ByteArray := prog_1_method_29_code
def yX7_isPair : MethodName := ⟨RX7, "isPair", "(II)Z"⟩
abbrev cX7_isRoom : ByteArray := prog_1_method_30_code
def yX7_isRoom : MethodName := ⟨RX7, "isRoom", "(I)Z"⟩
abbrev cX7_isTicks : ByteArray := prog_1_method_31_code
def yX7_isTicks : MethodName := ⟨RX7, "isTicks", "(I)Z"⟩
abbrev cX7_byteOf : ByteArray := prog_1_method_32_code
def yX7_byteOf : MethodName := ⟨RX7, "byteOf", "(II)I"⟩
abbrev cX7_foresee : ByteArray := prog_1_method_33_code
def yX7_foresee : MethodName := ⟨RX7, "foresee", "(II)LStubbornBridges$Parcel;"⟩
abbrev cX7_slicesBehind : ByteArray := prog_1_method_34_code
def yX7_slicesBehind : MethodName := ⟨RX7, "slicesBehind", "([LStubbornBridges$Bridge;III)I"⟩
abbrev cX7_ticksBehind : ByteArray := prog_1_method_35_code
def yX7_ticksBehind : MethodName := ⟨RX7, "ticksBehind", "([LStubbornBridges$Bridge;III)I"⟩
def RX8 : String := "StubbornBridgesModel"
def TX8 : u_T := fun k => match k with
  | 0 => ("StubbornBridgesModel", "at", "[I", true)
  | 1 => ("StubbornBridgesModel", "there", "[I", true)
  | 2 => ("StubbornBridgesModel", "past", "[I", true)
  | 3 => ("StubbornBridgesModel", "pastThere", "[I", true)
  | 4 => ("StubbornBridgesModel", "pastFirst", "I", false)
  | 5 => ("StubbornBridgesModel", "pastMany", "I", false)
  | 6 => ("StubbornBridgesModel", "slots", "[I", true)
  | 7 => ("StubbornBridgesModel", "slotsThere", "[I", true)
  | 8 => ("StubbornBridgesModel", "isSaved", "[Z", true)
  | 9 => ("StubbornBridgesModel", "aside", "[I", true)
  | 10 => ("StubbornBridgesModel", "asideThere", "[I", true)
  | 11 => ("StubbornBridgesModel", "pad", "[I", true)
  | 12 => ("StubbornBridgesModel", "padMany", "I", false)
  | 13 => ("StubbornBridgesModel", "along", "[I", true)
  | 14 => ("StubbornBridgesModel", "alongMany", "I", false)
  | 15 => ("StubbornBridgesModel", "lengths", "[I", true)
  | 16 => ("StubbornBridgesModel", "times", "[I", true)
  | 17 => ("StubbornBridgesModel", "cutLengths", "[I", true)
  | 18 => ("StubbornBridgesModel", "cutTimes", "[I", true)
  | 19 => ("StubbornBridgesModel", "pieces", "I", false)
  | 20 => ("StubbornBridgesModel", "spot", "I", false)
  | 21 => ("StubbornBridgesModel", "isWrong", "Z", false)
  | 22 => ("StubbornBridgesModel", "orders", "I", false)
  | 23 => ("StubbornBridgesModel", "sort", "[I", true)
  | _ => ("StubbornBridgesModel", "numbers", "[I", true)
def tyX8 : Nat → FieldType := fun k => match k with
  | 0 => .array .int
  | 1 => .array .int
  | 2 => .array .int
  | 3 => .array .int
  | 4 => .int
  | 5 => .int
  | 6 => .array .int
  | 7 => .array .int
  | 8 => .array .boolean
  | 9 => .array .int
  | 10 => .array .int
  | 11 => .array .int
  | 12 => .int
  | 13 => .array .int
  | 14 => .int
  | 15 => .array .int
  | 16 => .array .int
  | 17 => .array .int
  | 18 => .array .int
  | 19 => .int
  | 20 => .int
  | 21 => .boolean
  | 22 => .int
  | 23 => .array .int
  | _ => .array .int
theorem nmX8 : ∀ a, a < 25 → ∀ b, b < 25 → a ≠ b → (TX8 a).2.1 ≠ (TX8 b).2.1 := by decide +kernel
theorem tyX8_ok : ∀ k, k < 25 → parseFieldDescriptor (TX8 k).2.2.1 = some (tyX8 k) := by decide +kernel
abbrev cX8_init : ByteArray := prog_10_method_1_code
def yX8_init : MethodName := ⟨RX8, "<init>", "()V"⟩
abbrev cX8_in : ByteArray := prog_10_method_3_code
def yX8_in : MethodName := ⟨RX8, "in", "(III)Z"⟩
abbrev cX8_ofN : ByteArray := prog_10_method_4_code
def yX8_ofN : MethodName := ⟨RX8, "ofN", "(II)I"⟩
abbrev cX8_ofB : ByteArray := prog_10_method_5_code
def yX8_ofB : MethodName := ⟨RX8, "ofB", "(II)I"⟩
abbrev cX8_ofP : ByteArray := prog_10_method_6_code
def yX8_ofP : MethodName := ⟨RX8, "ofP", "(II)I"⟩
abbrev cX8_layP : ByteArray := prog_10_method_7_code
def yX8_layP : MethodName := ⟨RX8, "layP", "(III)V"⟩
abbrev cX8_ofS : ByteArray := prog_10_method_8_code
def yX8_ofS : MethodName := ⟨RX8, "ofS", "(II)I"⟩
abbrev cX8_layS : ByteArray := prog_10_method_9_code
def yX8_layS : MethodName := ⟨RX8, "layS", "(III)V"⟩
abbrev cX8_isNode : ByteArray := prog_10_method_10_code
def yX8_isNode : MethodName := ⟨RX8, "isNode", "(I)Z"⟩
abbrev cX8_isBridge : ByteArray := prog_10_method_11_code
def yX8_isBridge : MethodName := ⟨RX8, "isBridge", "(I)Z"⟩
abbrev cX8_isParcel : ByteArray := prog_10_method_12_code
def yX8_isParcel : MethodName := ⟨RX8, "isParcel", "(I)Z"⟩
abbrev cX8_areNodes : ByteArray := prog_10_method_13_code
def yX8_areNodes : MethodName := ⟨RX8, "areNodes", "(II)Z"⟩
abbrev cX8_bytesNow : ByteArray := prog_10_method_14_code
def yX8_bytesNow : MethodName := ⟨RX8, "bytesNow", "()I"⟩
abbrev cX8_keep : ByteArray := prog_10_method_15_code
def yX8_keep : MethodName := ⟨RX8, "keep", "()V"⟩
abbrev cX8_keepIf : ByteArray := prog_10_method_16_code
def yX8_keepIf : MethodName := ⟨RX8, "keepIf", "(Z)V"⟩
abbrev cX8_layAside : ByteArray := prog_10_method_17_code
def yX8_layAside : MethodName := ⟨RX8, "layAside", "()V"⟩
abbrev cX8_layBack : ByteArray := prog_10_method_18_code
def yX8_layBack : MethodName := ⟨RX8, "layBack", "()V"⟩
abbrev cX8_node : ByteArray := prog_10_method_19_code
def yX8_node : MethodName := ⟨RX8, "node", "(IIII)I"⟩
abbrev cX8_bridge : ByteArray := prog_10_method_20_code
def yX8_bridge : MethodName := ⟨RX8, "bridge", "(IIIII)I"⟩
abbrev cX8_mend : ByteArray := prog_10_method_21_code
def yX8_mend : MethodName := ⟨RX8, "mend", "(III)I"⟩
abbrev cX8_route : ByteArray := prog_10_method_22_code
def yX8_route : MethodName := ⟨RX8, "route", "(III)I"⟩
abbrev cX8_makeSlice : ByteArray := prog_10_method_23_code
def yX8_makeSlice : MethodName := ⟨RX8, "makeSlice", "(IIIIIII)V"⟩
abbrev cX8_removeSlice : ByteArray := prog_10_method_24_code
def yX8_removeSlice : MethodName := ⟨RX8, "removeSlice", "(I)V"⟩
abbrev cX8_countDrop : ByteArray := prog_10_method_25_code
def yX8_countDrop : MethodName := ⟨RX8, "countDrop", "(II)V"⟩
abbrev cX8_drop : ByteArray := prog_10_method_26_code
def yX8_drop : MethodName := ⟨RX8, "drop", "(II)V"⟩
abbrev cX8_trySend : ByteArray := prog_10_method_27_code
def yX8_trySend : MethodName := ⟨RX8, "trySend", "(IIIIIZ)I"⟩
abbrev cX8_send : ByteArray := prog_10_method_28_code
def yX8_send : MethodName := ⟨RX8, "send", "(IIIII)I"⟩
abbrev cX8_tryResend : ByteArray := prog_10_method_29_code
def yX8_tryResend : MethodName := ⟨RX8, "tryResend", "(IZ)I"⟩
abbrev cX8_resend : ByteArray := prog_10_method_30_code
def yX8_resend : MethodName := ⟨RX8, "resend", "(I)I"⟩
abbrev cX8_tryForge : ByteArray := prog_10_method_31_code
def yX8_tryForge : MethodName := ⟨RX8, "tryForge", "(IIIIIZ)I"⟩
abbrev cX8_forge : ByteArray := prog_10_method_32_code
def yX8_forge : MethodName := ⟨RX8, "forge", "(IIIII)I"⟩
abbrev cX8_byteOf : ByteArray := prog_10_method_33_code
def yX8_byteOf : MethodName := ⟨RX8, "byteOf", "(II)I"⟩
abbrev cX8_sumOf : ByteArray := prog_10_method_34_code
def yX8_sumOf : MethodName := ⟨RX8, "sumOf", "(II)I"⟩
abbrev cX8_end : ByteArray := prog_10_method_35_code
def yX8_end : MethodName := ⟨RX8, "end", "(II)V"⟩
abbrev cX8_isAnyThere : ByteArray := prog_10_method_36_code
def yX8_isAnyThere : MethodName := ⟨RX8, "isAnyThere", "(III)Z"⟩
abbrev cX8_isWrongSlice : ByteArray := prog_10_method_37_code
def yX8_isWrongSlice : MethodName := ⟨RX8, "isWrongSlice", "(IIZ)Z"⟩
abbrev cX8_bytesAt : ByteArray := prog_10_method_38_code
def yX8_bytesAt : MethodName := ⟨RX8, "bytesAt", "(I)I"⟩
abbrev cX8_makeSpace : ByteArray := prog_10_method_39_code
def yX8_makeSpace : MethodName := ⟨RX8, "makeSpace", "(I)V"⟩
abbrev cX8_finishIfAll : ByteArray := prog_10_method_40_code
def yX8_finishIfAll : MethodName := ⟨RX8, "finishIfAll", "(I)V"⟩
abbrev cX8_layBytes : ByteArray := prog_10_method_41_code
def yX8_layBytes : MethodName := ⟨RX8, "layBytes", "(IIIIZ)V"⟩
abbrev cX8_putSlice : ByteArray := prog_10_method_42_code
def yX8_putSlice : MethodName := ⟨RX8, "putSlice", "(I)V"⟩
abbrev cX8_takes : ByteArray := prog_10_method_43_code
def yX8_takes : MethodName := ⟨RX8, "takes", "(II)Z"⟩
abbrev cX8_goOn : ByteArray := prog_10_method_44_code
def yX8_goOn : MethodName := ⟨RX8, "goOn", "(II)V"⟩
abbrev cX8_cut : ByteArray := prog_10_method_45_code
def yX8_cut : MethodName := ⟨RX8, "cut", "(II)V"⟩
abbrev cX8_isStill : ByteArray := prog_10_method_46_code
def yX8_isStill : MethodName := ⟨RX8, "isStill", "(I)Z"⟩
abbrev cX8_passTick : ByteArray := prog_10_method_47_code
def yX8_passTick : MethodName := ⟨RX8, "passTick", "()V"⟩
abbrev cX8_tryTicks : ByteArray := prog_10_method_48_code
def yX8_tryTicks : MethodName := ⟨RX8, "tryTicks", "(IZ)I"⟩
abbrev cX8_ticks : ByteArray := prog_10_method_49_code
def yX8_ticks : MethodName := ⟨RX8, "ticks", "(I)I"⟩
abbrev cX8_parcelsAt : ByteArray := prog_10_method_50_code
def yX8_parcelsAt : MethodName := ⟨RX8, "parcelsAt", "(I)I"⟩
abbrev cX8_ofNode : ByteArray := prog_10_method_51_code
def yX8_ofNode : MethodName := ⟨RX8, "ofNode", "(II)I"⟩
abbrev cX8_ofBridge : ByteArray := prog_10_method_52_code
def yX8_ofBridge : MethodName := ⟨RX8, "ofBridge", "(II)I"⟩
abbrev cX8_slicesOf : ByteArray := prog_10_method_53_code
def yX8_slicesOf : MethodName := ⟨RX8, "slicesOf", "(I)I"⟩
abbrev cX8_firstMissing : ByteArray := prog_10_method_54_code
def yX8_firstMissing : MethodName := ⟨RX8, "firstMissing", "(I)I"⟩
abbrev cX8_ofParcel : ByteArray := prog_10_method_55_code
def yX8_ofParcel : MethodName := ⟨RX8, "ofParcel", "(II)I"⟩
abbrev cX8_byteAt : ByteArray := prog_10_method_56_code
def yX8_byteAt : MethodName := ⟨RX8, "byteAt", "(II)I"⟩
abbrev cX8_nextArrival : ByteArray := prog_10_method_57_code
def yX8_nextArrival : MethodName := ⟨RX8, "nextArrival", "()I"⟩
abbrev cX8_parcelsIn : ByteArray := prog_10_method_58_code
def yX8_parcelsIn : MethodName := ⟨RX8, "parcelsIn", "(I)I"⟩
abbrev cX8_count : ByteArray := prog_10_method_59_code
def yX8_count : MethodName := ⟨RX8, "count", "(I)I"⟩
abbrev cX8_findRoute : ByteArray := prog_10_method_60_code
def yX8_findRoute : MethodName := ⟨RX8, "findRoute", "(II)Z"⟩
abbrev cX8_leastRoom : ByteArray := prog_10_method_61_code
def yX8_leastRoom : MethodName := ⟨RX8, "leastRoom", "(II)I"⟩
abbrev cX8_goOver : ByteArray := prog_10_method_62_code
def yX8_goOver : MethodName := ⟨RX8, "goOver", "(I)V"⟩
abbrev cX8_goAll : ByteArray := prog_10_method_63_code
def yX8_goAll : MethodName := ⟨RX8, "goAll", "(III)Z"⟩
abbrev cX8_slices : ByteArray := prog_10_method_64_code
def yX8_slices : MethodName := ⟨RX8, "slices", "(III)I"⟩
abbrev cX8_time : ByteArray := prog_10_method_65_code
def yX8_time : MethodName := ⟨RX8, "time", "(III)I"⟩
abbrev cX8_stateIn : ByteArray := prog_10_method_66_code
def yX8_stateIn : MethodName := ⟨RX8, "stateIn", "(II)I"⟩
abbrev cX8_doneIn : ByteArray := prog_10_method_67_code
def yX8_doneIn : MethodName := ⟨RX8, "doneIn", "(I)I"⟩
abbrev cX8_gap : ByteArray := prog_10_method_68_code
def yX8_gap : MethodName := ⟨RX8, "gap", "(II)I"⟩
abbrev cX8_put : ByteArray := prog_10_method_69_code
def yX8_put : MethodName := ⟨RX8, "put", "(J)I"⟩
abbrev cX8_wipe : ByteArray := prog_10_method_70_code
def yX8_wipe : MethodName := ⟨RX8, "wipe", "()I"⟩
abbrev cX8_next : ByteArray := prog_10_method_71_code
def yX8_next : MethodName := ⟨RX8, "next", "()I"⟩
abbrev cX8_takeSign : ByteArray := prog_10_method_72_code
def yX8_takeSign : MethodName := ⟨RX8, "takeSign", "(I)V"⟩
abbrev cX8_takeOne : ByteArray := prog_10_method_73_code
def yX8_takeOne : MethodName := ⟨RX8, "takeOne", "(II)V"⟩
abbrev cX8_takeNumber : ByteArray := prog_10_method_74_code
def yX8_takeNumber : MethodName := ⟨RX8, "takeNumber", "(I)V"⟩
abbrev cX8_takeIf : ByteArray := prog_10_method_75_code
def yX8_takeIf : MethodName := ⟨RX8, "takeIf", "(II)V"⟩
abbrev cX8_takeOrder : ByteArray := prog_10_method_76_code
def yX8_takeOrder : MethodName := ⟨RX8, "takeOrder", "()V"⟩
abbrev cX8_fault : ByteArray := prog_10_method_77_code
def yX8_fault : MethodName := ⟨RX8, "fault", "()I"⟩
abbrev cX8_carry : ByteArray := prog_10_method_78_code
def yX8_carry : MethodName := ⟨RX8, "carry", "(I)I"⟩
abbrev cX8_carryOut : ByteArray := prog_10_method_79_code
def yX8_carryOut : MethodName := ⟨RX8, "carryOut", "()I"⟩
abbrev cX8_undo : ByteArray := prog_10_method_80_code
def yX8_undo : MethodName := ⟨RX8, "undo", "()I"⟩
abbrev cX8_save : ByteArray := prog_10_method_81_code
def yX8_save : MethodName := ⟨RX8, "save", "(I)I"⟩
abbrev cX8_restore : ByteArray := prog_10_method_82_code
def yX8_restore : MethodName := ⟨RX8, "restore", "(I)I"⟩
def RL : String := "StubbornBridgesLaw"
abbrev cL_law : ByteArray := code
def yL_law : MethodName := ⟨RL, "law", "([I)Z"⟩

abbrev PI : Type := MethodName × ByteArray × Nat × Option FieldType
def iX0_init : PI := (yX0_init, cX0_init, 1, (Option.none : Option FieldType))
def iX0_copyFrom : PI := (yX0_copyFrom, cX0_copyFrom, 2, (Option.none : Option FieldType))
def iX0_bears : PI := (yX0_bears, cX0_bears, 2, (Option.some FieldType.boolean))
def iX0_longestPiece : PI := (yX0_longestPiece, cX0_longestPiece, 1, (Option.some FieldType.int))
def iX0_fullPieces : PI := (yX0_fullPieces, cX0_fullPieces, 2, (Option.some FieldType.int))
def iX0_ticksFor : PI := (yX0_ticksFor, cX0_ticksFor, 2, (Option.some FieldType.int))
def iX0_loses : PI := (yX0_loses, cX0_loses, 1, (Option.some FieldType.boolean))
def iX0_tell : PI := (yX0_tell, cX0_tell, 2, (Option.some FieldType.int))
def iX1_init : PI := (yX1_init, cX1_init, 2, (Option.none : Option FieldType))
def iX1_keep : PI := (yX1_keep, cX1_keep, 2, (Option.none : Option FieldType))
def iX1_bringBack : PI := (yX1_bringBack, cX1_bringBack, 2, (Option.some FieldType.boolean))
def iX1_stateAt : PI := (yX1_stateAt, cX1_stateAt, 2, (Option.some (FieldType.object "StubbornBridges$World")))
def iX2_init : PI := (yX2_init, cX2_init, 2, (Option.none : Option FieldType))
def iX2_copyFrom : PI := (yX2_copyFrom, cX2_copyFrom, 2, (Option.none : Option FieldType))
def iX2_tell : PI := (yX2_tell, cX2_tell, 2, (Option.some FieldType.int))
def iX2_routeTo : PI := (yX2_routeTo, cX2_routeTo, 2, (Option.some FieldType.int))
def iX3_init : PI := (yX3_init, cX3_init, 1, (Option.none : Option FieldType))
def iX3_charactersIn : PI := (yX3_charactersIn, cX3_charactersIn, 6, (Option.some FieldType.int))
def iX3_append : PI := (yX3_append, cX3_append, 5, (Option.some FieldType.int))
def iX3_how : PI := (yX3_how, cX3_how, 1, (Option.some FieldType.int))
def iX3_last : PI := (yX3_last, cX3_last, 1, (Option.some FieldType.int))
def iX3_findFault : PI := (yX3_findFault, cX3_findFault, 2, (Option.some FieldType.int))
def iX3_readOrder : PI := (yX3_readOrder, cX3_readOrder, 1, (Option.some FieldType.boolean))
def iX3_here : PI := (yX3_here, cX3_here, 1, (Option.some FieldType.char))
def iX3_take : PI := (yX3_take, cX3_take, 2, (Option.some FieldType.boolean))
def iX3_readNode : PI := (yX3_readNode, cX3_readNode, 3, (Option.some FieldType.boolean))
def iX3_readNumber : PI := (yX3_readNumber, cX3_readNumber, 6, (Option.some FieldType.boolean))
def iX3_readMark : PI := (yX3_readMark, cX3_readMark, 2, (Option.some FieldType.boolean))
def iX4_init : PI := (yX4_init, cX4_init, 1, (Option.none : Option FieldType))
def iX4_begin : PI := (yX4_begin, cX4_begin, 8, (Option.none : Option FieldType))
def iX4_copyFrom : PI := (yX4_copyFrom, cX4_copyFrom, 2, (Option.none : Option FieldType))
def iX4_cell : PI := (yX4_cell, cX4_cell, 2, (Option.some FieldType.int))
def iX4_setCell : PI := (yX4_setCell, cX4_setCell, 5, (Option.none : Option FieldType))
def iX4_hasByte : PI := (yX4_hasByte, cX4_hasByte, 2, (Option.some FieldType.boolean))
def iX4_fits : PI := (yX4_fits, cX4_fits, 3, (Option.some FieldType.boolean))
def iX4_overlaps : PI := (yX4_overlaps, cX4_overlaps, 4, (Option.some FieldType.boolean))
def iX4_lay : PI := (yX4_lay, cX4_lay, 7, (Option.none : Option FieldType))
def iX4_end : PI := (yX4_end, cX4_end, 3, (Option.none : Option FieldType))
def iX4_isComplete : PI := (yX4_isComplete, cX4_isComplete, 1, (Option.some FieldType.boolean))
def iX4_isAsSent : PI := (yX4_isAsSent, cX4_isAsSent, 3, (Option.some FieldType.boolean))
def iX4_firstMissing : PI := (yX4_firstMissing, cX4_firstMissing, 2, (Option.some FieldType.int))
def iX4_lengthOfGap : PI := (yX4_lengthOfGap, cX4_lengthOfGap, 3, (Option.some FieldType.int))
def iX4_tell : PI := (yX4_tell, cX4_tell, 2, (Option.some FieldType.int))
def iX5_init : PI := (yX5_init, cX5_init, 1, (Option.none : Option FieldType))
def iX5_begin : PI := (yX5_begin, cX5_begin, 4, (Option.none : Option FieldType))
def iX5_span : PI := (yX5_span, cX5_span, 4, (Option.none : Option FieldType))
def iX5_arrive : PI := (yX5_arrive, cX5_arrive, 3, (Option.none : Option FieldType))
def iX5_copyFrom : PI := (yX5_copyFrom, cX5_copyFrom, 2, (Option.none : Option FieldType))
def iX6_init : PI := (yX6_init, cX6_init, 2, (Option.none : Option FieldType))
def iX6_copyFrom : PI := (yX6_copyFrom, cX6_copyFrom, 3, (Option.none : Option FieldType))
def iX6_nodeAt : PI := (yX6_nodeAt, cX6_nodeAt, 2, (Option.some (FieldType.object "StubbornBridges$Node")))
def iX6_bridgeAt : PI := (yX6_bridgeAt, cX6_bridgeAt, 2, (Option.some (FieldType.object "StubbornBridges$Bridge")))
def iX6_parcelAt : PI := (yX6_parcelAt, cX6_parcelAt, 2, (Option.some (FieldType.object "StubbornBridges$Parcel")))
def iX6_sendParcel : PI := (yX6_sendParcel, cX6_sendParcel, 9, (Option.some FieldType.int))
def iX6_sendAgain : PI := (yX6_sendAgain, cX6_sendAgain, 5, (Option.some FieldType.int))
def iX6_forgeSlice : PI := (yX6_forgeSlice, cX6_forgeSlice, 9, (Option.some FieldType.int))
def iX6_keepIn : PI := (yX6_keepIn, cX6_keepIn, 2, (Option.none : Option FieldType))
def iX6_launch : PI := (yX6_launch, cX6_launch, 4, (Option.none : Option FieldType))
def iX6_freeSlice : PI := (yX6_freeSlice, cX6_freeSlice, 1, (Option.some (FieldType.object "StubbornBridges$Slice")))
def iX6_isFull : PI := (yX6_isFull, cX6_isFull, 1, (Option.some FieldType.boolean))
def iX6_countNew : PI := (yX6_countNew, cX6_countNew, 1, (Option.none : Option FieldType))
def iX6_obey : PI := (yX6_obey, cX6_obey, 5, (Option.some FieldType.boolean))
def iX6_pass : PI := (yX6_pass, cX6_pass, 6, (Option.none : Option FieldType))
def iX6_nextEvent : PI := (yX6_nextEvent, cX6_nextEvent, 7, (Option.some FieldType.int))
def iX6_overdueAt : PI := (yX6_overdueAt, cX6_overdueAt, 3, (Option.some FieldType.int))
def iX6_treat : PI := (yX6_treat, cX6_treat, 5, (Option.none : Option FieldType))
def iX6_cutUp : PI := (yX6_cutUp, cX6_cutUp, 10, (Option.none : Option FieldType))
def iX6_goOn : PI := (yX6_goOn, cX6_goOn, 4, (Option.none : Option FieldType))
def iX6_drop : PI := (yX6_drop, cX6_drop, 4, (Option.none : Option FieldType))
def iX6_join : PI := (yX6_join, cX6_join, 4, (Option.none : Option FieldType))
def iX6_keepToSpace : PI := (yX6_keepToSpace, cX6_keepToSpace, 5, (Option.none : Option FieldType))
def iX6_eldestAtNode : PI := (yX6_eldestAtNode, cX6_eldestAtNode, 8, (Option.some (FieldType.object "StubbornBridges$Parcel")))
def iX6_giveUpOverdue : PI := (yX6_giveUpOverdue, cX6_giveUpOverdue, 5, (Option.none : Option FieldType))
def iX6_closeRanks : PI := (yX6_closeRanks, cX6_closeRanks, 4, (Option.none : Option FieldType))
def iX6_bytesAtNode : PI := (yX6_bytesAtNode, cX6_bytesAtNode, 7, (Option.some FieldType.int))
def iX6_parcelsAtNode : PI := (yX6_parcelsAtNode, cX6_parcelsAtNode, 7, (Option.some FieldType.int))
def iX6_slicesUnderWay : PI := (yX6_slicesUnderWay, cX6_slicesUnderWay, 4, (Option.some FieldType.int))
def iX6_tell : PI := (yX6_tell, cX6_tell, 2, (Option.some FieldType.int))
def iX6_nextArrival : PI := (yX6_nextArrival, cX6_nextArrival, 3, (Option.some FieldType.int))
def iX6_parcelsInState : PI := (yX6_parcelsInState, cX6_parcelsInState, 4, (Option.some FieldType.int))
def iX6_findPath : PI := (yX6_findPath, cX6_findPath, 7, (Option.some FieldType.int))
def iX7_init : PI := (yX7_init, cX7_init, 2, (Option.none : Option FieldType))
def iX7_node : PI := (yX7_node, cX7_node, 7, (Option.some FieldType.int))
def iX7_bridge : PI := (yX7_bridge, cX7_bridge, 7, (Option.some FieldType.int))
def iX7_mend : PI := (yX7_mend, cX7_mend, 6, (Option.some FieldType.int))
def iX7_route : PI := (yX7_route, cX7_route, 7, (Option.some FieldType.int))
def iX7_send : PI := (yX7_send, cX7_send, 6, (Option.some FieldType.int))
def iX7_resend : PI := (yX7_resend, cX7_resend, 2, (Option.some FieldType.int))
def iX7_forge : PI := (yX7_forge, cX7_forge, 6, (Option.some FieldType.int))
def iX7_ticks : PI := (yX7_ticks, cX7_ticks, 2, (Option.some FieldType.int))
def iX7_ofNode : PI := (yX7_ofNode, cX7_ofNode, 4, (Option.some FieldType.int))
def iX7_ofBridge : PI := (yX7_ofBridge, cX7_ofBridge, 4, (Option.some FieldType.int))
def iX7_ofParcel : PI := (yX7_ofParcel, cX7_ofParcel, 4, (Option.some FieldType.int))
def iX7_byteAt : PI := (yX7_byteAt, cX7_byteAt, 4, (Option.some FieldType.int))
def iX7_count : PI := (yX7_count, cX7_count, 2, (Option.some FieldType.int))
def iX7_leastRoom : PI := (yX7_leastRoom, cX7_leastRoom, 7, (Option.some FieldType.int))
def iX7_slices : PI := (yX7_slices, cX7_slices, 5, (Option.some FieldType.int))
def iX7_time : PI := (yX7_time, cX7_time, 5, (Option.some FieldType.int))
def iX7_stateIn : PI := (yX7_stateIn, cX7_stateIn, 5, (Option.some FieldType.int))
def iX7_doneIn : PI := (yX7_doneIn, cX7_doneIn, 4, (Option.some FieldType.int))
def iX7_gap : PI := (yX7_gap, cX7_gap, 4, (Option.some FieldType.int))
def iX7_put : PI := (yX7_put, cX7_put, 3, (Option.some FieldType.int))
def iX7_wipe : PI := (yX7_wipe, cX7_wipe, 2, (Option.some FieldType.int))
def iX7_fault : PI := (yX7_fault, cX7_fault, 1, (Option.some FieldType.int))
def iX7_carryOut : PI := (yX7_carryOut, cX7_carryOut, 3, (Option.some FieldType.int))
def iX7_undo : PI := (yX7_undo, cX7_undo, 1, (Option.some FieldType.int))
def iX7_save : PI := (yX7_save, cX7_save, 2, (Option.some FieldType.int))
def iX7_restore : PI := (yX7_restore, cX7_restore, 2, (Option.some FieldType.int))
def iX7_isWithin : PI := (yX7_isWithin, cX7_isWithin, 3, (Option.some FieldType.boolean))
def iX7_isPair : PI := (yX7_isPair, cX7_isPair, 2, (Option.some FieldType.boolean))
def iX7_isRoom : PI := (yX7_isRoom, cX7_isRoom, 1, (Option.some FieldType.boolean))
def iX7_isTicks : PI := (yX7_isTicks, cX7_isTicks, 1, (Option.some FieldType.boolean))
def iX7_byteOf : PI := (yX7_byteOf, cX7_byteOf, 2, (Option.some FieldType.int))
def iX7_foresee : PI := (yX7_foresee, cX7_foresee, 3, (Option.some (FieldType.object "StubbornBridges$Parcel")))
def iX7_slicesBehind : PI := (yX7_slicesBehind, cX7_slicesBehind, 8, (Option.some FieldType.int))
def iX7_ticksBehind : PI := (yX7_ticksBehind, cX7_ticksBehind, 9, (Option.some FieldType.int))
def iX8_init : PI := (yX8_init, cX8_init, 3, (Option.none : Option FieldType))
def iX8_in : PI := (yX8_in, cX8_in, 3, (Option.some FieldType.boolean))
def iX8_ofN : PI := (yX8_ofN, cX8_ofN, 3, (Option.some FieldType.int))
def iX8_ofB : PI := (yX8_ofB, cX8_ofB, 3, (Option.some FieldType.int))
def iX8_ofP : PI := (yX8_ofP, cX8_ofP, 3, (Option.some FieldType.int))
def iX8_layP : PI := (yX8_layP, cX8_layP, 4, (Option.none : Option FieldType))
def iX8_ofS : PI := (yX8_ofS, cX8_ofS, 3, (Option.some FieldType.int))
def iX8_layS : PI := (yX8_layS, cX8_layS, 4, (Option.none : Option FieldType))
def iX8_isNode : PI := (yX8_isNode, cX8_isNode, 1, (Option.some FieldType.boolean))
def iX8_isBridge : PI := (yX8_isBridge, cX8_isBridge, 2, (Option.some FieldType.boolean))
def iX8_isParcel : PI := (yX8_isParcel, cX8_isParcel, 2, (Option.some FieldType.boolean))
def iX8_areNodes : PI := (yX8_areNodes, cX8_areNodes, 2, (Option.some FieldType.boolean))
def iX8_bytesNow : PI := (yX8_bytesNow, cX8_bytesNow, 1, (Option.some FieldType.int))
def iX8_keep : PI := (yX8_keep, cX8_keep, 3, (Option.none : Option FieldType))
def iX8_keepIf : PI := (yX8_keepIf, cX8_keepIf, 2, (Option.none : Option FieldType))
def iX8_layAside : PI := (yX8_layAside, cX8_layAside, 2, (Option.none : Option FieldType))
def iX8_layBack : PI := (yX8_layBack, cX8_layBack, 2, (Option.none : Option FieldType))
def iX8_node : PI := (yX8_node, cX8_node, 7, (Option.some FieldType.int))
def iX8_bridge : PI := (yX8_bridge, cX8_bridge, 7, (Option.some FieldType.int))
def iX8_mend : PI := (yX8_mend, cX8_mend, 6, (Option.some FieldType.int))
def iX8_route : PI := (yX8_route, cX8_route, 6, (Option.some FieldType.int))
def iX8_makeSlice : PI := (yX8_makeSlice, cX8_makeSlice, 9, (Option.none : Option FieldType))
def iX8_removeSlice : PI := (yX8_removeSlice, cX8_removeSlice, 3, (Option.none : Option FieldType))
def iX8_countDrop : PI := (yX8_countDrop, cX8_countDrop, 3, (Option.none : Option FieldType))
def iX8_drop : PI := (yX8_drop, cX8_drop, 3, (Option.none : Option FieldType))
def iX8_trySend : PI := (yX8_trySend, cX8_trySend, 9, (Option.some FieldType.int))
def iX8_send : PI := (yX8_send, cX8_send, 6, (Option.some FieldType.int))
def iX8_tryResend : PI := (yX8_tryResend, cX8_tryResend, 3, (Option.some FieldType.int))
def iX8_resend : PI := (yX8_resend, cX8_resend, 2, (Option.some FieldType.int))
def iX8_tryForge : PI := (yX8_tryForge, cX8_tryForge, 7, (Option.some FieldType.int))
def iX8_forge : PI := (yX8_forge, cX8_forge, 6, (Option.some FieldType.int))
def iX8_byteOf : PI := (yX8_byteOf, cX8_byteOf, 2, (Option.some FieldType.int))
def iX8_sumOf : PI := (yX8_sumOf, cX8_sumOf, 4, (Option.some FieldType.int))
def iX8_end : PI := (yX8_end, cX8_end, 4, (Option.none : Option FieldType))
def iX8_isAnyThere : PI := (yX8_isAnyThere, cX8_isAnyThere, 5, (Option.some FieldType.boolean))
def iX8_isWrongSlice : PI := (yX8_isWrongSlice, cX8_isWrongSlice, 5, (Option.some FieldType.boolean))
def iX8_bytesAt : PI := (yX8_bytesAt, cX8_bytesAt, 4, (Option.some FieldType.int))
def iX8_makeSpace : PI := (yX8_makeSpace, cX8_makeSpace, 5, (Option.none : Option FieldType))
def iX8_finishIfAll : PI := (yX8_finishIfAll, cX8_finishIfAll, 5, (Option.none : Option FieldType))
def iX8_layBytes : PI := (yX8_layBytes, cX8_layBytes, 9, (Option.none : Option FieldType))
def iX8_putSlice : PI := (yX8_putSlice, cX8_putSlice, 8, (Option.none : Option FieldType))
def iX8_takes : PI := (yX8_takes, cX8_takes, 4, (Option.some FieldType.boolean))
def iX8_goOn : PI := (yX8_goOn, cX8_goOn, 3, (Option.none : Option FieldType))
def iX8_cut : PI := (yX8_cut, cX8_cut, 11, (Option.none : Option FieldType))
def iX8_isStill : PI := (yX8_isStill, cX8_isStill, 8, (Option.some FieldType.boolean))
def iX8_passTick : PI := (yX8_passTick, cX8_passTick, 4, (Option.none : Option FieldType))
def iX8_tryTicks : PI := (yX8_tryTicks, cX8_tryTicks, 4, (Option.some FieldType.int))
def iX8_ticks : PI := (yX8_ticks, cX8_ticks, 2, (Option.some FieldType.int))
def iX8_parcelsAt : PI := (yX8_parcelsAt, cX8_parcelsAt, 4, (Option.some FieldType.int))
def iX8_ofNode : PI := (yX8_ofNode, cX8_ofNode, 3, (Option.some FieldType.int))
def iX8_ofBridge : PI := (yX8_ofBridge, cX8_ofBridge, 3, (Option.some FieldType.int))
def iX8_slicesOf : PI := (yX8_slicesOf, cX8_slicesOf, 4, (Option.some FieldType.int))
def iX8_firstMissing : PI := (yX8_firstMissing, cX8_firstMissing, 3, (Option.some FieldType.int))
def iX8_ofParcel : PI := (yX8_ofParcel, cX8_ofParcel, 3, (Option.some FieldType.int))
def iX8_byteAt : PI := (yX8_byteAt, cX8_byteAt, 4, (Option.some FieldType.int))
def iX8_nextArrival : PI := (yX8_nextArrival, cX8_nextArrival, 3, (Option.some FieldType.int))
def iX8_parcelsIn : PI := (yX8_parcelsIn, cX8_parcelsIn, 4, (Option.some FieldType.int))
def iX8_count : PI := (yX8_count, cX8_count, 2, (Option.some FieldType.int))
def iX8_findRoute : PI := (yX8_findRoute, cX8_findRoute, 5, (Option.some FieldType.boolean))
def iX8_leastRoom : PI := (yX8_leastRoom, cX8_leastRoom, 5, (Option.some FieldType.int))
def iX8_goOver : PI := (yX8_goOver, cX8_goOver, 8, (Option.none : Option FieldType))
def iX8_goAll : PI := (yX8_goAll, cX8_goAll, 5, (Option.some FieldType.boolean))
def iX8_slices : PI := (yX8_slices, cX8_slices, 4, (Option.some FieldType.int))
def iX8_time : PI := (yX8_time, cX8_time, 6, (Option.some FieldType.int))
def iX8_stateIn : PI := (yX8_stateIn, cX8_stateIn, 4, (Option.some FieldType.int))
def iX8_doneIn : PI := (yX8_doneIn, cX8_doneIn, 3, (Option.some FieldType.int))
def iX8_gap : PI := (yX8_gap, cX8_gap, 6, (Option.some FieldType.int))
def iX8_put : PI := (yX8_put, cX8_put, 7, (Option.some FieldType.int))
def iX8_wipe : PI := (yX8_wipe, cX8_wipe, 2, (Option.some FieldType.int))
def iX8_next : PI := (yX8_next, cX8_next, 1, (Option.some FieldType.int))
def iX8_takeSign : PI := (yX8_takeSign, cX8_takeSign, 2, (Option.none : Option FieldType))
def iX8_takeOne : PI := (yX8_takeOne, cX8_takeOne, 3, (Option.none : Option FieldType))
def iX8_takeNumber : PI := (yX8_takeNumber, cX8_takeNumber, 5, (Option.none : Option FieldType))
def iX8_takeIf : PI := (yX8_takeIf, cX8_takeIf, 4, (Option.none : Option FieldType))
def iX8_takeOrder : PI := (yX8_takeOrder, cX8_takeOrder, 2, (Option.none : Option FieldType))
def iX8_fault : PI := (yX8_fault, cX8_fault, 1, (Option.some FieldType.int))
def iX8_carry : PI := (yX8_carry, cX8_carry, 3, (Option.some FieldType.int))
def iX8_carryOut : PI := (yX8_carryOut, cX8_carryOut, 2, (Option.some FieldType.int))
def iX8_undo : PI := (yX8_undo, cX8_undo, 3, (Option.some FieldType.int))
def iX8_save : PI := (yX8_save, cX8_save, 3, (Option.some FieldType.int))
def iX8_restore : PI := (yX8_restore, cX8_restore, 3, (Option.some FieldType.int))
abbrev cF_mod : ByteArray := prog_11_method_50_code
def yF_mod : MethodName := ⟨"java/lang/Math", "floorMod", "(II)I"⟩
def iF_mod : PI := (yF_mod, cF_mod, 3, (Option.some FieldType.int))
def p_isR (f : Nat) : Bool := ([32, 67, 96, 100, 143, 195, 196, 197, 198, 204, 205, 224, 225, 226, 227, 228, 229, 256, 257, 258, 259, 262, 263, 264, 265, 266, 267, 269, 271, 272, 273, 274, 279, 280] : List Nat).contains f
def p_nf : Nat → Nat
  | 0 => 9
  | 1 => 3
  | 2 => 4
  | 3 => 6
  | 4 => 16
  | 5 => 9
  | 6 => 14
  | 7 => 6
  | 8 => 25
  | _ => 0
def p_cls : List vw_C := [(RX0, TX0, 9), (RX1, TX1, 3), (RX2, TX2, 4), (RX3, TX3, 6), (RX4, TX4, 16), (RX5, TX5, 9), (RX6, TX6, 14), (RX7, TX7, 6), (RX8, TX8, 25)]
def p_nest : List (String × Nat × MethodName × String) := [("StubbornBridges$World", 43, ⟨"StubbornBridges$Bridge", "<init>", "()V"⟩, "StubbornBridges"), ("StubbornBridges$World", 44, ⟨"StubbornBridges$Parcel", "<init>", "()V"⟩, "StubbornBridges"), ("StubbornBridges$World", 45, ⟨"StubbornBridges$Slice", "<init>", "()V"⟩, "StubbornBridges"), ("StubbornBridges", 36, ⟨"StubbornBridges$Pad", "<init>", "()V"⟩, "StubbornBridges"), ("StubbornBridges$World", 90, ⟨"StubbornBridges", "isWithin", "(III)Z"⟩, "StubbornBridges"), ("StubbornBridges$World", 94, ⟨"StubbornBridges", "isPair", "(II)Z"⟩, "StubbornBridges"), ("StubbornBridges$Parcel", 41, ⟨"StubbornBridges", "byteOf", "(II)I"⟩, "StubbornBridges"), ("StubbornBridges$Node", 31, ⟨"StubbornBridges", "isWithin", "(III)Z"⟩, "StubbornBridges"), ("StubbornBridges$Pad", 21, ⟨"StubbornBridges", "isWithin", "(III)Z"⟩, "StubbornBridges"), ("StubbornBridges$World", 190, ⟨"StubbornBridges", "isTicks", "(I)Z"⟩, "StubbornBridges")]
def p_ao : List String := ["StubbornBridges$Node", "StubbornBridges$Bridge", "StubbornBridges$Parcel", "StubbornBridges$Slice", "StubbornBridges$World"]
theorem dX0_init_0 : decode cX0_init 0 = .ok (.aload_n 0, 1) := by decide +kernel
theorem dX0_init_1 : decode cX0_init 1 = .ok (.invokespecial 3, 3) := by decide +kernel
theorem dX0_init_4 : decode cX0_init 4 = .ok (.return_, 1) := by decide +kernel
theorem dX0_copyFrom_0 : decode cX0_copyFrom 0 = .ok (.aload_n 0, 1) := by decide +kernel
theorem dX0_copyFrom_1 : decode cX0_copyFrom 1 = .ok (.aload_n 1, 1) := by decide +kernel
theorem dX0_copyFrom_2 : decode cX0_copyFrom 2 = .ok (.getfield 9, 3) := by decide +kernel
theorem dX0_copyFrom_5 : decode cX0_copyFrom 5 = .ok (.putfield 9, 3) := by decide +kernel
theorem dX0_copyFrom_8 : decode cX0_copyFrom 8 = .ok (.aload_n 0, 1) := by decide +kernel
theorem dX0_copyFrom_9 : decode cX0_copyFrom 9 = .ok (.aload_n 1, 1) := by decide +kernel
theorem dX0_copyFrom_10 : decode cX0_copyFrom 10 = .ok (.getfield 15, 3) := by decide +kernel
theorem dX0_copyFrom_13 : decode cX0_copyFrom 13 = .ok (.putfield 15, 3) := by decide +kernel
theorem dX0_copyFrom_16 : decode cX0_copyFrom 16 = .ok (.aload_n 0, 1) := by decide +kernel
theorem dX0_copyFrom_17 : decode cX0_copyFrom 17 = .ok (.aload_n 1, 1) := by decide +kernel
theorem dX0_copyFrom_18 : decode cX0_copyFrom 18 = .ok (.getfield 18, 3) := by decide +kernel
theorem dX0_copyFrom_21 : decode cX0_copyFrom 21 = .ok (.putfield 18, 3) := by decide +kernel
theorem dX0_copyFrom_24 : decode cX0_copyFrom 24 = .ok (.aload_n 0, 1) := by decide +kernel
theorem dX0_copyFrom_25 : decode cX0_copyFrom 25 = .ok (.aload_n 1, 1) := by decide +kernel
theorem dX0_copyFrom_26 : decode cX0_copyFrom 26 = .ok (.getfield 21, 3) := by decide +kernel
theorem dX0_copyFrom_29 : decode cX0_copyFrom 29 = .ok (.putfield 21, 3) := by decide +kernel
theorem dX0_copyFrom_32 : decode cX0_copyFrom 32 = .ok (.aload_n 0, 1) := by decide +kernel
theorem dX0_copyFrom_33 : decode cX0_copyFrom 33 = .ok (.aload_n 1, 1) := by decide +kernel
theorem dX0_copyFrom_34 : decode cX0_copyFrom 34 = .ok (.getfield 24, 3) := by decide +kernel
theorem dX0_copyFrom_37 : decode cX0_copyFrom 37 = .ok (.putfield 24, 3) := by decide +kernel
theorem dX0_copyFrom_40 : decode cX0_copyFrom 40 = .ok (.aload_n 0, 1) := by decide +kernel
theorem dX0_copyFrom_41 : decode cX0_copyFrom 41 = .ok (.aload_n 1, 1) := by decide +kernel
theorem dX0_copyFrom_42 : decode cX0_copyFrom 42 = .ok (.getfield 27, 3) := by decide +kernel
theorem dX0_copyFrom_45 : decode cX0_copyFrom 45 = .ok (.putfield 27, 3) := by decide +kernel
theorem dX0_copyFrom_48 : decode cX0_copyFrom 48 = .ok (.aload_n 0, 1) := by decide +kernel
theorem dX0_copyFrom_49 : decode cX0_copyFrom 49 = .ok (.aload_n 1, 1) := by decide +kernel
theorem dX0_copyFrom_50 : decode cX0_copyFrom 50 = .ok (.getfield 30, 3) := by decide +kernel
theorem dX0_copyFrom_53 : decode cX0_copyFrom 53 = .ok (.putfield 30, 3) := by decide +kernel
theorem dX0_copyFrom_56 : decode cX0_copyFrom 56 = .ok (.aload_n 0, 1) := by decide +kernel
theorem dX0_copyFrom_57 : decode cX0_copyFrom 57 = .ok (.aload_n 1, 1) := by decide +kernel
theorem dX0_copyFrom_58 : decode cX0_copyFrom 58 = .ok (.getfield 33, 3) := by decide +kernel
theorem dX0_copyFrom_61 : decode cX0_copyFrom 61 = .ok (.putfield 33, 3) := by decide +kernel
theorem dX0_copyFrom_64 : decode cX0_copyFrom 64 = .ok (.aload_n 0, 1) := by decide +kernel
theorem dX0_copyFrom_65 : decode cX0_copyFrom 65 = .ok (.aload_n 1, 1) := by decide +kernel
theorem dX0_copyFrom_66 : decode cX0_copyFrom 66 = .ok (.getfield 36, 3) := by decide +kernel
theorem dX0_copyFrom_69 : decode cX0_copyFrom 69 = .ok (.putfield 36, 3) := by decide +kernel
theorem dX0_copyFrom_72 : decode cX0_copyFrom 72 = .ok (.return_, 1) := by decide +kernel
theorem dX0_bears_0 : decode cX0_bears 0 = .ok (.iload_n 1, 1) := by decide +kernel
theorem dX0_bears_1 : decode cX0_bears 1 = .ok (.bipush 8, 2) := by decide +kernel
theorem dX0_bears_3 : decode cX0_bears 3 = .ok (.iadd, 1) := by decide +kernel
theorem dX0_bears_4 : decode cX0_bears 4 = .ok (.aload_n 0, 1) := by decide +kernel
theorem dX0_bears_5 : decode cX0_bears 5 = .ok (.getfield 18, 3) := by decide +kernel
theorem dX0_bears_8 : decode cX0_bears 8 = .ok (.if_icmp .gt 7, 3) := by decide +kernel
theorem dX0_bears_11 : decode cX0_bears 11 = .ok (.iconst 1, 1) := by decide +kernel
theorem dX0_bears_12 : decode cX0_bears 12 = .ok (.goto 4, 3) := by decide +kernel
theorem dX0_bears_15 : decode cX0_bears 15 = .ok (.iconst 0, 1) := by decide +kernel
theorem dX0_bears_16 : decode cX0_bears 16 = .ok (.ireturn, 1) := by decide +kernel
theorem dX0_longestPiece_0 : decode cX0_longestPiece 0 = .ok (.bipush 8, 2) := by decide +kernel
theorem dX0_longestPiece_2 : decode cX0_longestPiece 2 = .ok (.aload_n 0, 1) := by decide +kernel
theorem dX0_longestPiece_3 : decode cX0_longestPiece 3 = .ok (.getfield 18, 3) := by decide +kernel
theorem dX0_longestPiece_6 : decode cX0_longestPiece 6 = .ok (.bipush 8, 2) := by decide +kernel
theorem dX0_longestPiece_8 : decode cX0_longestPiece 8 = .ok (.isub, 1) := by decide +kernel
theorem dX0_longestPiece_9 : decode cX0_longestPiece 9 = .ok (.bipush 8, 2) := by decide +kernel
theorem dX0_longestPiece_11 : decode cX0_longestPiece 11 = .ok (.idiv, 1) := by decide +kernel
theorem dX0_longestPiece_12 : decode cX0_longestPiece 12 = .ok (.bipush 8, 2) := by decide +kernel
theorem dX0_longestPiece_14 : decode cX0_longestPiece 14 = .ok (.imul, 1) := by decide +kernel
theorem dX0_longestPiece_15 : decode cX0_longestPiece 15 = .ok (.invokestatic 39, 3) := by decide +kernel
theorem dX0_longestPiece_18 : decode cX0_longestPiece 18 = .ok (.ireturn, 1) := by decide +kernel
theorem dX0_fullPieces_0 : decode cX0_fullPieces 0 = .ok (.aload_n 0, 1) := by decide +kernel
theorem dX0_fullPieces_1 : decode cX0_fullPieces 1 = .ok (.iload_n 1, 1) := by decide +kernel
theorem dX0_fullPieces_2 : decode cX0_fullPieces 2 = .ok (.invokevirtual 45, 3) := by decide +kernel
theorem dX0_fullPieces_5 : decode cX0_fullPieces 5 = .ok (.ifCond .eq 7, 3) := by decide +kernel
theorem dX0_fullPieces_8 : decode cX0_fullPieces 8 = .ok (.iconst 0, 1) := by decide +kernel
theorem dX0_fullPieces_9 : decode cX0_fullPieces 9 = .ok (.goto 11, 3) := by decide +kernel
theorem dX0_fullPieces_12 : decode cX0_fullPieces 12 = .ok (.iload_n 1, 1) := by decide +kernel
theorem dX0_fullPieces_13 : decode cX0_fullPieces 13 = .ok (.iconst 1, 1) := by decide +kernel
theorem dX0_fullPieces_14 : decode cX0_fullPieces 14 = .ok (.isub, 1) := by decide +kernel
theorem dX0_fullPieces_15 : decode cX0_fullPieces 15 = .ok (.aload_n 0, 1) := by decide +kernel
theorem dX0_fullPieces_16 : decode cX0_fullPieces 16 = .ok (.invokevirtual 49, 3) := by decide +kernel
theorem dX0_fullPieces_19 : decode cX0_fullPieces 19 = .ok (.idiv, 1) := by decide +kernel
theorem dX0_fullPieces_20 : decode cX0_fullPieces 20 = .ok (.ireturn, 1) := by decide +kernel
theorem dX0_ticksFor_0 : decode cX0_ticksFor 0 = .ok (.aload_n 0, 1) := by decide +kernel
theorem dX0_ticksFor_1 : decode cX0_ticksFor 1 = .ok (.getfield 21, 3) := by decide +kernel
theorem dX0_ticksFor_4 : decode cX0_ticksFor 4 = .ok (.iload_n 1, 1) := by decide +kernel
theorem dX0_ticksFor_5 : decode cX0_ticksFor 5 = .ok (.bipush 8, 2) := by decide +kernel
theorem dX0_ticksFor_7 : decode cX0_ticksFor 7 = .ok (.iadd, 1) := by decide +kernel
theorem dX0_ticksFor_8 : decode cX0_ticksFor 8 = .ok (.iconst 1, 1) := by decide +kernel
theorem dX0_ticksFor_9 : decode cX0_ticksFor 9 = .ok (.aload_n 0, 1) := by decide +kernel
theorem dX0_ticksFor_10 : decode cX0_ticksFor 10 = .ok (.getfield 24, 3) := by decide +kernel
theorem dX0_ticksFor_13 : decode cX0_ticksFor 13 = .ok (.invokestatic 39, 3) := by decide +kernel
theorem dX0_ticksFor_16 : decode cX0_ticksFor 16 = .ok (.idiv, 1) := by decide +kernel
theorem dX0_ticksFor_17 : decode cX0_ticksFor 17 = .ok (.iadd, 1) := by decide +kernel
theorem dX0_ticksFor_18 : decode cX0_ticksFor 18 = .ok (.ireturn, 1) := by decide +kernel
theorem dX0_loses_0 : decode cX0_loses 0 = .ok (.aload_n 0, 1) := by decide +kernel
theorem dX0_loses_1 : decode cX0_loses 1 = .ok (.dup, 1) := by decide +kernel
theorem dX0_loses_2 : decode cX0_loses 2 = .ok (.getfield 30, 3) := by decide +kernel
theorem dX0_loses_5 : decode cX0_loses 5 = .ok (.iconst 1, 1) := by decide +kernel
theorem dX0_loses_6 : decode cX0_loses 6 = .ok (.iadd, 1) := by decide +kernel
theorem dX0_loses_7 : decode cX0_loses 7 = .ok (.putfield 30, 3) := by decide +kernel
theorem dX0_loses_10 : decode cX0_loses 10 = .ok (.aload_n 0, 1) := by decide +kernel
theorem dX0_loses_11 : decode cX0_loses 11 = .ok (.getfield 27, 3) := by decide +kernel
theorem dX0_loses_14 : decode cX0_loses 14 = .ok (.ifCond .le 15, 3) := by decide +kernel
theorem dX0_loses_17 : decode cX0_loses 17 = .ok (.aload_n 0, 1) := by decide +kernel
theorem dX0_loses_18 : decode cX0_loses 18 = .ok (.getfield 30, 3) := by decide +kernel
theorem dX0_loses_21 : decode cX0_loses 21 = .ok (.aload_n 0, 1) := by decide +kernel
theorem dX0_loses_22 : decode cX0_loses 22 = .ok (.getfield 27, 3) := by decide +kernel
theorem dX0_loses_25 : decode cX0_loses 25 = .ok (.irem, 1) := by decide +kernel
theorem dX0_loses_26 : decode cX0_loses 26 = .ok (.ifCond .eq 5, 3) := by decide +kernel
theorem dX0_loses_29 : decode cX0_loses 29 = .ok (.iconst 0, 1) := by decide +kernel
theorem dX0_loses_30 : decode cX0_loses 30 = .ok (.ireturn, 1) := by decide +kernel
theorem dX0_loses_31 : decode cX0_loses 31 = .ok (.aload_n 0, 1) := by decide +kernel
theorem dX0_loses_32 : decode cX0_loses 32 = .ok (.dup, 1) := by decide +kernel
theorem dX0_loses_33 : decode cX0_loses 33 = .ok (.getfield 33, 3) := by decide +kernel
theorem dX0_loses_36 : decode cX0_loses 36 = .ok (.iconst 1, 1) := by decide +kernel
theorem dX0_loses_37 : decode cX0_loses 37 = .ok (.iadd, 1) := by decide +kernel
theorem dX0_loses_38 : decode cX0_loses 38 = .ok (.putfield 33, 3) := by decide +kernel
theorem dX0_loses_41 : decode cX0_loses 41 = .ok (.iconst 1, 1) := by decide +kernel
theorem dX0_loses_42 : decode cX0_loses 42 = .ok (.ireturn, 1) := by decide +kernel
theorem dX0_tell_0 : decode cX0_tell 0 = .ok (.iload_n 1, 1) := by decide +kernel
theorem dX0_tell_1 : decode cX0_tell 1 = .ok (.tableswitch 96 0 8 #[51, 56, 61, 66, 71, 76, 81, 86, 91], 51) := by decide +kernel
theorem dX0_tell_52 : decode cX0_tell 52 = .ok (.aload_n 0, 1) := by decide +kernel
theorem dX0_tell_53 : decode cX0_tell 53 = .ok (.getfield 9, 3) := by decide +kernel
theorem dX0_tell_56 : decode cX0_tell 56 = .ok (.ireturn, 1) := by decide +kernel
theorem dX0_tell_57 : decode cX0_tell 57 = .ok (.aload_n 0, 1) := by decide +kernel
theorem dX0_tell_58 : decode cX0_tell 58 = .ok (.getfield 15, 3) := by decide +kernel
theorem dX0_tell_61 : decode cX0_tell 61 = .ok (.ireturn, 1) := by decide +kernel
theorem dX0_tell_62 : decode cX0_tell 62 = .ok (.aload_n 0, 1) := by decide +kernel
theorem dX0_tell_63 : decode cX0_tell 63 = .ok (.getfield 18, 3) := by decide +kernel
theorem dX0_tell_66 : decode cX0_tell 66 = .ok (.ireturn, 1) := by decide +kernel
theorem dX0_tell_67 : decode cX0_tell 67 = .ok (.aload_n 0, 1) := by decide +kernel
theorem dX0_tell_68 : decode cX0_tell 68 = .ok (.getfield 21, 3) := by decide +kernel
theorem dX0_tell_71 : decode cX0_tell 71 = .ok (.ireturn, 1) := by decide +kernel
theorem dX0_tell_72 : decode cX0_tell 72 = .ok (.aload_n 0, 1) := by decide +kernel
theorem dX0_tell_73 : decode cX0_tell 73 = .ok (.getfield 24, 3) := by decide +kernel
theorem dX0_tell_76 : decode cX0_tell 76 = .ok (.ireturn, 1) := by decide +kernel
theorem dX0_tell_77 : decode cX0_tell 77 = .ok (.aload_n 0, 1) := by decide +kernel
theorem dX0_tell_78 : decode cX0_tell 78 = .ok (.getfield 27, 3) := by decide +kernel
theorem dX0_tell_81 : decode cX0_tell 81 = .ok (.ireturn, 1) := by decide +kernel
theorem dX0_tell_82 : decode cX0_tell 82 = .ok (.aload_n 0, 1) := by decide +kernel
theorem dX0_tell_83 : decode cX0_tell 83 = .ok (.getfield 30, 3) := by decide +kernel
theorem dX0_tell_86 : decode cX0_tell 86 = .ok (.ireturn, 1) := by decide +kernel
theorem dX0_tell_87 : decode cX0_tell 87 = .ok (.aload_n 0, 1) := by decide +kernel
theorem dX0_tell_88 : decode cX0_tell 88 = .ok (.getfield 33, 3) := by decide +kernel
theorem dX0_tell_91 : decode cX0_tell 91 = .ok (.ireturn, 1) := by decide +kernel
theorem dX0_tell_92 : decode cX0_tell 92 = .ok (.aload_n 0, 1) := by decide +kernel
theorem dX0_tell_93 : decode cX0_tell 93 = .ok (.getfield 36, 3) := by decide +kernel
theorem dX0_tell_96 : decode cX0_tell 96 = .ok (.ireturn, 1) := by decide +kernel
theorem dX0_tell_97 : decode cX0_tell 97 = .ok (.bipush (-2), 2) := by decide +kernel
theorem dX0_tell_99 : decode cX0_tell 99 = .ok (.ireturn, 1) := by decide +kernel
theorem dX1_init_0 : decode cX1_init 0 = .ok (.aload_n 0, 1) := by decide +kernel
theorem dX1_init_1 : decode cX1_init 1 = .ok (.invokespecial 3, 3) := by decide +kernel
theorem dX1_init_4 : decode cX1_init 4 = .ok (.aload_n 0, 1) := by decide +kernel
theorem dX1_init_5 : decode cX1_init 5 = .ok (.bipush 6, 2) := by decide +kernel
theorem dX1_init_7 : decode cX1_init 7 = .ok (.anewarray 9, 3) := by decide +kernel
theorem dX1_init_10 : decode cX1_init 10 = .ok (.putfield 11, 3) := by decide +kernel
theorem dX1_init_13 : decode cX1_init 13 = .ok (.iconst 0, 1) := by decide +kernel
theorem dX1_init_14 : decode cX1_init 14 = .ok (.istore_n 1, 1) := by decide +kernel
theorem dX1_init_15 : decode cX1_init 15 = .ok (.iload_n 1, 1) := by decide +kernel
theorem dX1_init_16 : decode cX1_init 16 = .ok (.bipush 6, 2) := by decide +kernel
theorem dX1_init_18 : decode cX1_init 18 = .ok (.if_icmp .ge 22, 3) := by decide +kernel
theorem dX1_init_21 : decode cX1_init 21 = .ok (.aload_n 0, 1) := by decide +kernel
theorem dX1_init_22 : decode cX1_init 22 = .ok (.getfield 11, 3) := by decide +kernel
theorem dX1_init_25 : decode cX1_init 25 = .ok (.iload_n 1, 1) := by decide +kernel
theorem dX1_init_26 : decode cX1_init 26 = .ok (.new 9, 3) := by decide +kernel
theorem dX1_init_29 : decode cX1_init 29 = .ok (.dup, 1) := by decide +kernel
theorem dX1_init_30 : decode cX1_init 30 = .ok (.invokespecial 17, 3) := by decide +kernel
theorem dX1_init_33 : decode cX1_init 33 = .ok (.aastore, 1) := by decide +kernel
theorem dX1_init_34 : decode cX1_init 34 = .ok (.iinc 1 1, 3) := by decide +kernel
theorem dX1_init_37 : decode cX1_init 37 = .ok (.goto (-22), 3) := by decide +kernel
theorem dX1_init_40 : decode cX1_init 40 = .ok (.return_, 1) := by decide +kernel
theorem dX1_keep_0 : decode cX1_keep 0 = .ok (.aload_n 0, 1) := by decide +kernel
theorem dX1_keep_1 : decode cX1_keep 1 = .ok (.aload_n 0, 1) := by decide +kernel
theorem dX1_keep_2 : decode cX1_keep 2 = .ok (.getfield 18, 3) := by decide +kernel
theorem dX1_keep_5 : decode cX1_keep 5 = .ok (.invokevirtual 22, 3) := by decide +kernel
theorem dX1_keep_8 : decode cX1_keep 8 = .ok (.aload_n 1, 1) := by decide +kernel
theorem dX1_keep_9 : decode cX1_keep 9 = .ok (.invokevirtual 26, 3) := by decide +kernel
theorem dX1_keep_12 : decode cX1_keep 12 = .ok (.aload_n 0, 1) := by decide +kernel
theorem dX1_keep_13 : decode cX1_keep 13 = .ok (.getfield 18, 3) := by decide +kernel
theorem dX1_keep_16 : decode cX1_keep 16 = .ok (.bipush 6, 2) := by decide +kernel
theorem dX1_keep_18 : decode cX1_keep 18 = .ok (.if_icmp .ge 16, 3) := by decide +kernel
theorem dX1_keep_21 : decode cX1_keep 21 = .ok (.aload_n 0, 1) := by decide +kernel
theorem dX1_keep_22 : decode cX1_keep 22 = .ok (.dup, 1) := by decide +kernel
theorem dX1_keep_23 : decode cX1_keep 23 = .ok (.getfield 18, 3) := by decide +kernel
theorem dX1_keep_26 : decode cX1_keep 26 = .ok (.iconst 1, 1) := by decide +kernel
theorem dX1_keep_27 : decode cX1_keep 27 = .ok (.iadd, 1) := by decide +kernel
theorem dX1_keep_28 : decode cX1_keep 28 = .ok (.putfield 18, 3) := by decide +kernel
theorem dX1_keep_31 : decode cX1_keep 31 = .ok (.goto 16, 3) := by decide +kernel
theorem dX1_keep_34 : decode cX1_keep 34 = .ok (.aload_n 0, 1) := by decide +kernel
theorem dX1_keep_35 : decode cX1_keep 35 = .ok (.aload_n 0, 1) := by decide +kernel
theorem dX1_keep_36 : decode cX1_keep 36 = .ok (.getfield 30, 3) := by decide +kernel
theorem dX1_keep_39 : decode cX1_keep 39 = .ok (.iconst 1, 1) := by decide +kernel
theorem dX1_keep_40 : decode cX1_keep 40 = .ok (.iadd, 1) := by decide +kernel
theorem dX1_keep_41 : decode cX1_keep 41 = .ok (.bipush 6, 2) := by decide +kernel
theorem dX1_keep_43 : decode cX1_keep 43 = .ok (.irem, 1) := by decide +kernel
theorem dX1_keep_44 : decode cX1_keep 44 = .ok (.putfield 30, 3) := by decide +kernel
theorem dX1_keep_47 : decode cX1_keep 47 = .ok (.return_, 1) := by decide +kernel
theorem dX1_bringBack_0 : decode cX1_bringBack 0 = .ok (.aload_n 0, 1) := by decide +kernel
theorem dX1_bringBack_1 : decode cX1_bringBack 1 = .ok (.getfield 18, 3) := by decide +kernel
theorem dX1_bringBack_4 : decode cX1_bringBack 4 = .ok (.ifCond .gt 5, 3) := by decide +kernel
theorem dX1_bringBack_7 : decode cX1_bringBack 7 = .ok (.iconst 0, 1) := by decide +kernel
theorem dX1_bringBack_8 : decode cX1_bringBack 8 = .ok (.ireturn, 1) := by decide +kernel
theorem dX1_bringBack_9 : decode cX1_bringBack 9 = .ok (.aload_n 0, 1) := by decide +kernel
theorem dX1_bringBack_10 : decode cX1_bringBack 10 = .ok (.dup, 1) := by decide +kernel
theorem dX1_bringBack_11 : decode cX1_bringBack 11 = .ok (.getfield 18, 3) := by decide +kernel
theorem dX1_bringBack_14 : decode cX1_bringBack 14 = .ok (.iconst 1, 1) := by decide +kernel
theorem dX1_bringBack_15 : decode cX1_bringBack 15 = .ok (.isub, 1) := by decide +kernel
theorem dX1_bringBack_16 : decode cX1_bringBack 16 = .ok (.putfield 18, 3) := by decide +kernel
theorem dX1_bringBack_19 : decode cX1_bringBack 19 = .ok (.aload_n 1, 1) := by decide +kernel
theorem dX1_bringBack_20 : decode cX1_bringBack 20 = .ok (.aload_n 0, 1) := by decide +kernel
theorem dX1_bringBack_21 : decode cX1_bringBack 21 = .ok (.aload_n 0, 1) := by decide +kernel
theorem dX1_bringBack_22 : decode cX1_bringBack 22 = .ok (.getfield 18, 3) := by decide +kernel
theorem dX1_bringBack_25 : decode cX1_bringBack 25 = .ok (.invokevirtual 22, 3) := by decide +kernel
theorem dX1_bringBack_28 : decode cX1_bringBack 28 = .ok (.invokevirtual 26, 3) := by decide +kernel
theorem dX1_bringBack_31 : decode cX1_bringBack 31 = .ok (.iconst 1, 1) := by decide +kernel
theorem dX1_bringBack_32 : decode cX1_bringBack 32 = .ok (.ireturn, 1) := by decide +kernel
theorem dX1_stateAt_0 : decode cX1_stateAt 0 = .ok (.aload_n 0, 1) := by decide +kernel
theorem dX1_stateAt_1 : decode cX1_stateAt 1 = .ok (.getfield 11, 3) := by decide +kernel
theorem dX1_stateAt_4 : decode cX1_stateAt 4 = .ok (.aload_n 0, 1) := by decide +kernel
theorem dX1_stateAt_5 : decode cX1_stateAt 5 = .ok (.getfield 30, 3) := by decide +kernel
theorem dX1_stateAt_8 : decode cX1_stateAt 8 = .ok (.iload_n 1, 1) := by decide +kernel
theorem dX1_stateAt_9 : decode cX1_stateAt 9 = .ok (.iadd, 1) := by decide +kernel
theorem dX1_stateAt_10 : decode cX1_stateAt 10 = .ok (.bipush 6, 2) := by decide +kernel
theorem dX1_stateAt_12 : decode cX1_stateAt 12 = .ok (.invokestatic 33, 3) := by decide +kernel
theorem dX1_stateAt_15 : decode cX1_stateAt 15 = .ok (.aaload, 1) := by decide +kernel
theorem dX1_stateAt_16 : decode cX1_stateAt 16 = .ok (.areturn, 1) := by decide +kernel
theorem dX2_init_0 : decode cX2_init 0 = .ok (.aload_n 0, 1) := by decide +kernel
theorem dX2_init_1 : decode cX2_init 1 = .ok (.invokespecial 3, 3) := by decide +kernel
theorem dX2_init_4 : decode cX2_init 4 = .ok (.aload_n 0, 1) := by decide +kernel
theorem dX2_init_5 : decode cX2_init 5 = .ok (.bipush 60, 2) := by decide +kernel
theorem dX2_init_7 : decode cX2_init 7 = .ok (.putfield 9, 3) := by decide +kernel
theorem dX2_init_10 : decode cX2_init 10 = .ok (.aload_n 0, 1) := by decide +kernel
theorem dX2_init_11 : decode cX2_init 11 = .ok (.sipush 8000, 3) := by decide +kernel
theorem dX2_init_14 : decode cX2_init 14 = .ok (.putfield 15, 3) := by decide +kernel
theorem dX2_init_17 : decode cX2_init 17 = .ok (.aload_n 0, 1) := by decide +kernel
theorem dX2_init_18 : decode cX2_init 18 = .ok (.bipush 8, 2) := by decide +kernel
theorem dX2_init_20 : decode cX2_init 20 = .ok (.newarray .int, 2) := by decide +kernel
theorem dX2_init_22 : decode cX2_init 22 = .ok (.putfield 18, 3) := by decide +kernel
theorem dX2_init_25 : decode cX2_init 25 = .ok (.iconst 0, 1) := by decide +kernel
theorem dX2_init_26 : decode cX2_init 26 = .ok (.istore_n 1, 1) := by decide +kernel
theorem dX2_init_27 : decode cX2_init 27 = .ok (.iload_n 1, 1) := by decide +kernel
theorem dX2_init_28 : decode cX2_init 28 = .ok (.bipush 8, 2) := by decide +kernel
theorem dX2_init_30 : decode cX2_init 30 = .ok (.if_icmp .ge 17, 3) := by decide +kernel
theorem dX2_init_33 : decode cX2_init 33 = .ok (.aload_n 0, 1) := by decide +kernel
theorem dX2_init_34 : decode cX2_init 34 = .ok (.getfield 18, 3) := by decide +kernel
theorem dX2_init_37 : decode cX2_init 37 = .ok (.iload_n 1, 1) := by decide +kernel
theorem dX2_init_38 : decode cX2_init 38 = .ok (.bipush (-6), 2) := by decide +kernel
theorem dX2_init_40 : decode cX2_init 40 = .ok (.iastore, 1) := by decide +kernel
theorem dX2_init_41 : decode cX2_init 41 = .ok (.iinc 1 1, 3) := by decide +kernel
theorem dX2_init_44 : decode cX2_init 44 = .ok (.goto (-17), 3) := by decide +kernel
theorem dX2_init_47 : decode cX2_init 47 = .ok (.return_, 1) := by decide +kernel
theorem dX2_copyFrom_0 : decode cX2_copyFrom 0 = .ok (.aload_n 0, 1) := by decide +kernel
theorem dX2_copyFrom_1 : decode cX2_copyFrom 1 = .ok (.aload_n 1, 1) := by decide +kernel
theorem dX2_copyFrom_2 : decode cX2_copyFrom 2 = .ok (.getfield 22, 3) := by decide +kernel
theorem dX2_copyFrom_5 : decode cX2_copyFrom 5 = .ok (.putfield 22, 3) := by decide +kernel
theorem dX2_copyFrom_8 : decode cX2_copyFrom 8 = .ok (.aload_n 0, 1) := by decide +kernel
theorem dX2_copyFrom_9 : decode cX2_copyFrom 9 = .ok (.aload_n 1, 1) := by decide +kernel
theorem dX2_copyFrom_10 : decode cX2_copyFrom 10 = .ok (.getfield 9, 3) := by decide +kernel
theorem dX2_copyFrom_13 : decode cX2_copyFrom 13 = .ok (.putfield 9, 3) := by decide +kernel
theorem dX2_copyFrom_16 : decode cX2_copyFrom 16 = .ok (.aload_n 0, 1) := by decide +kernel
theorem dX2_copyFrom_17 : decode cX2_copyFrom 17 = .ok (.aload_n 1, 1) := by decide +kernel
theorem dX2_copyFrom_18 : decode cX2_copyFrom 18 = .ok (.getfield 15, 3) := by decide +kernel
theorem dX2_copyFrom_21 : decode cX2_copyFrom 21 = .ok (.putfield 15, 3) := by decide +kernel
theorem dX2_copyFrom_24 : decode cX2_copyFrom 24 = .ok (.aload_n 1, 1) := by decide +kernel
theorem dX2_copyFrom_25 : decode cX2_copyFrom 25 = .ok (.getfield 18, 3) := by decide +kernel
theorem dX2_copyFrom_28 : decode cX2_copyFrom 28 = .ok (.iconst 0, 1) := by decide +kernel
theorem dX2_copyFrom_29 : decode cX2_copyFrom 29 = .ok (.aload_n 0, 1) := by decide +kernel
theorem dX2_copyFrom_30 : decode cX2_copyFrom 30 = .ok (.getfield 18, 3) := by decide +kernel
theorem dX2_copyFrom_33 : decode cX2_copyFrom 33 = .ok (.iconst 0, 1) := by decide +kernel
theorem dX2_copyFrom_34 : decode cX2_copyFrom 34 = .ok (.bipush 8, 2) := by decide +kernel
theorem dX2_copyFrom_36 : decode cX2_copyFrom 36 = .ok (.invokestatic 25, 3) := by decide +kernel
theorem dX2_copyFrom_39 : decode cX2_copyFrom 39 = .ok (.return_, 1) := by decide +kernel
theorem dX2_tell_0 : decode cX2_tell 0 = .ok (.iload_n 1, 1) := by decide +kernel
theorem dX2_tell_1 : decode cX2_tell 1 = .ok (.ifCond .ne 8, 3) := by decide +kernel
theorem dX2_tell_4 : decode cX2_tell 4 = .ok (.aload_n 0, 1) := by decide +kernel
theorem dX2_tell_5 : decode cX2_tell 5 = .ok (.getfield 22, 3) := by decide +kernel
theorem dX2_tell_8 : decode cX2_tell 8 = .ok (.ireturn, 1) := by decide +kernel
theorem dX2_tell_9 : decode cX2_tell 9 = .ok (.iload_n 1, 1) := by decide +kernel
theorem dX2_tell_10 : decode cX2_tell 10 = .ok (.iconst 1, 1) := by decide +kernel
theorem dX2_tell_11 : decode cX2_tell 11 = .ok (.if_icmp .ne 8, 3) := by decide +kernel
theorem dX2_tell_14 : decode cX2_tell 14 = .ok (.aload_n 0, 1) := by decide +kernel
theorem dX2_tell_15 : decode cX2_tell 15 = .ok (.getfield 9, 3) := by decide +kernel
theorem dX2_tell_18 : decode cX2_tell 18 = .ok (.ireturn, 1) := by decide +kernel
theorem dX2_tell_19 : decode cX2_tell 19 = .ok (.iload_n 1, 1) := by decide +kernel
theorem dX2_tell_20 : decode cX2_tell 20 = .ok (.iconst 2, 1) := by decide +kernel
theorem dX2_tell_21 : decode cX2_tell 21 = .ok (.if_icmp .ne 8, 3) := by decide +kernel
theorem dX2_tell_24 : decode cX2_tell 24 = .ok (.aload_n 0, 1) := by decide +kernel
theorem dX2_tell_25 : decode cX2_tell 25 = .ok (.getfield 15, 3) := by decide +kernel
theorem dX2_tell_28 : decode cX2_tell 28 = .ok (.ireturn, 1) := by decide +kernel
theorem dX2_tell_29 : decode cX2_tell 29 = .ok (.iload_n 1, 1) := by decide +kernel
theorem dX2_tell_30 : decode cX2_tell 30 = .ok (.bipush 10, 2) := by decide +kernel
theorem dX2_tell_32 : decode cX2_tell 32 = .ok (.bipush 17, 2) := by decide +kernel
theorem dX2_tell_34 : decode cX2_tell 34 = .ok (.invokestatic 31, 3) := by decide +kernel
theorem dX2_tell_37 : decode cX2_tell 37 = .ok (.ifCond .eq 14, 3) := by decide +kernel
theorem dX2_tell_40 : decode cX2_tell 40 = .ok (.aload_n 0, 1) := by decide +kernel
theorem dX2_tell_41 : decode cX2_tell 41 = .ok (.iload_n 1, 1) := by decide +kernel
theorem dX2_tell_42 : decode cX2_tell 42 = .ok (.bipush 10, 2) := by decide +kernel
theorem dX2_tell_44 : decode cX2_tell 44 = .ok (.isub, 1) := by decide +kernel
theorem dX2_tell_45 : decode cX2_tell 45 = .ok (.invokevirtual 35, 3) := by decide +kernel
theorem dX2_tell_48 : decode cX2_tell 48 = .ok (.goto 5, 3) := by decide +kernel
theorem dX2_tell_51 : decode cX2_tell 51 = .ok (.bipush (-2), 2) := by decide +kernel
theorem dX2_tell_53 : decode cX2_tell 53 = .ok (.ireturn, 1) := by decide +kernel
theorem dX2_routeTo_0 : decode cX2_routeTo 0 = .ok (.iload_n 1, 1) := by decide +kernel
theorem dX2_routeTo_1 : decode cX2_routeTo 1 = .ok (.iconst 0, 1) := by decide +kernel
theorem dX2_routeTo_2 : decode cX2_routeTo 2 = .ok (.aload_n 0, 1) := by decide +kernel
theorem dX2_routeTo_3 : decode cX2_routeTo 3 = .ok (.getfield 18, 3) := by decide +kernel
theorem dX2_routeTo_6 : decode cX2_routeTo 6 = .ok (.arraylength, 1) := by decide +kernel
theorem dX2_routeTo_7 : decode cX2_routeTo 7 = .ok (.iconst 1, 1) := by decide +kernel
theorem dX2_routeTo_8 : decode cX2_routeTo 8 = .ok (.isub, 1) := by decide +kernel
theorem dX2_routeTo_9 : decode cX2_routeTo 9 = .ok (.invokestatic 31, 3) := by decide +kernel
theorem dX2_routeTo_12 : decode cX2_routeTo 12 = .ok (.ifCond .eq 12, 3) := by decide +kernel
theorem dX2_routeTo_15 : decode cX2_routeTo 15 = .ok (.aload_n 0, 1) := by decide +kernel
theorem dX2_routeTo_16 : decode cX2_routeTo 16 = .ok (.getfield 18, 3) := by decide +kernel
theorem dX2_routeTo_19 : decode cX2_routeTo 19 = .ok (.iload_n 1, 1) := by decide +kernel
theorem dX2_routeTo_20 : decode cX2_routeTo 20 = .ok (.iaload, 1) := by decide +kernel
theorem dX2_routeTo_21 : decode cX2_routeTo 21 = .ok (.goto 5, 3) := by decide +kernel
theorem dX2_routeTo_24 : decode cX2_routeTo 24 = .ok (.bipush (-6), 2) := by decide +kernel
theorem dX2_routeTo_26 : decode cX2_routeTo 26 = .ok (.ireturn, 1) := by decide +kernel
theorem dX3_init_0 : decode cX3_init 0 = .ok (.aload_n 0, 1) := by decide +kernel
theorem dX3_init_1 : decode cX3_init 1 = .ok (.invokespecial 3, 3) := by decide +kernel
theorem dX3_init_4 : decode cX3_init 4 = .ok (.aload_n 0, 1) := by decide +kernel
theorem dX3_init_5 : decode cX3_init 5 = .ok (.bipush 80, 2) := by decide +kernel
theorem dX3_init_7 : decode cX3_init 7 = .ok (.newarray .char, 2) := by decide +kernel
theorem dX3_init_9 : decode cX3_init 9 = .ok (.putfield 9, 3) := by decide +kernel
theorem dX3_init_12 : decode cX3_init 12 = .ok (.aload_n 0, 1) := by decide +kernel
theorem dX3_init_13 : decode cX3_init 13 = .ok (.iconst 3, 1) := by decide +kernel
theorem dX3_init_14 : decode cX3_init 14 = .ok (.newarray .int, 2) := by decide +kernel
theorem dX3_init_16 : decode cX3_init 16 = .ok (.putfield 15, 3) := by decide +kernel
theorem dX3_init_19 : decode cX3_init 19 = .ok (.return_, 1) := by decide +kernel
theorem dX3_charactersIn_0 : decode cX3_charactersIn 0 = .ok (.iconst 0, 1) := by decide +kernel
theorem dX3_charactersIn_1 : decode cX3_charactersIn 1 = .ok (.istore_n 2, 1) := by decide +kernel
theorem dX3_charactersIn_2 : decode cX3_charactersIn 2 = .ok (.lload_n 0, 1) := by decide +kernel
theorem dX3_charactersIn_3 : decode cX3_charactersIn 3 = .ok (.lstore_n 3, 1) := by decide +kernel
theorem dX3_charactersIn_4 : decode cX3_charactersIn 4 = .ok (.iconst 0, 1) := by decide +kernel
theorem dX3_charactersIn_5 : decode cX3_charactersIn 5 = .ok (.istore 5, 2) := by decide +kernel
theorem dX3_charactersIn_7 : decode cX3_charactersIn 7 = .ok (.iload 5, 2) := by decide +kernel
theorem dX3_charactersIn_9 : decode cX3_charactersIn 9 = .ok (.bipush 8, 2) := by decide +kernel
theorem dX3_charactersIn_11 : decode cX3_charactersIn 11 = .ok (.if_icmp .ge 41, 3) := by decide +kernel
theorem dX3_charactersIn_14 : decode cX3_charactersIn 14 = .ok (.lload_n 3, 1) := by decide +kernel
theorem dX3_charactersIn_15 : decode cX3_charactersIn 15 = .ok (.lconst 0, 1) := by decide +kernel
theorem dX3_charactersIn_16 : decode cX3_charactersIn 16 = .ok (.lcmp, 1) := by decide +kernel
theorem dX3_charactersIn_17 : decode cX3_charactersIn 17 = .ok (.ifCond .eq 35, 3) := by decide +kernel
theorem dX3_charactersIn_20 : decode cX3_charactersIn 20 = .ok (.lload_n 3, 1) := by decide +kernel
theorem dX3_charactersIn_21 : decode cX3_charactersIn 21 = .ok (.ldc2_w 19, 3) := by decide +kernel
theorem dX3_charactersIn_24 : decode cX3_charactersIn 24 = .ok (.land, 1) := by decide +kernel
theorem dX3_charactersIn_25 : decode cX3_charactersIn 25 = .ok (.l2i, 1) := by decide +kernel
theorem dX3_charactersIn_26 : decode cX3_charactersIn 26 = .ok (.bipush 33, 2) := by decide +kernel
theorem dX3_charactersIn_28 : decode cX3_charactersIn 28 = .ok (.bipush 126, 2) := by decide +kernel
theorem dX3_charactersIn_30 : decode cX3_charactersIn 30 = .ok (.invokestatic 21, 3) := by decide +kernel
theorem dX3_charactersIn_33 : decode cX3_charactersIn 33 = .ok (.ifCond .ne 5, 3) := by decide +kernel
theorem dX3_charactersIn_36 : decode cX3_charactersIn 36 = .ok (.iconst 0, 1) := by decide +kernel
theorem dX3_charactersIn_37 : decode cX3_charactersIn 37 = .ok (.ireturn, 1) := by decide +kernel
theorem dX3_charactersIn_38 : decode cX3_charactersIn 38 = .ok (.lload_n 3, 1) := by decide +kernel
theorem dX3_charactersIn_39 : decode cX3_charactersIn 39 = .ok (.bipush 8, 2) := by decide +kernel
theorem dX3_charactersIn_41 : decode cX3_charactersIn 41 = .ok (.lushr, 1) := by decide +kernel
theorem dX3_charactersIn_42 : decode cX3_charactersIn 42 = .ok (.lstore_n 3, 1) := by decide +kernel
theorem dX3_charactersIn_43 : decode cX3_charactersIn 43 = .ok (.iinc 2 1, 3) := by decide +kernel
theorem dX3_charactersIn_46 : decode cX3_charactersIn 46 = .ok (.iinc 5 1, 3) := by decide +kernel
theorem dX3_charactersIn_49 : decode cX3_charactersIn 49 = .ok (.goto (-42), 3) := by decide +kernel
theorem dX3_charactersIn_52 : decode cX3_charactersIn 52 = .ok (.iload_n 2, 1) := by decide +kernel
theorem dX3_charactersIn_53 : decode cX3_charactersIn 53 = .ok (.ireturn, 1) := by decide +kernel
theorem dX3_append_0 : decode cX3_append 0 = .ok (.lload_n 1, 1) := by decide +kernel
theorem dX3_append_1 : decode cX3_append 1 = .ok (.invokestatic 25, 3) := by decide +kernel
theorem dX3_append_4 : decode cX3_append 4 = .ok (.istore_n 3, 1) := by decide +kernel
theorem dX3_append_5 : decode cX3_append 5 = .ok (.iload_n 3, 1) := by decide +kernel
theorem dX3_append_6 : decode cX3_append 6 = .ok (.ifCond .ne 6, 3) := by decide +kernel
theorem dX3_append_9 : decode cX3_append 9 = .ok (.bipush (-2), 2) := by decide +kernel
theorem dX3_append_11 : decode cX3_append 11 = .ok (.ireturn, 1) := by decide +kernel
theorem dX3_append_12 : decode cX3_append 12 = .ok (.aload_n 0, 1) := by decide +kernel
theorem dX3_append_13 : decode cX3_append 13 = .ok (.getfield 29, 3) := by decide +kernel
theorem dX3_append_16 : decode cX3_append 16 = .ok (.iload_n 3, 1) := by decide +kernel
theorem dX3_append_17 : decode cX3_append 17 = .ok (.iadd, 1) := by decide +kernel
theorem dX3_append_18 : decode cX3_append 18 = .ok (.aload_n 0, 1) := by decide +kernel
theorem dX3_append_19 : decode cX3_append 19 = .ok (.getfield 9, 3) := by decide +kernel
theorem dX3_append_22 : decode cX3_append 22 = .ok (.arraylength, 1) := by decide +kernel
theorem dX3_append_23 : decode cX3_append 23 = .ok (.if_icmp .le 6, 3) := by decide +kernel
theorem dX3_append_26 : decode cX3_append 26 = .ok (.bipush (-4), 2) := by decide +kernel
theorem dX3_append_28 : decode cX3_append 28 = .ok (.ireturn, 1) := by decide +kernel
theorem dX3_append_29 : decode cX3_append 29 = .ok (.iload_n 3, 1) := by decide +kernel
theorem dX3_append_30 : decode cX3_append 30 = .ok (.iconst 1, 1) := by decide +kernel
theorem dX3_append_31 : decode cX3_append 31 = .ok (.isub, 1) := by decide +kernel
theorem dX3_append_32 : decode cX3_append 32 = .ok (.istore 4, 2) := by decide +kernel
theorem dX3_append_34 : decode cX3_append 34 = .ok (.iload 4, 2) := by decide +kernel
theorem dX3_append_36 : decode cX3_append 36 = .ok (.ifCond .lt 41, 3) := by decide +kernel
theorem dX3_append_39 : decode cX3_append 39 = .ok (.aload_n 0, 1) := by decide +kernel
theorem dX3_append_40 : decode cX3_append 40 = .ok (.getfield 9, 3) := by decide +kernel
theorem dX3_append_43 : decode cX3_append 43 = .ok (.aload_n 0, 1) := by decide +kernel
theorem dX3_append_44 : decode cX3_append 44 = .ok (.getfield 29, 3) := by decide +kernel
theorem dX3_append_47 : decode cX3_append 47 = .ok (.lload_n 1, 1) := by decide +kernel
theorem dX3_append_48 : decode cX3_append 48 = .ok (.bipush 8, 2) := by decide +kernel
theorem dX3_append_50 : decode cX3_append 50 = .ok (.iload 4, 2) := by decide +kernel
theorem dX3_append_52 : decode cX3_append 52 = .ok (.imul, 1) := by decide +kernel
theorem dX3_append_53 : decode cX3_append 53 = .ok (.lushr, 1) := by decide +kernel
theorem dX3_append_54 : decode cX3_append 54 = .ok (.ldc2_w 19, 3) := by decide +kernel
theorem dX3_append_57 : decode cX3_append 57 = .ok (.land, 1) := by decide +kernel
theorem dX3_append_58 : decode cX3_append 58 = .ok (.l2i, 1) := by decide +kernel
theorem dX3_append_59 : decode cX3_append 59 = .ok (.i2c, 1) := by decide +kernel
theorem dX3_append_60 : decode cX3_append 60 = .ok (.castore, 1) := by decide +kernel
theorem dX3_append_61 : decode cX3_append 61 = .ok (.aload_n 0, 1) := by decide +kernel
theorem dX3_append_62 : decode cX3_append 62 = .ok (.dup, 1) := by decide +kernel
theorem dX3_append_63 : decode cX3_append 63 = .ok (.getfield 29, 3) := by decide +kernel
theorem dX3_append_66 : decode cX3_append 66 = .ok (.iconst 1, 1) := by decide +kernel
theorem dX3_append_67 : decode cX3_append 67 = .ok (.iadd, 1) := by decide +kernel
theorem dX3_append_68 : decode cX3_append 68 = .ok (.putfield 29, 3) := by decide +kernel
theorem dX3_append_71 : decode cX3_append 71 = .ok (.iinc 4 (-1), 3) := by decide +kernel
theorem dX3_append_74 : decode cX3_append 74 = .ok (.goto (-40), 3) := by decide +kernel
theorem dX3_append_77 : decode cX3_append 77 = .ok (.aload_n 0, 1) := by decide +kernel
theorem dX3_append_78 : decode cX3_append 78 = .ok (.getfield 29, 3) := by decide +kernel
theorem dX3_append_81 : decode cX3_append 81 = .ok (.ireturn, 1) := by decide +kernel
theorem dX3_how_0 : decode cX3_how 0 = .ok (.bipush 40, 2) := by decide +kernel
theorem dX3_how_2 : decode cX3_how 2 = .ok (.aload_n 0, 1) := by decide +kernel
theorem dX3_how_3 : decode cX3_how 3 = .ok (.getfield 33, 3) := by decide +kernel
theorem dX3_how_6 : decode cX3_how 6 = .ok (.ifCond .eq 7, 3) := by decide +kernel
theorem dX3_how_9 : decode cX3_how 9 = .ok (.iconst 0, 1) := by decide +kernel
theorem dX3_how_10 : decode cX3_how 10 = .ok (.goto 4, 3) := by decide +kernel
theorem dX3_how_13 : decode cX3_how 13 = .ok (.iconst 1, 1) := by decide +kernel
theorem dX3_how_14 : decode cX3_how 14 = .ok (.iadd, 1) := by decide +kernel
theorem dX3_how_15 : decode cX3_how 15 = .ok (.ireturn, 1) := by decide +kernel
theorem dX3_last_0 : decode cX3_last 0 = .ok (.aload_n 0, 1) := by decide +kernel
theorem dX3_last_1 : decode cX3_last 1 = .ok (.getfield 33, 3) := by decide +kernel
theorem dX3_last_4 : decode cX3_last 4 = .ok (.ifCond .eq 7, 3) := by decide +kernel
theorem dX3_last_7 : decode cX3_last 7 = .ok (.iconst 1, 1) := by decide +kernel
theorem dX3_last_8 : decode cX3_last 8 = .ok (.goto 4, 3) := by decide +kernel
theorem dX3_last_11 : decode cX3_last 11 = .ok (.iconst 0, 1) := by decide +kernel
theorem dX3_last_12 : decode cX3_last 12 = .ok (.ireturn, 1) := by decide +kernel
theorem dX3_findFault_0 : decode cX3_findFault 0 = .ok (.aload_n 0, 1) := by decide +kernel
theorem dX3_findFault_1 : decode cX3_findFault 1 = .ok (.iconst 0, 1) := by decide +kernel
theorem dX3_findFault_2 : decode cX3_findFault 2 = .ok (.putfield 37, 3) := by decide +kernel
theorem dX3_findFault_5 : decode cX3_findFault 5 = .ok (.iconst 0, 1) := by decide +kernel
theorem dX3_findFault_6 : decode cX3_findFault 6 = .ok (.istore_n 1, 1) := by decide +kernel
theorem dX3_findFault_7 : decode cX3_findFault 7 = .ok (.iload_n 1, 1) := by decide +kernel
theorem dX3_findFault_8 : decode cX3_findFault 8 = .ok (.aload_n 0, 1) := by decide +kernel
theorem dX3_findFault_9 : decode cX3_findFault 9 = .ok (.getfield 29, 3) := by decide +kernel
theorem dX3_findFault_12 : decode cX3_findFault 12 = .ok (.if_icmp .gt 35, 3) := by decide +kernel
theorem dX3_findFault_15 : decode cX3_findFault 15 = .ok (.aload_n 0, 1) := by decide +kernel
theorem dX3_findFault_16 : decode cX3_findFault 16 = .ok (.invokevirtual 40, 3) := by decide +kernel
theorem dX3_findFault_19 : decode cX3_findFault 19 = .ok (.ifCond .ne 8, 3) := by decide +kernel
theorem dX3_findFault_22 : decode cX3_findFault 22 = .ok (.aload_n 0, 1) := by decide +kernel
theorem dX3_findFault_23 : decode cX3_findFault 23 = .ok (.getfield 37, 3) := by decide +kernel
theorem dX3_findFault_26 : decode cX3_findFault 26 = .ok (.ireturn, 1) := by decide +kernel
theorem dX3_findFault_27 : decode cX3_findFault 27 = .ok (.aload_n 0, 1) := by decide +kernel
theorem dX3_findFault_28 : decode cX3_findFault 28 = .ok (.getfield 37, 3) := by decide +kernel
theorem dX3_findFault_31 : decode cX3_findFault 31 = .ok (.aload_n 0, 1) := by decide +kernel
theorem dX3_findFault_32 : decode cX3_findFault 32 = .ok (.getfield 29, 3) := by decide +kernel
theorem dX3_findFault_35 : decode cX3_findFault 35 = .ok (.if_icmp .lt 6, 3) := by decide +kernel
theorem dX3_findFault_38 : decode cX3_findFault 38 = .ok (.bipush (-6), 2) := by decide +kernel
theorem dX3_findFault_40 : decode cX3_findFault 40 = .ok (.ireturn, 1) := by decide +kernel
theorem dX3_findFault_41 : decode cX3_findFault 41 = .ok (.iinc 1 1, 3) := by decide +kernel
theorem dX3_findFault_44 : decode cX3_findFault 44 = .ok (.goto (-37), 3) := by decide +kernel
theorem dX3_findFault_47 : decode cX3_findFault 47 = .ok (.aload_n 0, 1) := by decide +kernel
theorem dX3_findFault_48 : decode cX3_findFault 48 = .ok (.getfield 37, 3) := by decide +kernel
theorem dX3_findFault_51 : decode cX3_findFault 51 = .ok (.ireturn, 1) := by decide +kernel
theorem dX3_readOrder_0 : decode cX3_readOrder 0 = .ok (.aload_n 0, 1) := by decide +kernel
theorem dX3_readOrder_1 : decode cX3_readOrder 1 = .ok (.getfield 37, 3) := by decide +kernel
theorem dX3_readOrder_4 : decode cX3_readOrder 4 = .ok (.ifCond .le 14, 3) := by decide +kernel
theorem dX3_readOrder_7 : decode cX3_readOrder 7 = .ok (.aload_n 0, 1) := by decide +kernel
theorem dX3_readOrder_8 : decode cX3_readOrder 8 = .ok (.bipush 59, 2) := by decide +kernel
theorem dX3_readOrder_10 : decode cX3_readOrder 10 = .ok (.invokevirtual 44, 3) := by decide +kernel
theorem dX3_readOrder_13 : decode cX3_readOrder 13 = .ok (.ifCond .ne 5, 3) := by decide +kernel
theorem dX3_readOrder_16 : decode cX3_readOrder 16 = .ok (.iconst 0, 1) := by decide +kernel
theorem dX3_readOrder_17 : decode cX3_readOrder 17 = .ok (.ireturn, 1) := by decide +kernel
theorem dX3_readOrder_18 : decode cX3_readOrder 18 = .ok (.aload_n 0, 1) := by decide +kernel
theorem dX3_readOrder_19 : decode cX3_readOrder 19 = .ok (.aload_n 0, 1) := by decide +kernel
theorem dX3_readOrder_20 : decode cX3_readOrder 20 = .ok (.invokevirtual 48, 3) := by decide +kernel
theorem dX3_readOrder_23 : decode cX3_readOrder 23 = .ok (.putfield 52, 3) := by decide +kernel
theorem dX3_readOrder_26 : decode cX3_readOrder 26 = .ok (.aload_n 0, 1) := by decide +kernel
theorem dX3_readOrder_27 : decode cX3_readOrder 27 = .ok (.getfield 52, 3) := by decide +kernel
theorem dX3_readOrder_30 : decode cX3_readOrder 30 = .ok (.bipush 115, 2) := by decide +kernel
theorem dX3_readOrder_32 : decode cX3_readOrder 32 = .ok (.if_icmp .ne 70, 3) := by decide +kernel
theorem dX3_readOrder_35 : decode cX3_readOrder 35 = .ok (.aload_n 0, 1) := by decide +kernel
theorem dX3_readOrder_36 : decode cX3_readOrder 36 = .ok (.dup, 1) := by decide +kernel
theorem dX3_readOrder_37 : decode cX3_readOrder 37 = .ok (.getfield 37, 3) := by decide +kernel
theorem dX3_readOrder_40 : decode cX3_readOrder 40 = .ok (.iconst 1, 1) := by decide +kernel
theorem dX3_readOrder_41 : decode cX3_readOrder 41 = .ok (.iadd, 1) := by decide +kernel
theorem dX3_readOrder_42 : decode cX3_readOrder 42 = .ok (.putfield 37, 3) := by decide +kernel
theorem dX3_readOrder_45 : decode cX3_readOrder 45 = .ok (.aload_n 0, 1) := by decide +kernel
theorem dX3_readOrder_46 : decode cX3_readOrder 46 = .ok (.iconst 0, 1) := by decide +kernel
theorem dX3_readOrder_47 : decode cX3_readOrder 47 = .ok (.invokevirtual 56, 3) := by decide +kernel
theorem dX3_readOrder_50 : decode cX3_readOrder 50 = .ok (.ifCond .eq 50, 3) := by decide +kernel
theorem dX3_readOrder_53 : decode cX3_readOrder 53 = .ok (.aload_n 0, 1) := by decide +kernel
theorem dX3_readOrder_54 : decode cX3_readOrder 54 = .ok (.bipush 62, 2) := by decide +kernel
theorem dX3_readOrder_56 : decode cX3_readOrder 56 = .ok (.invokevirtual 44, 3) := by decide +kernel
theorem dX3_readOrder_59 : decode cX3_readOrder 59 = .ok (.ifCond .eq 41, 3) := by decide +kernel
theorem dX3_readOrder_62 : decode cX3_readOrder 62 = .ok (.aload_n 0, 1) := by decide +kernel
theorem dX3_readOrder_63 : decode cX3_readOrder 63 = .ok (.iconst 1, 1) := by decide +kernel
theorem dX3_readOrder_64 : decode cX3_readOrder 64 = .ok (.invokevirtual 56, 3) := by decide +kernel
theorem dX3_readOrder_67 : decode cX3_readOrder 67 = .ok (.ifCond .eq 33, 3) := by decide +kernel
theorem dX3_readOrder_70 : decode cX3_readOrder 70 = .ok (.aload_n 0, 1) := by decide +kernel
theorem dX3_readOrder_71 : decode cX3_readOrder 71 = .ok (.bipush 42, 2) := by decide +kernel
theorem dX3_readOrder_73 : decode cX3_readOrder 73 = .ok (.invokevirtual 44, 3) := by decide +kernel
theorem dX3_readOrder_76 : decode cX3_readOrder 76 = .ok (.ifCond .eq 24, 3) := by decide +kernel
theorem dX3_readOrder_79 : decode cX3_readOrder 79 = .ok (.aload_n 0, 1) := by decide +kernel
theorem dX3_readOrder_80 : decode cX3_readOrder 80 = .ok (.iconst 2, 1) := by decide +kernel
theorem dX3_readOrder_81 : decode cX3_readOrder 81 = .ok (.invokevirtual 60, 3) := by decide +kernel
theorem dX3_readOrder_84 : decode cX3_readOrder 84 = .ok (.ifCond .eq 16, 3) := by decide +kernel
theorem dX3_readOrder_87 : decode cX3_readOrder 87 = .ok (.aload_n 0, 1) := by decide +kernel
theorem dX3_readOrder_88 : decode cX3_readOrder 88 = .ok (.bipush 33, 2) := by decide +kernel
theorem dX3_readOrder_90 : decode cX3_readOrder 90 = .ok (.invokevirtual 63, 3) := by decide +kernel
theorem dX3_readOrder_93 : decode cX3_readOrder 93 = .ok (.ifCond .eq 7, 3) := by decide +kernel
theorem dX3_readOrder_96 : decode cX3_readOrder 96 = .ok (.iconst 1, 1) := by decide +kernel
theorem dX3_readOrder_97 : decode cX3_readOrder 97 = .ok (.goto 4, 3) := by decide +kernel
theorem dX3_readOrder_100 : decode cX3_readOrder 100 = .ok (.iconst 0, 1) := by decide +kernel
theorem dX3_readOrder_101 : decode cX3_readOrder 101 = .ok (.ireturn, 1) := by decide +kernel
theorem dX3_readOrder_102 : decode cX3_readOrder 102 = .ok (.aload_n 0, 1) := by decide +kernel
theorem dX3_readOrder_103 : decode cX3_readOrder 103 = .ok (.getfield 52, 3) := by decide +kernel
theorem dX3_readOrder_106 : decode cX3_readOrder 106 = .ok (.bipush 102, 2) := by decide +kernel
theorem dX3_readOrder_108 : decode cX3_readOrder 108 = .ok (.if_icmp .ne 70, 3) := by decide +kernel
theorem dX3_readOrder_111 : decode cX3_readOrder 111 = .ok (.aload_n 0, 1) := by decide +kernel
theorem dX3_readOrder_112 : decode cX3_readOrder 112 = .ok (.dup, 1) := by decide +kernel
theorem dX3_readOrder_113 : decode cX3_readOrder 113 = .ok (.getfield 37, 3) := by decide +kernel
theorem dX3_readOrder_116 : decode cX3_readOrder 116 = .ok (.iconst 1, 1) := by decide +kernel
theorem dX3_readOrder_117 : decode cX3_readOrder 117 = .ok (.iadd, 1) := by decide +kernel
theorem dX3_readOrder_118 : decode cX3_readOrder 118 = .ok (.putfield 37, 3) := by decide +kernel
theorem dX3_readOrder_121 : decode cX3_readOrder 121 = .ok (.aload_n 0, 1) := by decide +kernel
theorem dX3_readOrder_122 : decode cX3_readOrder 122 = .ok (.iconst 0, 1) := by decide +kernel
theorem dX3_readOrder_123 : decode cX3_readOrder 123 = .ok (.invokevirtual 60, 3) := by decide +kernel
theorem dX3_readOrder_126 : decode cX3_readOrder 126 = .ok (.ifCond .eq 50, 3) := by decide +kernel
theorem dX3_readOrder_129 : decode cX3_readOrder 129 = .ok (.aload_n 0, 1) := by decide +kernel
theorem dX3_readOrder_130 : decode cX3_readOrder 130 = .ok (.bipush 43, 2) := by decide +kernel
theorem dX3_readOrder_132 : decode cX3_readOrder 132 = .ok (.invokevirtual 44, 3) := by decide +kernel
theorem dX3_readOrder_135 : decode cX3_readOrder 135 = .ok (.ifCond .eq 41, 3) := by decide +kernel
theorem dX3_readOrder_138 : decode cX3_readOrder 138 = .ok (.aload_n 0, 1) := by decide +kernel
theorem dX3_readOrder_139 : decode cX3_readOrder 139 = .ok (.iconst 1, 1) := by decide +kernel
theorem dX3_readOrder_140 : decode cX3_readOrder 140 = .ok (.invokevirtual 60, 3) := by decide +kernel
theorem dX3_readOrder_143 : decode cX3_readOrder 143 = .ok (.ifCond .eq 33, 3) := by decide +kernel
theorem dX3_readOrder_146 : decode cX3_readOrder 146 = .ok (.aload_n 0, 1) := by decide +kernel
theorem dX3_readOrder_147 : decode cX3_readOrder 147 = .ok (.bipush 42, 2) := by decide +kernel
theorem dX3_readOrder_149 : decode cX3_readOrder 149 = .ok (.invokevirtual 44, 3) := by decide +kernel
theorem dX3_readOrder_152 : decode cX3_readOrder 152 = .ok (.ifCond .eq 24, 3) := by decide +kernel
theorem dX3_readOrder_155 : decode cX3_readOrder 155 = .ok (.aload_n 0, 1) := by decide +kernel
theorem dX3_readOrder_156 : decode cX3_readOrder 156 = .ok (.iconst 2, 1) := by decide +kernel
theorem dX3_readOrder_157 : decode cX3_readOrder 157 = .ok (.invokevirtual 60, 3) := by decide +kernel
theorem dX3_readOrder_160 : decode cX3_readOrder 160 = .ok (.ifCond .eq 16, 3) := by decide +kernel
theorem dX3_readOrder_163 : decode cX3_readOrder 163 = .ok (.aload_n 0, 1) := by decide +kernel
theorem dX3_readOrder_164 : decode cX3_readOrder 164 = .ok (.bipush 46, 2) := by decide +kernel
theorem dX3_readOrder_166 : decode cX3_readOrder 166 = .ok (.invokevirtual 63, 3) := by decide +kernel
theorem dX3_readOrder_169 : decode cX3_readOrder 169 = .ok (.ifCond .eq 7, 3) := by decide +kernel
theorem dX3_readOrder_172 : decode cX3_readOrder 172 = .ok (.iconst 1, 1) := by decide +kernel
theorem dX3_readOrder_173 : decode cX3_readOrder 173 = .ok (.goto 4, 3) := by decide +kernel
theorem dX3_readOrder_176 : decode cX3_readOrder 176 = .ok (.iconst 0, 1) := by decide +kernel
theorem dX3_readOrder_177 : decode cX3_readOrder 177 = .ok (.ireturn, 1) := by decide +kernel
theorem dX3_readOrder_178 : decode cX3_readOrder 178 = .ok (.aload_n 0, 1) := by decide +kernel
theorem dX3_readOrder_179 : decode cX3_readOrder 179 = .ok (.getfield 52, 3) := by decide +kernel
theorem dX3_readOrder_182 : decode cX3_readOrder 182 = .ok (.bipush 114, 2) := by decide +kernel
theorem dX3_readOrder_184 : decode cX3_readOrder 184 = .ok (.if_icmp .eq 14, 3) := by decide +kernel
theorem dX3_readOrder_187 : decode cX3_readOrder 187 = .ok (.aload_n 0, 1) := by decide +kernel
theorem dX3_readOrder_188 : decode cX3_readOrder 188 = .ok (.getfield 52, 3) := by decide +kernel
theorem dX3_readOrder_191 : decode cX3_readOrder 191 = .ok (.bipush 116, 2) := by decide +kernel
theorem dX3_readOrder_193 : decode cX3_readOrder 193 = .ok (.if_icmp .eq 5, 3) := by decide +kernel
theorem dX3_readOrder_196 : decode cX3_readOrder 196 = .ok (.iconst 0, 1) := by decide +kernel
theorem dX3_readOrder_197 : decode cX3_readOrder 197 = .ok (.ireturn, 1) := by decide +kernel
theorem dX3_readOrder_198 : decode cX3_readOrder 198 = .ok (.aload_n 0, 1) := by decide +kernel
theorem dX3_readOrder_199 : decode cX3_readOrder 199 = .ok (.dup, 1) := by decide +kernel
theorem dX3_readOrder_200 : decode cX3_readOrder 200 = .ok (.getfield 37, 3) := by decide +kernel
theorem dX3_readOrder_203 : decode cX3_readOrder 203 = .ok (.iconst 1, 1) := by decide +kernel
theorem dX3_readOrder_204 : decode cX3_readOrder 204 = .ok (.iadd, 1) := by decide +kernel
theorem dX3_readOrder_205 : decode cX3_readOrder 205 = .ok (.putfield 37, 3) := by decide +kernel
theorem dX3_readOrder_208 : decode cX3_readOrder 208 = .ok (.aload_n 0, 1) := by decide +kernel
theorem dX3_readOrder_209 : decode cX3_readOrder 209 = .ok (.iconst 0, 1) := by decide +kernel
theorem dX3_readOrder_210 : decode cX3_readOrder 210 = .ok (.invokevirtual 60, 3) := by decide +kernel
theorem dX3_readOrder_213 : decode cX3_readOrder 213 = .ok (.ireturn, 1) := by decide +kernel
theorem dX3_here_0 : decode cX3_here 0 = .ok (.aload_n 0, 1) := by decide +kernel
theorem dX3_here_1 : decode cX3_here 1 = .ok (.getfield 37, 3) := by decide +kernel
theorem dX3_here_4 : decode cX3_here 4 = .ok (.aload_n 0, 1) := by decide +kernel
theorem dX3_here_5 : decode cX3_here 5 = .ok (.getfield 29, 3) := by decide +kernel
theorem dX3_here_8 : decode cX3_here 8 = .ok (.if_icmp .ge 15, 3) := by decide +kernel
theorem dX3_here_11 : decode cX3_here 11 = .ok (.aload_n 0, 1) := by decide +kernel
theorem dX3_here_12 : decode cX3_here 12 = .ok (.getfield 9, 3) := by decide +kernel
theorem dX3_here_15 : decode cX3_here 15 = .ok (.aload_n 0, 1) := by decide +kernel
theorem dX3_here_16 : decode cX3_here 16 = .ok (.getfield 37, 3) := by decide +kernel
theorem dX3_here_19 : decode cX3_here 19 = .ok (.caload, 1) := by decide +kernel
theorem dX3_here_20 : decode cX3_here 20 = .ok (.goto 4, 3) := by decide +kernel
theorem dX3_here_23 : decode cX3_here 23 = .ok (.iconst 0, 1) := by decide +kernel
theorem dX3_here_24 : decode cX3_here 24 = .ok (.ireturn, 1) := by decide +kernel
theorem dX3_take_0 : decode cX3_take 0 = .ok (.aload_n 0, 1) := by decide +kernel
theorem dX3_take_1 : decode cX3_take 1 = .ok (.invokevirtual 48, 3) := by decide +kernel
theorem dX3_take_4 : decode cX3_take 4 = .ok (.iload_n 1, 1) := by decide +kernel
theorem dX3_take_5 : decode cX3_take 5 = .ok (.if_icmp .eq 5, 3) := by decide +kernel
theorem dX3_take_8 : decode cX3_take 8 = .ok (.iconst 0, 1) := by decide +kernel
theorem dX3_take_9 : decode cX3_take 9 = .ok (.ireturn, 1) := by decide +kernel
theorem dX3_take_10 : decode cX3_take 10 = .ok (.aload_n 0, 1) := by decide +kernel
theorem dX3_take_11 : decode cX3_take 11 = .ok (.dup, 1) := by decide +kernel
theorem dX3_take_12 : decode cX3_take 12 = .ok (.getfield 37, 3) := by decide +kernel
theorem dX3_take_15 : decode cX3_take 15 = .ok (.iconst 1, 1) := by decide +kernel
theorem dX3_take_16 : decode cX3_take 16 = .ok (.iadd, 1) := by decide +kernel
theorem dX3_take_17 : decode cX3_take 17 = .ok (.putfield 37, 3) := by decide +kernel
theorem dX3_take_20 : decode cX3_take 20 = .ok (.iconst 1, 1) := by decide +kernel
theorem dX3_take_21 : decode cX3_take 21 = .ok (.ireturn, 1) := by decide +kernel
theorem dX3_readNode_0 : decode cX3_readNode 0 = .ok (.aload_n 0, 1) := by decide +kernel
theorem dX3_readNode_1 : decode cX3_readNode 1 = .ok (.invokevirtual 48, 3) := by decide +kernel
theorem dX3_readNode_4 : decode cX3_readNode 4 = .ok (.bipush 48, 2) := by decide +kernel
theorem dX3_readNode_6 : decode cX3_readNode 6 = .ok (.isub, 1) := by decide +kernel
theorem dX3_readNode_7 : decode cX3_readNode 7 = .ok (.istore_n 2, 1) := by decide +kernel
theorem dX3_readNode_8 : decode cX3_readNode 8 = .ok (.iload_n 2, 1) := by decide +kernel
theorem dX3_readNode_9 : decode cX3_readNode 9 = .ok (.iconst 0, 1) := by decide +kernel
theorem dX3_readNode_10 : decode cX3_readNode 10 = .ok (.bipush 7, 2) := by decide +kernel
theorem dX3_readNode_12 : decode cX3_readNode 12 = .ok (.invokestatic 21, 3) := by decide +kernel
theorem dX3_readNode_15 : decode cX3_readNode 15 = .ok (.ifCond .ne 5, 3) := by decide +kernel
theorem dX3_readNode_18 : decode cX3_readNode 18 = .ok (.iconst 0, 1) := by decide +kernel
theorem dX3_readNode_19 : decode cX3_readNode 19 = .ok (.ireturn, 1) := by decide +kernel
theorem dX3_readNode_20 : decode cX3_readNode 20 = .ok (.aload_n 0, 1) := by decide +kernel
theorem dX3_readNode_21 : decode cX3_readNode 21 = .ok (.getfield 15, 3) := by decide +kernel
theorem dX3_readNode_24 : decode cX3_readNode 24 = .ok (.iload_n 1, 1) := by decide +kernel
theorem dX3_readNode_25 : decode cX3_readNode 25 = .ok (.iload_n 2, 1) := by decide +kernel
theorem dX3_readNode_26 : decode cX3_readNode 26 = .ok (.iastore, 1) := by decide +kernel
theorem dX3_readNode_27 : decode cX3_readNode 27 = .ok (.aload_n 0, 1) := by decide +kernel
theorem dX3_readNode_28 : decode cX3_readNode 28 = .ok (.dup, 1) := by decide +kernel
theorem dX3_readNode_29 : decode cX3_readNode 29 = .ok (.getfield 37, 3) := by decide +kernel
theorem dX3_readNode_32 : decode cX3_readNode 32 = .ok (.iconst 1, 1) := by decide +kernel
theorem dX3_readNode_33 : decode cX3_readNode 33 = .ok (.iadd, 1) := by decide +kernel
theorem dX3_readNode_34 : decode cX3_readNode 34 = .ok (.putfield 37, 3) := by decide +kernel
theorem dX3_readNode_37 : decode cX3_readNode 37 = .ok (.iconst 1, 1) := by decide +kernel
theorem dX3_readNode_38 : decode cX3_readNode 38 = .ok (.ireturn, 1) := by decide +kernel
theorem dX3_readNumber_0 : decode cX3_readNumber 0 = .ok (.aload_n 0, 1) := by decide +kernel
theorem dX3_readNumber_1 : decode cX3_readNumber 1 = .ok (.getfield 37, 3) := by decide +kernel
theorem dX3_readNumber_4 : decode cX3_readNumber 4 = .ok (.istore_n 2, 1) := by decide +kernel
theorem dX3_readNumber_5 : decode cX3_readNumber 5 = .ok (.iconst 0, 1) := by decide +kernel
theorem dX3_readNumber_6 : decode cX3_readNumber 6 = .ok (.istore_n 3, 1) := by decide +kernel
theorem dX3_readNumber_7 : decode cX3_readNumber 7 = .ok (.aload_n 0, 1) := by decide +kernel
theorem dX3_readNumber_8 : decode cX3_readNumber 8 = .ok (.getfield 37, 3) := by decide +kernel
theorem dX3_readNumber_11 : decode cX3_readNumber 11 = .ok (.aload_n 0, 1) := by decide +kernel
theorem dX3_readNumber_12 : decode cX3_readNumber 12 = .ok (.getfield 29, 3) := by decide +kernel
theorem dX3_readNumber_15 : decode cX3_readNumber 15 = .ok (.if_icmp .ge 84, 3) := by decide +kernel
theorem dX3_readNumber_18 : decode cX3_readNumber 18 = .ok (.aload_n 0, 1) := by decide +kernel
theorem dX3_readNumber_19 : decode cX3_readNumber 19 = .ok (.invokevirtual 48, 3) := by decide +kernel
theorem dX3_readNumber_22 : decode cX3_readNumber 22 = .ok (.bipush 48, 2) := by decide +kernel
theorem dX3_readNumber_24 : decode cX3_readNumber 24 = .ok (.isub, 1) := by decide +kernel
theorem dX3_readNumber_25 : decode cX3_readNumber 25 = .ok (.istore 4, 2) := by decide +kernel
theorem dX3_readNumber_27 : decode cX3_readNumber 27 = .ok (.aload_n 0, 1) := by decide +kernel
theorem dX3_readNumber_28 : decode cX3_readNumber 28 = .ok (.getfield 37, 3) := by decide +kernel
theorem dX3_readNumber_31 : decode cX3_readNumber 31 = .ok (.iload_n 2, 1) := by decide +kernel
theorem dX3_readNumber_32 : decode cX3_readNumber 32 = .ok (.if_icmp .le 11, 3) := by decide +kernel
theorem dX3_readNumber_35 : decode cX3_readNumber 35 = .ok (.iload_n 3, 1) := by decide +kernel
theorem dX3_readNumber_36 : decode cX3_readNumber 36 = .ok (.ifCond .ne 7, 3) := by decide +kernel
theorem dX3_readNumber_39 : decode cX3_readNumber 39 = .ok (.iconst 1, 1) := by decide +kernel
theorem dX3_readNumber_40 : decode cX3_readNumber 40 = .ok (.goto 4, 3) := by decide +kernel
theorem dX3_readNumber_43 : decode cX3_readNumber 43 = .ok (.iconst 0, 1) := by decide +kernel
theorem dX3_readNumber_44 : decode cX3_readNumber 44 = .ok (.istore 5, 2) := by decide +kernel
theorem dX3_readNumber_46 : decode cX3_readNumber 46 = .ok (.iload 4, 2) := by decide +kernel
theorem dX3_readNumber_48 : decode cX3_readNumber 48 = .ok (.iconst 0, 1) := by decide +kernel
theorem dX3_readNumber_49 : decode cX3_readNumber 49 = .ok (.bipush 9, 2) := by decide +kernel
theorem dX3_readNumber_51 : decode cX3_readNumber 51 = .ok (.invokestatic 21, 3) := by decide +kernel
theorem dX3_readNumber_54 : decode cX3_readNumber 54 = .ok (.ifCond .eq 45, 3) := by decide +kernel
theorem dX3_readNumber_57 : decode cX3_readNumber 57 = .ok (.iload 5, 2) := by decide +kernel
theorem dX3_readNumber_59 : decode cX3_readNumber 59 = .ok (.ifCond .ne 40, 3) := by decide +kernel
theorem dX3_readNumber_62 : decode cX3_readNumber 62 = .ok (.iload_n 3, 1) := by decide +kernel
theorem dX3_readNumber_63 : decode cX3_readNumber 63 = .ok (.bipush 10, 2) := by decide +kernel
theorem dX3_readNumber_65 : decode cX3_readNumber 65 = .ok (.imul, 1) := by decide +kernel
theorem dX3_readNumber_66 : decode cX3_readNumber 66 = .ok (.iload 4, 2) := by decide +kernel
theorem dX3_readNumber_68 : decode cX3_readNumber 68 = .ok (.iadd, 1) := by decide +kernel
theorem dX3_readNumber_69 : decode cX3_readNumber 69 = .ok (.sipush 4999, 3) := by decide +kernel
theorem dX3_readNumber_72 : decode cX3_readNumber 72 = .ok (.if_icmp .le 6, 3) := by decide +kernel
theorem dX3_readNumber_75 : decode cX3_readNumber 75 = .ok (.goto 24, 3) := by decide +kernel
theorem dX3_readNumber_78 : decode cX3_readNumber 78 = .ok (.iload_n 3, 1) := by decide +kernel
theorem dX3_readNumber_79 : decode cX3_readNumber 79 = .ok (.bipush 10, 2) := by decide +kernel
theorem dX3_readNumber_81 : decode cX3_readNumber 81 = .ok (.imul, 1) := by decide +kernel
theorem dX3_readNumber_82 : decode cX3_readNumber 82 = .ok (.iload 4, 2) := by decide +kernel
theorem dX3_readNumber_84 : decode cX3_readNumber 84 = .ok (.iadd, 1) := by decide +kernel
theorem dX3_readNumber_85 : decode cX3_readNumber 85 = .ok (.istore_n 3, 1) := by decide +kernel
theorem dX3_readNumber_86 : decode cX3_readNumber 86 = .ok (.aload_n 0, 1) := by decide +kernel
theorem dX3_readNumber_87 : decode cX3_readNumber 87 = .ok (.dup, 1) := by decide +kernel
theorem dX3_readNumber_88 : decode cX3_readNumber 88 = .ok (.getfield 37, 3) := by decide +kernel
theorem dX3_readNumber_91 : decode cX3_readNumber 91 = .ok (.iconst 1, 1) := by decide +kernel
theorem dX3_readNumber_92 : decode cX3_readNumber 92 = .ok (.iadd, 1) := by decide +kernel
theorem dX3_readNumber_93 : decode cX3_readNumber 93 = .ok (.putfield 37, 3) := by decide +kernel
theorem dX3_readNumber_96 : decode cX3_readNumber 96 = .ok (.goto (-89), 3) := by decide +kernel
theorem dX3_readNumber_99 : decode cX3_readNumber 99 = .ok (.aload_n 0, 1) := by decide +kernel
theorem dX3_readNumber_100 : decode cX3_readNumber 100 = .ok (.getfield 15, 3) := by decide +kernel
theorem dX3_readNumber_103 : decode cX3_readNumber 103 = .ok (.iload_n 1, 1) := by decide +kernel
theorem dX3_readNumber_104 : decode cX3_readNumber 104 = .ok (.iload_n 3, 1) := by decide +kernel
theorem dX3_readNumber_105 : decode cX3_readNumber 105 = .ok (.iastore, 1) := by decide +kernel
theorem dX3_readNumber_106 : decode cX3_readNumber 106 = .ok (.aload_n 0, 1) := by decide +kernel
theorem dX3_readNumber_107 : decode cX3_readNumber 107 = .ok (.getfield 37, 3) := by decide +kernel
theorem dX3_readNumber_110 : decode cX3_readNumber 110 = .ok (.iload_n 2, 1) := by decide +kernel
theorem dX3_readNumber_111 : decode cX3_readNumber 111 = .ok (.if_icmp .le 7, 3) := by decide +kernel
theorem dX3_readNumber_114 : decode cX3_readNumber 114 = .ok (.iconst 1, 1) := by decide +kernel
theorem dX3_readNumber_115 : decode cX3_readNumber 115 = .ok (.goto 4, 3) := by decide +kernel
theorem dX3_readNumber_118 : decode cX3_readNumber 118 = .ok (.iconst 0, 1) := by decide +kernel
theorem dX3_readNumber_119 : decode cX3_readNumber 119 = .ok (.ireturn, 1) := by decide +kernel
theorem dX3_readMark_0 : decode cX3_readMark 0 = .ok (.aload_n 0, 1) := by decide +kernel
theorem dX3_readMark_1 : decode cX3_readMark 1 = .ok (.aload_n 0, 1) := by decide +kernel
theorem dX3_readMark_2 : decode cX3_readMark 2 = .ok (.iload_n 1, 1) := by decide +kernel
theorem dX3_readMark_3 : decode cX3_readMark 3 = .ok (.invokevirtual 44, 3) := by decide +kernel
theorem dX3_readMark_6 : decode cX3_readMark 6 = .ok (.putfield 33, 3) := by decide +kernel
theorem dX3_readMark_9 : decode cX3_readMark 9 = .ok (.iconst 1, 1) := by decide +kernel
theorem dX3_readMark_10 : decode cX3_readMark 10 = .ok (.ireturn, 1) := by decide +kernel
theorem dX4_init_0 : decode cX4_init 0 = .ok (.aload_n 0, 1) := by decide +kernel
theorem dX4_init_1 : decode cX4_init 1 = .ok (.invokespecial 3, 3) := by decide +kernel
theorem dX4_init_4 : decode cX4_init 4 = .ok (.aload_n 0, 1) := by decide +kernel
theorem dX4_init_5 : decode cX4_init 5 = .ok (.bipush (-6), 2) := by decide +kernel
theorem dX4_init_7 : decode cX4_init 7 = .ok (.putfield 9, 3) := by decide +kernel
theorem dX4_init_10 : decode cX4_init 10 = .ok (.aload_n 0, 1) := by decide +kernel
theorem dX4_init_11 : decode cX4_init 11 = .ok (.bipush (-6), 2) := by decide +kernel
theorem dX4_init_13 : decode cX4_init 13 = .ok (.putfield 15, 3) := by decide +kernel
theorem dX4_init_16 : decode cX4_init 16 = .ok (.aload_n 0, 1) := by decide +kernel
theorem dX4_init_17 : decode cX4_init 17 = .ok (.sipush 572, 3) := by decide +kernel
theorem dX4_init_20 : decode cX4_init 20 = .ok (.newarray .long, 2) := by decide +kernel
theorem dX4_init_22 : decode cX4_init 22 = .ok (.putfield 18, 3) := by decide +kernel
theorem dX4_init_25 : decode cX4_init 25 = .ok (.return_, 1) := by decide +kernel
theorem dX4_begin_0 : decode cX4_begin 0 = .ok (.aload_n 0, 1) := by decide +kernel
theorem dX4_begin_1 : decode cX4_begin 1 = .ok (.iload_n 1, 1) := by decide +kernel
theorem dX4_begin_2 : decode cX4_begin 2 = .ok (.putfield 22, 3) := by decide +kernel
theorem dX4_begin_5 : decode cX4_begin 5 = .ok (.aload_n 0, 1) := by decide +kernel
theorem dX4_begin_6 : decode cX4_begin 6 = .ok (.iload_n 2, 1) := by decide +kernel
theorem dX4_begin_7 : decode cX4_begin 7 = .ok (.putfield 25, 3) := by decide +kernel
theorem dX4_begin_10 : decode cX4_begin 10 = .ok (.aload_n 0, 1) := by decide +kernel
theorem dX4_begin_11 : decode cX4_begin 11 = .ok (.iload_n 3, 1) := by decide +kernel
theorem dX4_begin_12 : decode cX4_begin 12 = .ok (.putfield 28, 3) := by decide +kernel
theorem dX4_begin_15 : decode cX4_begin 15 = .ok (.aload_n 0, 1) := by decide +kernel
theorem dX4_begin_16 : decode cX4_begin 16 = .ok (.iload 4, 2) := by decide +kernel
theorem dX4_begin_18 : decode cX4_begin 18 = .ok (.putfield 31, 3) := by decide +kernel
theorem dX4_begin_21 : decode cX4_begin 21 = .ok (.aload_n 0, 1) := by decide +kernel
theorem dX4_begin_22 : decode cX4_begin 22 = .ok (.iload 5, 2) := by decide +kernel
theorem dX4_begin_24 : decode cX4_begin 24 = .ok (.iconst 2, 1) := by decide +kernel
theorem dX4_begin_25 : decode cX4_begin 25 = .ok (.idiv, 1) := by decide +kernel
theorem dX4_begin_26 : decode cX4_begin 26 = .ok (.putfield 34, 3) := by decide +kernel
theorem dX4_begin_29 : decode cX4_begin 29 = .ok (.aload_n 0, 1) := by decide +kernel
theorem dX4_begin_30 : decode cX4_begin 30 = .ok (.iload 5, 2) := by decide +kernel
theorem dX4_begin_32 : decode cX4_begin 32 = .ok (.iconst 2, 1) := by decide +kernel
theorem dX4_begin_33 : decode cX4_begin 33 = .ok (.irem, 1) := by decide +kernel
theorem dX4_begin_34 : decode cX4_begin 34 = .ok (.iconst 1, 1) := by decide +kernel
theorem dX4_begin_35 : decode cX4_begin 35 = .ok (.if_icmp .ne 7, 3) := by decide +kernel
theorem dX4_begin_38 : decode cX4_begin 38 = .ok (.iconst 1, 1) := by decide +kernel
theorem dX4_begin_39 : decode cX4_begin 39 = .ok (.goto 4, 3) := by decide +kernel
theorem dX4_begin_42 : decode cX4_begin 42 = .ok (.iconst 0, 1) := by decide +kernel
theorem dX4_begin_43 : decode cX4_begin 43 = .ok (.putfield 37, 3) := by decide +kernel
theorem dX4_begin_46 : decode cX4_begin 46 = .ok (.iconst 0, 1) := by decide +kernel
theorem dX4_begin_47 : decode cX4_begin 47 = .ok (.istore 6, 2) := by decide +kernel
theorem dX4_begin_49 : decode cX4_begin 49 = .ok (.iconst 0, 1) := by decide +kernel
theorem dX4_begin_50 : decode cX4_begin 50 = .ok (.istore 7, 2) := by decide +kernel
theorem dX4_begin_52 : decode cX4_begin 52 = .ok (.iload 7, 2) := by decide +kernel
theorem dX4_begin_54 : decode cX4_begin 54 = .ok (.aload_n 0, 1) := by decide +kernel
theorem dX4_begin_55 : decode cX4_begin 55 = .ok (.getfield 28, 3) := by decide +kernel
theorem dX4_begin_58 : decode cX4_begin 58 = .ok (.if_icmp .ge 23, 3) := by decide +kernel
theorem dX4_begin_61 : decode cX4_begin 61 = .ok (.iload 6, 2) := by decide +kernel
theorem dX4_begin_63 : decode cX4_begin 63 = .ok (.aload_n 0, 1) := by decide +kernel
theorem dX4_begin_64 : decode cX4_begin 64 = .ok (.getfield 31, 3) := by decide +kernel
theorem dX4_begin_67 : decode cX4_begin 67 = .ok (.iload 7, 2) := by decide +kernel
theorem dX4_begin_69 : decode cX4_begin 69 = .ok (.invokestatic 41, 3) := by decide +kernel
theorem dX4_begin_72 : decode cX4_begin 72 = .ok (.iadd, 1) := by decide +kernel
theorem dX4_begin_73 : decode cX4_begin 73 = .ok (.istore 6, 2) := by decide +kernel
theorem dX4_begin_75 : decode cX4_begin 75 = .ok (.iinc 7 1, 3) := by decide +kernel
theorem dX4_begin_78 : decode cX4_begin 78 = .ok (.goto (-26), 3) := by decide +kernel
theorem dX4_begin_81 : decode cX4_begin 81 = .ok (.aload_n 0, 1) := by decide +kernel
theorem dX4_begin_82 : decode cX4_begin 82 = .ok (.iload 6, 2) := by decide +kernel
theorem dX4_begin_84 : decode cX4_begin 84 = .ok (.ldc 45, 2) := by decide +kernel
theorem dX4_begin_86 : decode cX4_begin 86 = .ok (.irem, 1) := by decide +kernel
theorem dX4_begin_87 : decode cX4_begin 87 = .ok (.putfield 46, 3) := by decide +kernel
theorem dX4_begin_90 : decode cX4_begin 90 = .ok (.return_, 1) := by decide +kernel
theorem dX4_copyFrom_0 : decode cX4_copyFrom 0 = .ok (.aload_n 0, 1) := by decide +kernel
theorem dX4_copyFrom_1 : decode cX4_copyFrom 1 = .ok (.aload_n 1, 1) := by decide +kernel
theorem dX4_copyFrom_2 : decode cX4_copyFrom 2 = .ok (.getfield 22, 3) := by decide +kernel
theorem dX4_copyFrom_5 : decode cX4_copyFrom 5 = .ok (.putfield 22, 3) := by decide +kernel
theorem dX4_copyFrom_8 : decode cX4_copyFrom 8 = .ok (.aload_n 0, 1) := by decide +kernel
theorem dX4_copyFrom_9 : decode cX4_copyFrom 9 = .ok (.aload_n 1, 1) := by decide +kernel
theorem dX4_copyFrom_10 : decode cX4_copyFrom 10 = .ok (.getfield 25, 3) := by decide +kernel
theorem dX4_copyFrom_13 : decode cX4_copyFrom 13 = .ok (.putfield 25, 3) := by decide +kernel
theorem dX4_copyFrom_16 : decode cX4_copyFrom 16 = .ok (.aload_n 0, 1) := by decide +kernel
theorem dX4_copyFrom_17 : decode cX4_copyFrom 17 = .ok (.aload_n 1, 1) := by decide +kernel
theorem dX4_copyFrom_18 : decode cX4_copyFrom 18 = .ok (.getfield 28, 3) := by decide +kernel
theorem dX4_copyFrom_21 : decode cX4_copyFrom 21 = .ok (.putfield 28, 3) := by decide +kernel
theorem dX4_copyFrom_24 : decode cX4_copyFrom 24 = .ok (.aload_n 0, 1) := by decide +kernel
theorem dX4_copyFrom_25 : decode cX4_copyFrom 25 = .ok (.aload_n 1, 1) := by decide +kernel
theorem dX4_copyFrom_26 : decode cX4_copyFrom 26 = .ok (.getfield 31, 3) := by decide +kernel
theorem dX4_copyFrom_29 : decode cX4_copyFrom 29 = .ok (.putfield 31, 3) := by decide +kernel
theorem dX4_copyFrom_32 : decode cX4_copyFrom 32 = .ok (.aload_n 0, 1) := by decide +kernel
theorem dX4_copyFrom_33 : decode cX4_copyFrom 33 = .ok (.aload_n 1, 1) := by decide +kernel
theorem dX4_copyFrom_34 : decode cX4_copyFrom 34 = .ok (.getfield 34, 3) := by decide +kernel
theorem dX4_copyFrom_37 : decode cX4_copyFrom 37 = .ok (.putfield 34, 3) := by decide +kernel
theorem dX4_copyFrom_40 : decode cX4_copyFrom 40 = .ok (.aload_n 0, 1) := by decide +kernel
theorem dX4_copyFrom_41 : decode cX4_copyFrom 41 = .ok (.aload_n 1, 1) := by decide +kernel
theorem dX4_copyFrom_42 : decode cX4_copyFrom 42 = .ok (.getfield 46, 3) := by decide +kernel
theorem dX4_copyFrom_45 : decode cX4_copyFrom 45 = .ok (.putfield 46, 3) := by decide +kernel
theorem dX4_copyFrom_48 : decode cX4_copyFrom 48 = .ok (.aload_n 0, 1) := by decide +kernel
theorem dX4_copyFrom_49 : decode cX4_copyFrom 49 = .ok (.aload_n 1, 1) := by decide +kernel
theorem dX4_copyFrom_50 : decode cX4_copyFrom 50 = .ok (.getfield 37, 3) := by decide +kernel
theorem dX4_copyFrom_53 : decode cX4_copyFrom 53 = .ok (.putfield 37, 3) := by decide +kernel
theorem dX4_copyFrom_56 : decode cX4_copyFrom 56 = .ok (.aload_n 0, 1) := by decide +kernel
theorem dX4_copyFrom_57 : decode cX4_copyFrom 57 = .ok (.aload_n 1, 1) := by decide +kernel
theorem dX4_copyFrom_58 : decode cX4_copyFrom 58 = .ok (.getfield 49, 3) := by decide +kernel
theorem dX4_copyFrom_61 : decode cX4_copyFrom 61 = .ok (.putfield 49, 3) := by decide +kernel
theorem dX4_copyFrom_64 : decode cX4_copyFrom 64 = .ok (.aload_n 0, 1) := by decide +kernel
theorem dX4_copyFrom_65 : decode cX4_copyFrom 65 = .ok (.aload_n 1, 1) := by decide +kernel
theorem dX4_copyFrom_66 : decode cX4_copyFrom 66 = .ok (.getfield 52, 3) := by decide +kernel
theorem dX4_copyFrom_69 : decode cX4_copyFrom 69 = .ok (.putfield 52, 3) := by decide +kernel
theorem dX4_copyFrom_72 : decode cX4_copyFrom 72 = .ok (.aload_n 0, 1) := by decide +kernel
theorem dX4_copyFrom_73 : decode cX4_copyFrom 73 = .ok (.aload_n 1, 1) := by decide +kernel
theorem dX4_copyFrom_74 : decode cX4_copyFrom 74 = .ok (.getfield 55, 3) := by decide +kernel
theorem dX4_copyFrom_77 : decode cX4_copyFrom 77 = .ok (.putfield 55, 3) := by decide +kernel
theorem dX4_copyFrom_80 : decode cX4_copyFrom 80 = .ok (.aload_n 0, 1) := by decide +kernel
theorem dX4_copyFrom_81 : decode cX4_copyFrom 81 = .ok (.aload_n 1, 1) := by decide +kernel
theorem dX4_copyFrom_82 : decode cX4_copyFrom 82 = .ok (.getfield 9, 3) := by decide +kernel
theorem dX4_copyFrom_85 : decode cX4_copyFrom 85 = .ok (.putfield 9, 3) := by decide +kernel
theorem dX4_copyFrom_88 : decode cX4_copyFrom 88 = .ok (.aload_n 0, 1) := by decide +kernel
theorem dX4_copyFrom_89 : decode cX4_copyFrom 89 = .ok (.aload_n 1, 1) := by decide +kernel
theorem dX4_copyFrom_90 : decode cX4_copyFrom 90 = .ok (.getfield 58, 3) := by decide +kernel
theorem dX4_copyFrom_93 : decode cX4_copyFrom 93 = .ok (.putfield 58, 3) := by decide +kernel
theorem dX4_copyFrom_96 : decode cX4_copyFrom 96 = .ok (.aload_n 0, 1) := by decide +kernel
theorem dX4_copyFrom_97 : decode cX4_copyFrom 97 = .ok (.aload_n 1, 1) := by decide +kernel
theorem dX4_copyFrom_98 : decode cX4_copyFrom 98 = .ok (.getfield 61, 3) := by decide +kernel
theorem dX4_copyFrom_101 : decode cX4_copyFrom 101 = .ok (.putfield 61, 3) := by decide +kernel
theorem dX4_copyFrom_104 : decode cX4_copyFrom 104 = .ok (.aload_n 0, 1) := by decide +kernel
theorem dX4_copyFrom_105 : decode cX4_copyFrom 105 = .ok (.aload_n 1, 1) := by decide +kernel
theorem dX4_copyFrom_106 : decode cX4_copyFrom 106 = .ok (.getfield 64, 3) := by decide +kernel
theorem dX4_copyFrom_109 : decode cX4_copyFrom 109 = .ok (.putfield 64, 3) := by decide +kernel
theorem dX4_copyFrom_112 : decode cX4_copyFrom 112 = .ok (.aload_n 0, 1) := by decide +kernel
theorem dX4_copyFrom_113 : decode cX4_copyFrom 113 = .ok (.aload_n 1, 1) := by decide +kernel
theorem dX4_copyFrom_114 : decode cX4_copyFrom 114 = .ok (.getfield 15, 3) := by decide +kernel
theorem dX4_copyFrom_117 : decode cX4_copyFrom 117 = .ok (.putfield 15, 3) := by decide +kernel
theorem dX4_copyFrom_120 : decode cX4_copyFrom 120 = .ok (.aload_n 0, 1) := by decide +kernel
theorem dX4_copyFrom_121 : decode cX4_copyFrom 121 = .ok (.getfield 58, 3) := by decide +kernel
theorem dX4_copyFrom_124 : decode cX4_copyFrom 124 = .ok (.ifCond .le 21, 3) := by decide +kernel
theorem dX4_copyFrom_127 : decode cX4_copyFrom 127 = .ok (.aload_n 1, 1) := by decide +kernel
theorem dX4_copyFrom_128 : decode cX4_copyFrom 128 = .ok (.getfield 18, 3) := by decide +kernel
theorem dX4_copyFrom_131 : decode cX4_copyFrom 131 = .ok (.iconst 0, 1) := by decide +kernel
theorem dX4_copyFrom_132 : decode cX4_copyFrom 132 = .ok (.aload_n 0, 1) := by decide +kernel
theorem dX4_copyFrom_133 : decode cX4_copyFrom 133 = .ok (.getfield 18, 3) := by decide +kernel
theorem dX4_copyFrom_136 : decode cX4_copyFrom 136 = .ok (.iconst 0, 1) := by decide +kernel
theorem dX4_copyFrom_137 : decode cX4_copyFrom 137 = .ok (.aload_n 0, 1) := by decide +kernel
theorem dX4_copyFrom_138 : decode cX4_copyFrom 138 = .ok (.getfield 18, 3) := by decide +kernel
theorem dX4_copyFrom_141 : decode cX4_copyFrom 141 = .ok (.arraylength, 1) := by decide +kernel
theorem dX4_copyFrom_142 : decode cX4_copyFrom 142 = .ok (.invokestatic 67, 3) := by decide +kernel
theorem dX4_copyFrom_145 : decode cX4_copyFrom 145 = .ok (.return_, 1) := by decide +kernel
theorem dX4_cell_0 : decode cX4_cell 0 = .ok (.iload_n 1, 1) := by decide +kernel
theorem dX4_cell_1 : decode cX4_cell 1 = .ok (.ifCond .lt 10, 3) := by decide +kernel
theorem dX4_cell_4 : decode cX4_cell 4 = .ok (.iload_n 1, 1) := by decide +kernel
theorem dX4_cell_5 : decode cX4_cell 5 = .ok (.sipush 4000, 3) := by decide +kernel
theorem dX4_cell_8 : decode cX4_cell 8 = .ok (.if_icmp .lt 5, 3) := by decide +kernel
theorem dX4_cell_11 : decode cX4_cell 11 = .ok (.iconst 0, 1) := by decide +kernel
theorem dX4_cell_12 : decode cX4_cell 12 = .ok (.ireturn, 1) := by decide +kernel
theorem dX4_cell_13 : decode cX4_cell 13 = .ok (.aload_n 0, 1) := by decide +kernel
theorem dX4_cell_14 : decode cX4_cell 14 = .ok (.getfield 18, 3) := by decide +kernel
theorem dX4_cell_17 : decode cX4_cell 17 = .ok (.iload_n 1, 1) := by decide +kernel
theorem dX4_cell_18 : decode cX4_cell 18 = .ok (.bipush 7, 2) := by decide +kernel
theorem dX4_cell_20 : decode cX4_cell 20 = .ok (.idiv, 1) := by decide +kernel
theorem dX4_cell_21 : decode cX4_cell 21 = .ok (.laload, 1) := by decide +kernel
theorem dX4_cell_22 : decode cX4_cell 22 = .ok (.iload_n 1, 1) := by decide +kernel
theorem dX4_cell_23 : decode cX4_cell 23 = .ok (.bipush 7, 2) := by decide +kernel
theorem dX4_cell_25 : decode cX4_cell 25 = .ok (.irem, 1) := by decide +kernel
theorem dX4_cell_26 : decode cX4_cell 26 = .ok (.bipush 9, 2) := by decide +kernel
theorem dX4_cell_28 : decode cX4_cell 28 = .ok (.imul, 1) := by decide +kernel
theorem dX4_cell_29 : decode cX4_cell 29 = .ok (.lushr, 1) := by decide +kernel
theorem dX4_cell_30 : decode cX4_cell 30 = .ok (.ldc2_w 73, 3) := by decide +kernel
theorem dX4_cell_33 : decode cX4_cell 33 = .ok (.land, 1) := by decide +kernel
theorem dX4_cell_34 : decode cX4_cell 34 = .ok (.l2i, 1) := by decide +kernel
theorem dX4_cell_35 : decode cX4_cell 35 = .ok (.ireturn, 1) := by decide +kernel
theorem dX4_setCell_0 : decode cX4_setCell 0 = .ok (.iload_n 1, 1) := by decide +kernel
theorem dX4_setCell_1 : decode cX4_setCell 1 = .ok (.ifCond .lt 10, 3) := by decide +kernel
theorem dX4_setCell_4 : decode cX4_setCell 4 = .ok (.iload_n 1, 1) := by decide +kernel
theorem dX4_setCell_5 : decode cX4_setCell 5 = .ok (.sipush 4000, 3) := by decide +kernel
theorem dX4_setCell_8 : decode cX4_setCell 8 = .ok (.if_icmp .lt 4, 3) := by decide +kernel
theorem dX4_setCell_11 : decode cX4_setCell 11 = .ok (.return_, 1) := by decide +kernel
theorem dX4_setCell_12 : decode cX4_setCell 12 = .ok (.iload_n 1, 1) := by decide +kernel
theorem dX4_setCell_13 : decode cX4_setCell 13 = .ok (.bipush 7, 2) := by decide +kernel
theorem dX4_setCell_15 : decode cX4_setCell 15 = .ok (.idiv, 1) := by decide +kernel
theorem dX4_setCell_16 : decode cX4_setCell 16 = .ok (.istore_n 3, 1) := by decide +kernel
theorem dX4_setCell_17 : decode cX4_setCell 17 = .ok (.iload_n 1, 1) := by decide +kernel
theorem dX4_setCell_18 : decode cX4_setCell 18 = .ok (.bipush 7, 2) := by decide +kernel
theorem dX4_setCell_20 : decode cX4_setCell 20 = .ok (.irem, 1) := by decide +kernel
theorem dX4_setCell_21 : decode cX4_setCell 21 = .ok (.bipush 9, 2) := by decide +kernel
theorem dX4_setCell_23 : decode cX4_setCell 23 = .ok (.imul, 1) := by decide +kernel
theorem dX4_setCell_24 : decode cX4_setCell 24 = .ok (.istore 4, 2) := by decide +kernel
theorem dX4_setCell_26 : decode cX4_setCell 26 = .ok (.aload_n 0, 1) := by decide +kernel
theorem dX4_setCell_27 : decode cX4_setCell 27 = .ok (.getfield 18, 3) := by decide +kernel
theorem dX4_setCell_30 : decode cX4_setCell 30 = .ok (.iload_n 3, 1) := by decide +kernel
theorem dX4_setCell_31 : decode cX4_setCell 31 = .ok (.aload_n 0, 1) := by decide +kernel
theorem dX4_setCell_32 : decode cX4_setCell 32 = .ok (.getfield 18, 3) := by decide +kernel
theorem dX4_setCell_35 : decode cX4_setCell 35 = .ok (.iload_n 3, 1) := by decide +kernel
theorem dX4_setCell_36 : decode cX4_setCell 36 = .ok (.laload, 1) := by decide +kernel
theorem dX4_setCell_37 : decode cX4_setCell 37 = .ok (.ldc2_w 73, 3) := by decide +kernel
theorem dX4_setCell_40 : decode cX4_setCell 40 = .ok (.iload 4, 2) := by decide +kernel
theorem dX4_setCell_42 : decode cX4_setCell 42 = .ok (.lshl, 1) := by decide +kernel
theorem dX4_setCell_43 : decode cX4_setCell 43 = .ok (.ldc2_w 75, 3) := by decide +kernel
theorem dX4_setCell_46 : decode cX4_setCell 46 = .ok (.lxor, 1) := by decide +kernel
theorem dX4_setCell_47 : decode cX4_setCell 47 = .ok (.land, 1) := by decide +kernel
theorem dX4_setCell_48 : decode cX4_setCell 48 = .ok (.iload_n 2, 1) := by decide +kernel
theorem dX4_setCell_49 : decode cX4_setCell 49 = .ok (.i2l, 1) := by decide +kernel
theorem dX4_setCell_50 : decode cX4_setCell 50 = .ok (.iload 4, 2) := by decide +kernel
theorem dX4_setCell_52 : decode cX4_setCell 52 = .ok (.lshl, 1) := by decide +kernel
theorem dX4_setCell_53 : decode cX4_setCell 53 = .ok (.lor, 1) := by decide +kernel
theorem dX4_setCell_54 : decode cX4_setCell 54 = .ok (.lastore, 1) := by decide +kernel
theorem dX4_setCell_55 : decode cX4_setCell 55 = .ok (.return_, 1) := by decide +kernel
theorem dX4_hasByte_0 : decode cX4_hasByte 0 = .ok (.aload_n 0, 1) := by decide +kernel
theorem dX4_hasByte_1 : decode cX4_hasByte 1 = .ok (.getfield 58, 3) := by decide +kernel
theorem dX4_hasByte_4 : decode cX4_hasByte 4 = .ok (.ifCond .le 15, 3) := by decide +kernel
theorem dX4_hasByte_7 : decode cX4_hasByte 7 = .ok (.aload_n 0, 1) := by decide +kernel
theorem dX4_hasByte_8 : decode cX4_hasByte 8 = .ok (.iload_n 1, 1) := by decide +kernel
theorem dX4_hasByte_9 : decode cX4_hasByte 9 = .ok (.invokevirtual 77, 3) := by decide +kernel
theorem dX4_hasByte_12 : decode cX4_hasByte 12 = .ok (.ifCond .eq 7, 3) := by decide +kernel
theorem dX4_hasByte_15 : decode cX4_hasByte 15 = .ok (.iconst 1, 1) := by decide +kernel
theorem dX4_hasByte_16 : decode cX4_hasByte 16 = .ok (.goto 4, 3) := by decide +kernel
theorem dX4_hasByte_19 : decode cX4_hasByte 19 = .ok (.iconst 0, 1) := by decide +kernel
theorem dX4_hasByte_20 : decode cX4_hasByte 20 = .ok (.ireturn, 1) := by decide +kernel
theorem dX4_fits_0 : decode cX4_fits 0 = .ok (.aload_n 1, 1) := by decide +kernel
theorem dX4_fits_1 : decode cX4_fits 1 = .ok (.getfield 81, 3) := by decide +kernel
theorem dX4_fits_4 : decode cX4_fits 4 = .ok (.aload_n 1, 1) := by decide +kernel
theorem dX4_fits_5 : decode cX4_fits 5 = .ok (.getfield 86, 3) := by decide +kernel
theorem dX4_fits_8 : decode cX4_fits 8 = .ok (.iadd, 1) := by decide +kernel
theorem dX4_fits_9 : decode cX4_fits 9 = .ok (.istore_n 2, 1) := by decide +kernel
theorem dX4_fits_10 : decode cX4_fits 10 = .ok (.iload_n 2, 1) := by decide +kernel
theorem dX4_fits_11 : decode cX4_fits 11 = .ok (.sipush 4000, 3) := by decide +kernel
theorem dX4_fits_14 : decode cX4_fits 14 = .ok (.if_icmp .le 5, 3) := by decide +kernel
theorem dX4_fits_17 : decode cX4_fits 17 = .ok (.iconst 0, 1) := by decide +kernel
theorem dX4_fits_18 : decode cX4_fits 18 = .ok (.ireturn, 1) := by decide +kernel
theorem dX4_fits_19 : decode cX4_fits 19 = .ok (.aload_n 0, 1) := by decide +kernel
theorem dX4_fits_20 : decode cX4_fits 20 = .ok (.getfield 15, 3) := by decide +kernel
theorem dX4_fits_23 : decode cX4_fits 23 = .ok (.bipush (-6), 2) := by decide +kernel
theorem dX4_fits_25 : decode cX4_fits 25 = .ok (.if_icmp .eq 28, 3) := by decide +kernel
theorem dX4_fits_28 : decode cX4_fits 28 = .ok (.iload_n 2, 1) := by decide +kernel
theorem dX4_fits_29 : decode cX4_fits 29 = .ok (.aload_n 0, 1) := by decide +kernel
theorem dX4_fits_30 : decode cX4_fits 30 = .ok (.getfield 15, 3) := by decide +kernel
theorem dX4_fits_33 : decode cX4_fits 33 = .ok (.if_icmp .gt 18, 3) := by decide +kernel
theorem dX4_fits_36 : decode cX4_fits 36 = .ok (.aload_n 1, 1) := by decide +kernel
theorem dX4_fits_37 : decode cX4_fits 37 = .ok (.getfield 89, 3) := by decide +kernel
theorem dX4_fits_40 : decode cX4_fits 40 = .ok (.ifCond .eq 13, 3) := by decide +kernel
theorem dX4_fits_43 : decode cX4_fits 43 = .ok (.iload_n 2, 1) := by decide +kernel
theorem dX4_fits_44 : decode cX4_fits 44 = .ok (.aload_n 0, 1) := by decide +kernel
theorem dX4_fits_45 : decode cX4_fits 45 = .ok (.getfield 15, 3) := by decide +kernel
theorem dX4_fits_48 : decode cX4_fits 48 = .ok (.if_icmp .eq 5, 3) := by decide +kernel
theorem dX4_fits_51 : decode cX4_fits 51 = .ok (.iconst 0, 1) := by decide +kernel
theorem dX4_fits_52 : decode cX4_fits 52 = .ok (.ireturn, 1) := by decide +kernel
theorem dX4_fits_53 : decode cX4_fits 53 = .ok (.aload_n 1, 1) := by decide +kernel
theorem dX4_fits_54 : decode cX4_fits 54 = .ok (.getfield 89, 3) := by decide +kernel
theorem dX4_fits_57 : decode cX4_fits 57 = .ok (.ifCond .eq 11, 3) := by decide +kernel
theorem dX4_fits_60 : decode cX4_fits 60 = .ok (.aload_n 0, 1) := by decide +kernel
theorem dX4_fits_61 : decode cX4_fits 61 = .ok (.getfield 64, 3) := by decide +kernel
theorem dX4_fits_64 : decode cX4_fits 64 = .ok (.iload_n 2, 1) := by decide +kernel
theorem dX4_fits_65 : decode cX4_fits 65 = .ok (.if_icmp .gt 7, 3) := by decide +kernel
theorem dX4_fits_68 : decode cX4_fits 68 = .ok (.iconst 1, 1) := by decide +kernel
theorem dX4_fits_69 : decode cX4_fits 69 = .ok (.goto 4, 3) := by decide +kernel
theorem dX4_fits_72 : decode cX4_fits 72 = .ok (.iconst 0, 1) := by decide +kernel
theorem dX4_fits_73 : decode cX4_fits 73 = .ok (.ireturn, 1) := by decide +kernel
theorem dX4_overlaps_0 : decode cX4_overlaps 0 = .ok (.aload_n 1, 1) := by decide +kernel
theorem dX4_overlaps_1 : decode cX4_overlaps 1 = .ok (.getfield 81, 3) := by decide +kernel
theorem dX4_overlaps_4 : decode cX4_overlaps 4 = .ok (.aload_n 1, 1) := by decide +kernel
theorem dX4_overlaps_5 : decode cX4_overlaps 5 = .ok (.getfield 86, 3) := by decide +kernel
theorem dX4_overlaps_8 : decode cX4_overlaps 8 = .ok (.iadd, 1) := by decide +kernel
theorem dX4_overlaps_9 : decode cX4_overlaps 9 = .ok (.istore_n 2, 1) := by decide +kernel
theorem dX4_overlaps_10 : decode cX4_overlaps 10 = .ok (.aload_n 1, 1) := by decide +kernel
theorem dX4_overlaps_11 : decode cX4_overlaps 11 = .ok (.getfield 81, 3) := by decide +kernel
theorem dX4_overlaps_14 : decode cX4_overlaps 14 = .ok (.istore_n 3, 1) := by decide +kernel
theorem dX4_overlaps_15 : decode cX4_overlaps 15 = .ok (.iload_n 3, 1) := by decide +kernel
theorem dX4_overlaps_16 : decode cX4_overlaps 16 = .ok (.iload_n 2, 1) := by decide +kernel
theorem dX4_overlaps_17 : decode cX4_overlaps 17 = .ok (.if_icmp .ge 19, 3) := by decide +kernel
theorem dX4_overlaps_20 : decode cX4_overlaps 20 = .ok (.aload_n 0, 1) := by decide +kernel
theorem dX4_overlaps_21 : decode cX4_overlaps 21 = .ok (.iload_n 3, 1) := by decide +kernel
theorem dX4_overlaps_22 : decode cX4_overlaps 22 = .ok (.invokevirtual 92, 3) := by decide +kernel
theorem dX4_overlaps_25 : decode cX4_overlaps 25 = .ok (.ifCond .eq 5, 3) := by decide +kernel
theorem dX4_overlaps_28 : decode cX4_overlaps 28 = .ok (.iconst 1, 1) := by decide +kernel
theorem dX4_overlaps_29 : decode cX4_overlaps 29 = .ok (.ireturn, 1) := by decide +kernel
theorem dX4_overlaps_30 : decode cX4_overlaps 30 = .ok (.iinc 3 1, 3) := by decide +kernel
theorem dX4_overlaps_33 : decode cX4_overlaps 33 = .ok (.goto (-18), 3) := by decide +kernel
theorem dX4_overlaps_36 : decode cX4_overlaps 36 = .ok (.iconst 0, 1) := by decide +kernel
theorem dX4_overlaps_37 : decode cX4_overlaps 37 = .ok (.ireturn, 1) := by decide +kernel
theorem dX4_lay_0 : decode cX4_lay 0 = .ok (.aload_n 0, 1) := by decide +kernel
theorem dX4_lay_1 : decode cX4_lay 1 = .ok (.getfield 58, 3) := by decide +kernel
theorem dX4_lay_4 : decode cX4_lay 4 = .ok (.ifCond .ne 35, 3) := by decide +kernel
theorem dX4_lay_7 : decode cX4_lay 7 = .ok (.aload_n 0, 1) := by decide +kernel
theorem dX4_lay_8 : decode cX4_lay 8 = .ok (.iload_n 3, 1) := by decide +kernel
theorem dX4_lay_9 : decode cX4_lay 9 = .ok (.putfield 61, 3) := by decide +kernel
theorem dX4_lay_12 : decode cX4_lay 12 = .ok (.iconst 0, 1) := by decide +kernel
theorem dX4_lay_13 : decode cX4_lay 13 = .ok (.istore 4, 2) := by decide +kernel
theorem dX4_lay_15 : decode cX4_lay 15 = .ok (.iload 4, 2) := by decide +kernel
theorem dX4_lay_17 : decode cX4_lay 17 = .ok (.aload_n 0, 1) := by decide +kernel
theorem dX4_lay_18 : decode cX4_lay 18 = .ok (.getfield 18, 3) := by decide +kernel
theorem dX4_lay_21 : decode cX4_lay 21 = .ok (.arraylength, 1) := by decide +kernel
theorem dX4_lay_22 : decode cX4_lay 22 = .ok (.if_icmp .ge 17, 3) := by decide +kernel
theorem dX4_lay_25 : decode cX4_lay 25 = .ok (.aload_n 0, 1) := by decide +kernel
theorem dX4_lay_26 : decode cX4_lay 26 = .ok (.getfield 18, 3) := by decide +kernel
theorem dX4_lay_29 : decode cX4_lay 29 = .ok (.iload 4, 2) := by decide +kernel
theorem dX4_lay_31 : decode cX4_lay 31 = .ok (.lconst 0, 1) := by decide +kernel
theorem dX4_lay_32 : decode cX4_lay 32 = .ok (.lastore, 1) := by decide +kernel
theorem dX4_lay_33 : decode cX4_lay 33 = .ok (.iinc 4 1, 3) := by decide +kernel
theorem dX4_lay_36 : decode cX4_lay 36 = .ok (.goto (-21), 3) := by decide +kernel
theorem dX4_lay_39 : decode cX4_lay 39 = .ok (.aload_n 1, 1) := by decide +kernel
theorem dX4_lay_40 : decode cX4_lay 40 = .ok (.getfield 81, 3) := by decide +kernel
theorem dX4_lay_43 : decode cX4_lay 43 = .ok (.aload_n 1, 1) := by decide +kernel
theorem dX4_lay_44 : decode cX4_lay 44 = .ok (.getfield 86, 3) := by decide +kernel
theorem dX4_lay_47 : decode cX4_lay 47 = .ok (.iadd, 1) := by decide +kernel
theorem dX4_lay_48 : decode cX4_lay 48 = .ok (.istore 4, 2) := by decide +kernel
theorem dX4_lay_50 : decode cX4_lay 50 = .ok (.aload_n 1, 1) := by decide +kernel
theorem dX4_lay_51 : decode cX4_lay 51 = .ok (.getfield 81, 3) := by decide +kernel
theorem dX4_lay_54 : decode cX4_lay 54 = .ok (.istore 5, 2) := by decide +kernel
theorem dX4_lay_56 : decode cX4_lay 56 = .ok (.iload 5, 2) := by decide +kernel
theorem dX4_lay_58 : decode cX4_lay 58 = .ok (.iload 4, 2) := by decide +kernel
theorem dX4_lay_60 : decode cX4_lay 60 = .ok (.if_icmp .ge 66, 3) := by decide +kernel
theorem dX4_lay_63 : decode cX4_lay 63 = .ok (.aload_n 0, 1) := by decide +kernel
theorem dX4_lay_64 : decode cX4_lay 64 = .ok (.iload 5, 2) := by decide +kernel
theorem dX4_lay_66 : decode cX4_lay 66 = .ok (.invokevirtual 77, 3) := by decide +kernel
theorem dX4_lay_69 : decode cX4_lay 69 = .ok (.ifCond .ne 7, 3) := by decide +kernel
theorem dX4_lay_72 : decode cX4_lay 72 = .ok (.iconst 1, 1) := by decide +kernel
theorem dX4_lay_73 : decode cX4_lay 73 = .ok (.goto 4, 3) := by decide +kernel
theorem dX4_lay_76 : decode cX4_lay 76 = .ok (.iconst 0, 1) := by decide +kernel
theorem dX4_lay_77 : decode cX4_lay 77 = .ok (.istore 6, 2) := by decide +kernel
theorem dX4_lay_79 : decode cX4_lay 79 = .ok (.iload 6, 2) := by decide +kernel
theorem dX4_lay_81 : decode cX4_lay 81 = .ok (.ifCond .eq 13, 3) := by decide +kernel
theorem dX4_lay_84 : decode cX4_lay 84 = .ok (.aload_n 0, 1) := by decide +kernel
theorem dX4_lay_85 : decode cX4_lay 85 = .ok (.dup, 1) := by decide +kernel
theorem dX4_lay_86 : decode cX4_lay 86 = .ok (.getfield 58, 3) := by decide +kernel
theorem dX4_lay_89 : decode cX4_lay 89 = .ok (.iconst 1, 1) := by decide +kernel
theorem dX4_lay_90 : decode cX4_lay 90 = .ok (.iadd, 1) := by decide +kernel
theorem dX4_lay_91 : decode cX4_lay 91 = .ok (.putfield 58, 3) := by decide +kernel
theorem dX4_lay_94 : decode cX4_lay 94 = .ok (.iload 6, 2) := by decide +kernel
theorem dX4_lay_96 : decode cX4_lay 96 = .ok (.ifCond .ne 7, 3) := by decide +kernel
theorem dX4_lay_99 : decode cX4_lay 99 = .ok (.iload_n 2, 1) := by decide +kernel
theorem dX4_lay_100 : decode cX4_lay 100 = .ok (.ifCond .eq 20, 3) := by decide +kernel
theorem dX4_lay_103 : decode cX4_lay 103 = .ok (.aload_n 0, 1) := by decide +kernel
theorem dX4_lay_104 : decode cX4_lay 104 = .ok (.iload 5, 2) := by decide +kernel
theorem dX4_lay_106 : decode cX4_lay 106 = .ok (.aload_n 1, 1) := by decide +kernel
theorem dX4_lay_107 : decode cX4_lay 107 = .ok (.getfield 96, 3) := by decide +kernel
theorem dX4_lay_110 : decode cX4_lay 110 = .ok (.iload 5, 2) := by decide +kernel
theorem dX4_lay_112 : decode cX4_lay 112 = .ok (.invokestatic 41, 3) := by decide +kernel
theorem dX4_lay_115 : decode cX4_lay 115 = .ok (.iconst 1, 1) := by decide +kernel
theorem dX4_lay_116 : decode cX4_lay 116 = .ok (.iadd, 1) := by decide +kernel
theorem dX4_lay_117 : decode cX4_lay 117 = .ok (.invokevirtual 97, 3) := by decide +kernel
theorem dX4_lay_120 : decode cX4_lay 120 = .ok (.iinc 5 1, 3) := by decide +kernel
theorem dX4_lay_123 : decode cX4_lay 123 = .ok (.goto (-67), 3) := by decide +kernel
theorem dX4_lay_126 : decode cX4_lay 126 = .ok (.aload_n 0, 1) := by decide +kernel
theorem dX4_lay_127 : decode cX4_lay 127 = .ok (.aload_n 0, 1) := by decide +kernel
theorem dX4_lay_128 : decode cX4_lay 128 = .ok (.getfield 64, 3) := by decide +kernel
theorem dX4_lay_131 : decode cX4_lay 131 = .ok (.iload 4, 2) := by decide +kernel
theorem dX4_lay_133 : decode cX4_lay 133 = .ok (.invokestatic 101, 3) := by decide +kernel
theorem dX4_lay_136 : decode cX4_lay 136 = .ok (.putfield 64, 3) := by decide +kernel
theorem dX4_lay_139 : decode cX4_lay 139 = .ok (.aload_n 1, 1) := by decide +kernel
theorem dX4_lay_140 : decode cX4_lay 140 = .ok (.getfield 89, 3) := by decide +kernel
theorem dX4_lay_143 : decode cX4_lay 143 = .ok (.ifCond .eq 9, 3) := by decide +kernel
theorem dX4_lay_146 : decode cX4_lay 146 = .ok (.aload_n 0, 1) := by decide +kernel
theorem dX4_lay_147 : decode cX4_lay 147 = .ok (.iload 4, 2) := by decide +kernel
theorem dX4_lay_149 : decode cX4_lay 149 = .ok (.putfield 15, 3) := by decide +kernel
theorem dX4_lay_152 : decode cX4_lay 152 = .ok (.return_, 1) := by decide +kernel
theorem dX4_end_0 : decode cX4_end 0 = .ok (.aload_n 0, 1) := by decide +kernel
theorem dX4_end_1 : decode cX4_end 1 = .ok (.iload_n 1, 1) := by decide +kernel
theorem dX4_end_2 : decode cX4_end 2 = .ok (.putfield 49, 3) := by decide +kernel
theorem dX4_end_5 : decode cX4_end 5 = .ok (.aload_n 0, 1) := by decide +kernel
theorem dX4_end_6 : decode cX4_end 6 = .ok (.iload_n 2, 1) := by decide +kernel
theorem dX4_end_7 : decode cX4_end 7 = .ok (.putfield 9, 3) := by decide +kernel
theorem dX4_end_10 : decode cX4_end 10 = .ok (.aload_n 0, 1) := by decide +kernel
theorem dX4_end_11 : decode cX4_end 11 = .ok (.iconst 0, 1) := by decide +kernel
theorem dX4_end_12 : decode cX4_end 12 = .ok (.putfield 58, 3) := by decide +kernel
theorem dX4_end_15 : decode cX4_end 15 = .ok (.return_, 1) := by decide +kernel
theorem dX4_isComplete_0 : decode cX4_isComplete 0 = .ok (.aload_n 0, 1) := by decide +kernel
theorem dX4_isComplete_1 : decode cX4_isComplete 1 = .ok (.getfield 58, 3) := by decide +kernel
theorem dX4_isComplete_4 : decode cX4_isComplete 4 = .ok (.aload_n 0, 1) := by decide +kernel
theorem dX4_isComplete_5 : decode cX4_isComplete 5 = .ok (.getfield 15, 3) := by decide +kernel
theorem dX4_isComplete_8 : decode cX4_isComplete 8 = .ok (.if_icmp .ne 7, 3) := by decide +kernel
theorem dX4_isComplete_11 : decode cX4_isComplete 11 = .ok (.iconst 1, 1) := by decide +kernel
theorem dX4_isComplete_12 : decode cX4_isComplete 12 = .ok (.goto 4, 3) := by decide +kernel
theorem dX4_isComplete_15 : decode cX4_isComplete 15 = .ok (.iconst 0, 1) := by decide +kernel
theorem dX4_isComplete_16 : decode cX4_isComplete 16 = .ok (.ireturn, 1) := by decide +kernel
theorem dX4_isAsSent_0 : decode cX4_isAsSent 0 = .ok (.iconst 0, 1) := by decide +kernel
theorem dX4_isAsSent_1 : decode cX4_isAsSent 1 = .ok (.istore_n 1, 1) := by decide +kernel
theorem dX4_isAsSent_2 : decode cX4_isAsSent 2 = .ok (.iconst 0, 1) := by decide +kernel
theorem dX4_isAsSent_3 : decode cX4_isAsSent 3 = .ok (.istore_n 2, 1) := by decide +kernel
theorem dX4_isAsSent_4 : decode cX4_isAsSent 4 = .ok (.iload_n 2, 1) := by decide +kernel
theorem dX4_isAsSent_5 : decode cX4_isAsSent 5 = .ok (.aload_n 0, 1) := by decide +kernel
theorem dX4_isAsSent_6 : decode cX4_isAsSent 6 = .ok (.getfield 15, 3) := by decide +kernel
theorem dX4_isAsSent_9 : decode cX4_isAsSent 9 = .ok (.if_icmp .ge 19, 3) := by decide +kernel
theorem dX4_isAsSent_12 : decode cX4_isAsSent 12 = .ok (.iload_n 1, 1) := by decide +kernel
theorem dX4_isAsSent_13 : decode cX4_isAsSent 13 = .ok (.aload_n 0, 1) := by decide +kernel
theorem dX4_isAsSent_14 : decode cX4_isAsSent 14 = .ok (.iload_n 2, 1) := by decide +kernel
theorem dX4_isAsSent_15 : decode cX4_isAsSent 15 = .ok (.invokevirtual 77, 3) := by decide +kernel
theorem dX4_isAsSent_18 : decode cX4_isAsSent 18 = .ok (.iconst 1, 1) := by decide +kernel
theorem dX4_isAsSent_19 : decode cX4_isAsSent 19 = .ok (.isub, 1) := by decide +kernel
theorem dX4_isAsSent_20 : decode cX4_isAsSent 20 = .ok (.iadd, 1) := by decide +kernel
theorem dX4_isAsSent_21 : decode cX4_isAsSent 21 = .ok (.istore_n 1, 1) := by decide +kernel
theorem dX4_isAsSent_22 : decode cX4_isAsSent 22 = .ok (.iinc 2 1, 3) := by decide +kernel
theorem dX4_isAsSent_25 : decode cX4_isAsSent 25 = .ok (.goto (-21), 3) := by decide +kernel
theorem dX4_isAsSent_28 : decode cX4_isAsSent 28 = .ok (.iload_n 1, 1) := by decide +kernel
theorem dX4_isAsSent_29 : decode cX4_isAsSent 29 = .ok (.ldc 45, 2) := by decide +kernel
theorem dX4_isAsSent_31 : decode cX4_isAsSent 31 = .ok (.irem, 1) := by decide +kernel
theorem dX4_isAsSent_32 : decode cX4_isAsSent 32 = .ok (.aload_n 0, 1) := by decide +kernel
theorem dX4_isAsSent_33 : decode cX4_isAsSent 33 = .ok (.getfield 46, 3) := by decide +kernel
theorem dX4_isAsSent_36 : decode cX4_isAsSent 36 = .ok (.if_icmp .ne 18, 3) := by decide +kernel
theorem dX4_isAsSent_39 : decode cX4_isAsSent 39 = .ok (.aload_n 0, 1) := by decide +kernel
theorem dX4_isAsSent_40 : decode cX4_isAsSent 40 = .ok (.getfield 15, 3) := by decide +kernel
theorem dX4_isAsSent_43 : decode cX4_isAsSent 43 = .ok (.aload_n 0, 1) := by decide +kernel
theorem dX4_isAsSent_44 : decode cX4_isAsSent 44 = .ok (.getfield 28, 3) := by decide +kernel
theorem dX4_isAsSent_47 : decode cX4_isAsSent 47 = .ok (.if_icmp .ne 7, 3) := by decide +kernel
theorem dX4_isAsSent_50 : decode cX4_isAsSent 50 = .ok (.iconst 1, 1) := by decide +kernel
theorem dX4_isAsSent_51 : decode cX4_isAsSent 51 = .ok (.goto 4, 3) := by decide +kernel
theorem dX4_isAsSent_54 : decode cX4_isAsSent 54 = .ok (.iconst 0, 1) := by decide +kernel
theorem dX4_isAsSent_55 : decode cX4_isAsSent 55 = .ok (.ireturn, 1) := by decide +kernel
theorem dX4_firstMissing_0 : decode cX4_firstMissing 0 = .ok (.iconst 0, 1) := by decide +kernel
theorem dX4_firstMissing_1 : decode cX4_firstMissing 1 = .ok (.istore_n 1, 1) := by decide +kernel
theorem dX4_firstMissing_2 : decode cX4_firstMissing 2 = .ok (.iload_n 1, 1) := by decide +kernel
theorem dX4_firstMissing_3 : decode cX4_firstMissing 3 = .ok (.sipush 4000, 3) := by decide +kernel
theorem dX4_firstMissing_6 : decode cX4_firstMissing 6 = .ok (.if_icmp .ge 17, 3) := by decide +kernel
theorem dX4_firstMissing_9 : decode cX4_firstMissing 9 = .ok (.aload_n 0, 1) := by decide +kernel
theorem dX4_firstMissing_10 : decode cX4_firstMissing 10 = .ok (.iload_n 1, 1) := by decide +kernel
theorem dX4_firstMissing_11 : decode cX4_firstMissing 11 = .ok (.invokevirtual 92, 3) := by decide +kernel
theorem dX4_firstMissing_14 : decode cX4_firstMissing 14 = .ok (.ifCond .eq 9, 3) := by decide +kernel
theorem dX4_firstMissing_17 : decode cX4_firstMissing 17 = .ok (.iinc 1 1, 3) := by decide +kernel
theorem dX4_firstMissing_20 : decode cX4_firstMissing 20 = .ok (.goto (-18), 3) := by decide +kernel
theorem dX4_firstMissing_23 : decode cX4_firstMissing 23 = .ok (.iload_n 1, 1) := by decide +kernel
theorem dX4_firstMissing_24 : decode cX4_firstMissing 24 = .ok (.ireturn, 1) := by decide +kernel
theorem dX4_lengthOfGap_0 : decode cX4_lengthOfGap 0 = .ok (.aload_n 0, 1) := by decide +kernel
theorem dX4_lengthOfGap_1 : decode cX4_lengthOfGap 1 = .ok (.invokevirtual 106, 3) := by decide +kernel
theorem dX4_lengthOfGap_4 : decode cX4_lengthOfGap 4 = .ok (.istore_n 1, 1) := by decide +kernel
theorem dX4_lengthOfGap_5 : decode cX4_lengthOfGap 5 = .ok (.iload_n 1, 1) := by decide +kernel
theorem dX4_lengthOfGap_6 : decode cX4_lengthOfGap 6 = .ok (.istore_n 2, 1) := by decide +kernel
theorem dX4_lengthOfGap_7 : decode cX4_lengthOfGap 7 = .ok (.iload_n 2, 1) := by decide +kernel
theorem dX4_lengthOfGap_8 : decode cX4_lengthOfGap 8 = .ok (.aload_n 0, 1) := by decide +kernel
theorem dX4_lengthOfGap_9 : decode cX4_lengthOfGap 9 = .ok (.getfield 64, 3) := by decide +kernel
theorem dX4_lengthOfGap_12 : decode cX4_lengthOfGap 12 = .ok (.if_icmp .ge 17, 3) := by decide +kernel
theorem dX4_lengthOfGap_15 : decode cX4_lengthOfGap 15 = .ok (.aload_n 0, 1) := by decide +kernel
theorem dX4_lengthOfGap_16 : decode cX4_lengthOfGap 16 = .ok (.iload_n 2, 1) := by decide +kernel
theorem dX4_lengthOfGap_17 : decode cX4_lengthOfGap 17 = .ok (.invokevirtual 92, 3) := by decide +kernel
theorem dX4_lengthOfGap_20 : decode cX4_lengthOfGap 20 = .ok (.ifCond .ne 9, 3) := by decide +kernel
theorem dX4_lengthOfGap_23 : decode cX4_lengthOfGap 23 = .ok (.iinc 2 1, 3) := by decide +kernel
theorem dX4_lengthOfGap_26 : decode cX4_lengthOfGap 26 = .ok (.goto (-19), 3) := by decide +kernel
theorem dX4_lengthOfGap_29 : decode cX4_lengthOfGap 29 = .ok (.iload_n 2, 1) := by decide +kernel
theorem dX4_lengthOfGap_30 : decode cX4_lengthOfGap 30 = .ok (.aload_n 0, 1) := by decide +kernel
theorem dX4_lengthOfGap_31 : decode cX4_lengthOfGap 31 = .ok (.getfield 64, 3) := by decide +kernel
theorem dX4_lengthOfGap_34 : decode cX4_lengthOfGap 34 = .ok (.if_icmp .ge 7, 3) := by decide +kernel
theorem dX4_lengthOfGap_37 : decode cX4_lengthOfGap 37 = .ok (.iload_n 2, 1) := by decide +kernel
theorem dX4_lengthOfGap_38 : decode cX4_lengthOfGap 38 = .ok (.iload_n 1, 1) := by decide +kernel
theorem dX4_lengthOfGap_39 : decode cX4_lengthOfGap 39 = .ok (.isub, 1) := by decide +kernel
theorem dX4_lengthOfGap_40 : decode cX4_lengthOfGap 40 = .ok (.ireturn, 1) := by decide +kernel
theorem dX4_lengthOfGap_41 : decode cX4_lengthOfGap 41 = .ok (.aload_n 0, 1) := by decide +kernel
theorem dX4_lengthOfGap_42 : decode cX4_lengthOfGap 42 = .ok (.getfield 15, 3) := by decide +kernel
theorem dX4_lengthOfGap_45 : decode cX4_lengthOfGap 45 = .ok (.bipush (-6), 2) := by decide +kernel
theorem dX4_lengthOfGap_47 : decode cX4_lengthOfGap 47 = .ok (.if_icmp .ne 8, 3) := by decide +kernel
theorem dX4_lengthOfGap_50 : decode cX4_lengthOfGap 50 = .ok (.bipush (-6), 2) := by decide +kernel
theorem dX4_lengthOfGap_52 : decode cX4_lengthOfGap 52 = .ok (.goto 9, 3) := by decide +kernel
theorem dX4_lengthOfGap_55 : decode cX4_lengthOfGap 55 = .ok (.aload_n 0, 1) := by decide +kernel
theorem dX4_lengthOfGap_56 : decode cX4_lengthOfGap 56 = .ok (.getfield 15, 3) := by decide +kernel
theorem dX4_lengthOfGap_59 : decode cX4_lengthOfGap 59 = .ok (.iload_n 1, 1) := by decide +kernel
theorem dX4_lengthOfGap_60 : decode cX4_lengthOfGap 60 = .ok (.isub, 1) := by decide +kernel
theorem dX4_lengthOfGap_61 : decode cX4_lengthOfGap 61 = .ok (.ireturn, 1) := by decide +kernel
theorem dX4_tell_0 : decode cX4_tell 0 = .ok (.iload_n 1, 1) := by decide +kernel
theorem dX4_tell_1 : decode cX4_tell 1 = .ok (.tableswitch 167 0 13 #[71, 76, 81, 86, 91, 104, 109, 167, 114, 119, 136, 152, 157, 162], 71) := by decide +kernel
theorem dX4_tell_72 : decode cX4_tell 72 = .ok (.aload_n 0, 1) := by decide +kernel
theorem dX4_tell_73 : decode cX4_tell 73 = .ok (.getfield 22, 3) := by decide +kernel
theorem dX4_tell_76 : decode cX4_tell 76 = .ok (.ireturn, 1) := by decide +kernel
theorem dX4_tell_77 : decode cX4_tell 77 = .ok (.aload_n 0, 1) := by decide +kernel
theorem dX4_tell_78 : decode cX4_tell 78 = .ok (.getfield 25, 3) := by decide +kernel
theorem dX4_tell_81 : decode cX4_tell 81 = .ok (.ireturn, 1) := by decide +kernel
theorem dX4_tell_82 : decode cX4_tell 82 = .ok (.aload_n 0, 1) := by decide +kernel
theorem dX4_tell_83 : decode cX4_tell 83 = .ok (.getfield 28, 3) := by decide +kernel
theorem dX4_tell_86 : decode cX4_tell 86 = .ok (.ireturn, 1) := by decide +kernel
theorem dX4_tell_87 : decode cX4_tell 87 = .ok (.aload_n 0, 1) := by decide +kernel
theorem dX4_tell_88 : decode cX4_tell 88 = .ok (.getfield 31, 3) := by decide +kernel
theorem dX4_tell_91 : decode cX4_tell 91 = .ok (.ireturn, 1) := by decide +kernel
theorem dX4_tell_92 : decode cX4_tell 92 = .ok (.aload_n 0, 1) := by decide +kernel
theorem dX4_tell_93 : decode cX4_tell 93 = .ok (.getfield 37, 3) := by decide +kernel
theorem dX4_tell_96 : decode cX4_tell 96 = .ok (.ifCond .eq 7, 3) := by decide +kernel
theorem dX4_tell_99 : decode cX4_tell 99 = .ok (.iconst 1, 1) := by decide +kernel
theorem dX4_tell_100 : decode cX4_tell 100 = .ok (.goto 4, 3) := by decide +kernel
theorem dX4_tell_103 : decode cX4_tell 103 = .ok (.iconst 0, 1) := by decide +kernel
theorem dX4_tell_104 : decode cX4_tell 104 = .ok (.ireturn, 1) := by decide +kernel
theorem dX4_tell_105 : decode cX4_tell 105 = .ok (.aload_n 0, 1) := by decide +kernel
theorem dX4_tell_106 : decode cX4_tell 106 = .ok (.getfield 49, 3) := by decide +kernel
theorem dX4_tell_109 : decode cX4_tell 109 = .ok (.ireturn, 1) := by decide +kernel
theorem dX4_tell_110 : decode cX4_tell 110 = .ok (.aload_n 0, 1) := by decide +kernel
theorem dX4_tell_111 : decode cX4_tell 111 = .ok (.getfield 52, 3) := by decide +kernel
theorem dX4_tell_114 : decode cX4_tell 114 = .ok (.ireturn, 1) := by decide +kernel
theorem dX4_tell_115 : decode cX4_tell 115 = .ok (.aload_n 0, 1) := by decide +kernel
theorem dX4_tell_116 : decode cX4_tell 116 = .ok (.getfield 58, 3) := by decide +kernel
theorem dX4_tell_119 : decode cX4_tell 119 = .ok (.ireturn, 1) := by decide +kernel
theorem dX4_tell_120 : decode cX4_tell 120 = .ok (.aload_n 0, 1) := by decide +kernel
theorem dX4_tell_121 : decode cX4_tell 121 = .ok (.getfield 58, 3) := by decide +kernel
theorem dX4_tell_124 : decode cX4_tell 124 = .ok (.ifCond .ne 8, 3) := by decide +kernel
theorem dX4_tell_127 : decode cX4_tell 127 = .ok (.bipush (-6), 2) := by decide +kernel
theorem dX4_tell_129 : decode cX4_tell 129 = .ok (.goto 7, 3) := by decide +kernel
theorem dX4_tell_132 : decode cX4_tell 132 = .ok (.aload_n 0, 1) := by decide +kernel
theorem dX4_tell_133 : decode cX4_tell 133 = .ok (.getfield 15, 3) := by decide +kernel
theorem dX4_tell_136 : decode cX4_tell 136 = .ok (.ireturn, 1) := by decide +kernel
theorem dX4_tell_137 : decode cX4_tell 137 = .ok (.aload_n 0, 1) := by decide +kernel
theorem dX4_tell_138 : decode cX4_tell 138 = .ok (.getfield 58, 3) := by decide +kernel
theorem dX4_tell_141 : decode cX4_tell 141 = .ok (.ifCond .ne 7, 3) := by decide +kernel
theorem dX4_tell_144 : decode cX4_tell 144 = .ok (.iconst 0, 1) := by decide +kernel
theorem dX4_tell_145 : decode cX4_tell 145 = .ok (.goto 7, 3) := by decide +kernel
theorem dX4_tell_148 : decode cX4_tell 148 = .ok (.aload_n 0, 1) := by decide +kernel
theorem dX4_tell_149 : decode cX4_tell 149 = .ok (.invokevirtual 106, 3) := by decide +kernel
theorem dX4_tell_152 : decode cX4_tell 152 = .ok (.ireturn, 1) := by decide +kernel
theorem dX4_tell_153 : decode cX4_tell 153 = .ok (.aload_n 0, 1) := by decide +kernel
theorem dX4_tell_154 : decode cX4_tell 154 = .ok (.getfield 9, 3) := by decide +kernel
theorem dX4_tell_157 : decode cX4_tell 157 = .ok (.ireturn, 1) := by decide +kernel
theorem dX4_tell_158 : decode cX4_tell 158 = .ok (.aload_n 0, 1) := by decide +kernel
theorem dX4_tell_159 : decode cX4_tell 159 = .ok (.getfield 46, 3) := by decide +kernel
theorem dX4_tell_162 : decode cX4_tell 162 = .ok (.ireturn, 1) := by decide +kernel
theorem dX4_tell_163 : decode cX4_tell 163 = .ok (.aload_n 0, 1) := by decide +kernel
theorem dX4_tell_164 : decode cX4_tell 164 = .ok (.getfield 55, 3) := by decide +kernel
theorem dX4_tell_167 : decode cX4_tell 167 = .ok (.ireturn, 1) := by decide +kernel
theorem dX4_tell_168 : decode cX4_tell 168 = .ok (.bipush (-2), 2) := by decide +kernel
theorem dX4_tell_170 : decode cX4_tell 170 = .ok (.ireturn, 1) := by decide +kernel
theorem dX5_init_0 : decode cX5_init 0 = .ok (.aload_n 0, 1) := by decide +kernel
theorem dX5_init_1 : decode cX5_init 1 = .ok (.invokespecial 1, 3) := by decide +kernel
theorem dX5_init_4 : decode cX5_init 4 = .ok (.return_, 1) := by decide +kernel
theorem dX5_begin_0 : decode cX5_begin 0 = .ok (.aload_n 0, 1) := by decide +kernel
theorem dX5_begin_1 : decode cX5_begin 1 = .ok (.iload_n 1, 1) := by decide +kernel
theorem dX5_begin_2 : decode cX5_begin 2 = .ok (.putfield 7, 3) := by decide +kernel
theorem dX5_begin_5 : decode cX5_begin 5 = .ok (.aload_n 0, 1) := by decide +kernel
theorem dX5_begin_6 : decode cX5_begin 6 = .ok (.iload_n 2, 1) := by decide +kernel
theorem dX5_begin_7 : decode cX5_begin 7 = .ok (.putfield 13, 3) := by decide +kernel
theorem dX5_begin_10 : decode cX5_begin 10 = .ok (.aload_n 0, 1) := by decide +kernel
theorem dX5_begin_11 : decode cX5_begin 11 = .ok (.iload_n 3, 1) := by decide +kernel
theorem dX5_begin_12 : decode cX5_begin 12 = .ok (.putfield 16, 3) := by decide +kernel
theorem dX5_begin_15 : decode cX5_begin 15 = .ok (.return_, 1) := by decide +kernel
theorem dX5_span_0 : decode cX5_span 0 = .ok (.aload_n 0, 1) := by decide +kernel
theorem dX5_span_1 : decode cX5_span 1 = .ok (.iload_n 1, 1) := by decide +kernel
theorem dX5_span_2 : decode cX5_span 2 = .ok (.putfield 19, 3) := by decide +kernel
theorem dX5_span_5 : decode cX5_span 5 = .ok (.aload_n 0, 1) := by decide +kernel
theorem dX5_span_6 : decode cX5_span 6 = .ok (.iload_n 2, 1) := by decide +kernel
theorem dX5_span_7 : decode cX5_span 7 = .ok (.putfield 22, 3) := by decide +kernel
theorem dX5_span_10 : decode cX5_span 10 = .ok (.aload_n 0, 1) := by decide +kernel
theorem dX5_span_11 : decode cX5_span 11 = .ok (.iload_n 3, 1) := by decide +kernel
theorem dX5_span_12 : decode cX5_span 12 = .ok (.putfield 25, 3) := by decide +kernel
theorem dX5_span_15 : decode cX5_span 15 = .ok (.return_, 1) := by decide +kernel
theorem dX5_arrive_0 : decode cX5_arrive 0 = .ok (.aload_n 0, 1) := by decide +kernel
theorem dX5_arrive_1 : decode cX5_arrive 1 = .ok (.iload_n 1, 1) := by decide +kernel
theorem dX5_arrive_2 : decode cX5_arrive 2 = .ok (.putfield 29, 3) := by decide +kernel
theorem dX5_arrive_5 : decode cX5_arrive 5 = .ok (.aload_n 0, 1) := by decide +kernel
theorem dX5_arrive_6 : decode cX5_arrive 6 = .ok (.iload_n 2, 1) := by decide +kernel
theorem dX5_arrive_7 : decode cX5_arrive 7 = .ok (.putfield 32, 3) := by decide +kernel
theorem dX5_arrive_10 : decode cX5_arrive 10 = .ok (.aload_n 0, 1) := by decide +kernel
theorem dX5_arrive_11 : decode cX5_arrive 11 = .ok (.iconst 0, 1) := by decide +kernel
theorem dX5_arrive_12 : decode cX5_arrive 12 = .ok (.putfield 35, 3) := by decide +kernel
theorem dX5_arrive_15 : decode cX5_arrive 15 = .ok (.return_, 1) := by decide +kernel
theorem dX5_copyFrom_0 : decode cX5_copyFrom 0 = .ok (.aload_n 0, 1) := by decide +kernel
theorem dX5_copyFrom_1 : decode cX5_copyFrom 1 = .ok (.aload_n 1, 1) := by decide +kernel
theorem dX5_copyFrom_2 : decode cX5_copyFrom 2 = .ok (.getfield 7, 3) := by decide +kernel
theorem dX5_copyFrom_5 : decode cX5_copyFrom 5 = .ok (.putfield 7, 3) := by decide +kernel
theorem dX5_copyFrom_8 : decode cX5_copyFrom 8 = .ok (.aload_n 0, 1) := by decide +kernel
theorem dX5_copyFrom_9 : decode cX5_copyFrom 9 = .ok (.aload_n 1, 1) := by decide +kernel
theorem dX5_copyFrom_10 : decode cX5_copyFrom 10 = .ok (.getfield 19, 3) := by decide +kernel
theorem dX5_copyFrom_13 : decode cX5_copyFrom 13 = .ok (.putfield 19, 3) := by decide +kernel
theorem dX5_copyFrom_16 : decode cX5_copyFrom 16 = .ok (.aload_n 0, 1) := by decide +kernel
theorem dX5_copyFrom_17 : decode cX5_copyFrom 17 = .ok (.aload_n 1, 1) := by decide +kernel
theorem dX5_copyFrom_18 : decode cX5_copyFrom 18 = .ok (.getfield 22, 3) := by decide +kernel
theorem dX5_copyFrom_21 : decode cX5_copyFrom 21 = .ok (.putfield 22, 3) := by decide +kernel
theorem dX5_copyFrom_24 : decode cX5_copyFrom 24 = .ok (.aload_n 0, 1) := by decide +kernel
theorem dX5_copyFrom_25 : decode cX5_copyFrom 25 = .ok (.aload_n 1, 1) := by decide +kernel
theorem dX5_copyFrom_26 : decode cX5_copyFrom 26 = .ok (.getfield 16, 3) := by decide +kernel
theorem dX5_copyFrom_29 : decode cX5_copyFrom 29 = .ok (.putfield 16, 3) := by decide +kernel
theorem dX5_copyFrom_32 : decode cX5_copyFrom 32 = .ok (.aload_n 0, 1) := by decide +kernel
theorem dX5_copyFrom_33 : decode cX5_copyFrom 33 = .ok (.aload_n 1, 1) := by decide +kernel
theorem dX5_copyFrom_34 : decode cX5_copyFrom 34 = .ok (.getfield 13, 3) := by decide +kernel
theorem dX5_copyFrom_37 : decode cX5_copyFrom 37 = .ok (.putfield 13, 3) := by decide +kernel
theorem dX5_copyFrom_40 : decode cX5_copyFrom 40 = .ok (.aload_n 0, 1) := by decide +kernel
theorem dX5_copyFrom_41 : decode cX5_copyFrom 41 = .ok (.aload_n 1, 1) := by decide +kernel
theorem dX5_copyFrom_42 : decode cX5_copyFrom 42 = .ok (.getfield 25, 3) := by decide +kernel
theorem dX5_copyFrom_45 : decode cX5_copyFrom 45 = .ok (.putfield 25, 3) := by decide +kernel
theorem dX5_copyFrom_48 : decode cX5_copyFrom 48 = .ok (.aload_n 0, 1) := by decide +kernel
theorem dX5_copyFrom_49 : decode cX5_copyFrom 49 = .ok (.aload_n 1, 1) := by decide +kernel
theorem dX5_copyFrom_50 : decode cX5_copyFrom 50 = .ok (.getfield 29, 3) := by decide +kernel
theorem dX5_copyFrom_53 : decode cX5_copyFrom 53 = .ok (.putfield 29, 3) := by decide +kernel
theorem dX5_copyFrom_56 : decode cX5_copyFrom 56 = .ok (.aload_n 0, 1) := by decide +kernel
theorem dX5_copyFrom_57 : decode cX5_copyFrom 57 = .ok (.aload_n 1, 1) := by decide +kernel
theorem dX5_copyFrom_58 : decode cX5_copyFrom 58 = .ok (.getfield 32, 3) := by decide +kernel
theorem dX5_copyFrom_61 : decode cX5_copyFrom 61 = .ok (.putfield 32, 3) := by decide +kernel
theorem dX5_copyFrom_64 : decode cX5_copyFrom 64 = .ok (.aload_n 0, 1) := by decide +kernel
theorem dX5_copyFrom_65 : decode cX5_copyFrom 65 = .ok (.aload_n 1, 1) := by decide +kernel
theorem dX5_copyFrom_66 : decode cX5_copyFrom 66 = .ok (.getfield 35, 3) := by decide +kernel
theorem dX5_copyFrom_69 : decode cX5_copyFrom 69 = .ok (.putfield 35, 3) := by decide +kernel
theorem dX5_copyFrom_72 : decode cX5_copyFrom 72 = .ok (.return_, 1) := by decide +kernel
theorem dX6_init_0 : decode cX6_init 0 = .ok (.aload_n 0, 1) := by decide +kernel
theorem dX6_init_1 : decode cX6_init 1 = .ok (.invokespecial 3, 3) := by decide +kernel
theorem dX6_init_4 : decode cX6_init 4 = .ok (.aload_n 0, 1) := by decide +kernel
theorem dX6_init_5 : decode cX6_init 5 = .ok (.bipush 8, 2) := by decide +kernel
theorem dX6_init_7 : decode cX6_init 7 = .ok (.anewarray 9, 3) := by decide +kernel
theorem dX6_init_10 : decode cX6_init 10 = .ok (.putfield 11, 3) := by decide +kernel
theorem dX6_init_13 : decode cX6_init 13 = .ok (.aload_n 0, 1) := by decide +kernel
theorem dX6_init_14 : decode cX6_init 14 = .ok (.bipush 16, 2) := by decide +kernel
theorem dX6_init_16 : decode cX6_init 16 = .ok (.anewarray 17, 3) := by decide +kernel
theorem dX6_init_19 : decode cX6_init 19 = .ok (.putfield 19, 3) := by decide +kernel
theorem dX6_init_22 : decode cX6_init 22 = .ok (.aload_n 0, 1) := by decide +kernel
theorem dX6_init_23 : decode cX6_init 23 = .ok (.bipush 40, 2) := by decide +kernel
theorem dX6_init_25 : decode cX6_init 25 = .ok (.anewarray 23, 3) := by decide +kernel
theorem dX6_init_28 : decode cX6_init 28 = .ok (.putfield 25, 3) := by decide +kernel
theorem dX6_init_31 : decode cX6_init 31 = .ok (.aload_n 0, 1) := by decide +kernel
theorem dX6_init_32 : decode cX6_init 32 = .ok (.sipush 601, 3) := by decide +kernel
theorem dX6_init_35 : decode cX6_init 35 = .ok (.anewarray 29, 3) := by decide +kernel
theorem dX6_init_38 : decode cX6_init 38 = .ok (.putfield 31, 3) := by decide +kernel
theorem dX6_init_41 : decode cX6_init 41 = .ok (.aload_n 0, 1) := by decide +kernel
theorem dX6_init_42 : decode cX6_init 42 = .ok (.bipush 8, 2) := by decide +kernel
theorem dX6_init_44 : decode cX6_init 44 = .ok (.newarray .int, 2) := by decide +kernel
theorem dX6_init_46 : decode cX6_init 46 = .ok (.putfield 35, 3) := by decide +kernel
theorem dX6_init_49 : decode cX6_init 49 = .ok (.aload_n 0, 1) := by decide +kernel
theorem dX6_init_50 : decode cX6_init 50 = .ok (.bipush 8, 2) := by decide +kernel
theorem dX6_init_52 : decode cX6_init 52 = .ok (.anewarray 17, 3) := by decide +kernel
theorem dX6_init_55 : decode cX6_init 55 = .ok (.putfield 39, 3) := by decide +kernel
theorem dX6_init_58 : decode cX6_init 58 = .ok (.iconst 0, 1) := by decide +kernel
theorem dX6_init_59 : decode cX6_init 59 = .ok (.istore_n 1, 1) := by decide +kernel
theorem dX6_init_60 : decode cX6_init 60 = .ok (.iload_n 1, 1) := by decide +kernel
theorem dX6_init_61 : decode cX6_init 61 = .ok (.aload_n 0, 1) := by decide +kernel
theorem dX6_init_62 : decode cX6_init 62 = .ok (.getfield 11, 3) := by decide +kernel
theorem dX6_init_65 : decode cX6_init 65 = .ok (.arraylength, 1) := by decide +kernel
theorem dX6_init_66 : decode cX6_init 66 = .ok (.if_icmp .ge 22, 3) := by decide +kernel
theorem dX6_init_69 : decode cX6_init 69 = .ok (.aload_n 0, 1) := by decide +kernel
theorem dX6_init_70 : decode cX6_init 70 = .ok (.getfield 11, 3) := by decide +kernel
theorem dX6_init_73 : decode cX6_init 73 = .ok (.iload_n 1, 1) := by decide +kernel
theorem dX6_init_74 : decode cX6_init 74 = .ok (.new 9, 3) := by decide +kernel
theorem dX6_init_77 : decode cX6_init 77 = .ok (.dup, 1) := by decide +kernel
theorem dX6_init_78 : decode cX6_init 78 = .ok (.invokespecial 42, 3) := by decide +kernel
theorem dX6_init_81 : decode cX6_init 81 = .ok (.aastore, 1) := by decide +kernel
theorem dX6_init_82 : decode cX6_init 82 = .ok (.iinc 1 1, 3) := by decide +kernel
theorem dX6_init_85 : decode cX6_init 85 = .ok (.goto (-25), 3) := by decide +kernel
theorem dX6_init_88 : decode cX6_init 88 = .ok (.iconst 0, 1) := by decide +kernel
theorem dX6_init_89 : decode cX6_init 89 = .ok (.istore_n 1, 1) := by decide +kernel
theorem dX6_init_90 : decode cX6_init 90 = .ok (.iload_n 1, 1) := by decide +kernel
theorem dX6_init_91 : decode cX6_init 91 = .ok (.aload_n 0, 1) := by decide +kernel
theorem dX6_init_92 : decode cX6_init 92 = .ok (.getfield 19, 3) := by decide +kernel
theorem dX6_init_95 : decode cX6_init 95 = .ok (.arraylength, 1) := by decide +kernel
theorem dX6_init_96 : decode cX6_init 96 = .ok (.if_icmp .ge 22, 3) := by decide +kernel
theorem dX6_init_99 : decode cX6_init 99 = .ok (.aload_n 0, 1) := by decide +kernel
theorem dX6_init_100 : decode cX6_init 100 = .ok (.getfield 19, 3) := by decide +kernel
theorem dX6_init_103 : decode cX6_init 103 = .ok (.iload_n 1, 1) := by decide +kernel
theorem dX6_init_104 : decode cX6_init 104 = .ok (.new 17, 3) := by decide +kernel
theorem dX6_init_107 : decode cX6_init 107 = .ok (.dup, 1) := by decide +kernel
theorem dX6_init_108 : decode cX6_init 108 = .ok (.invokespecial 43, 3) := by decide +kernel
theorem dX6_init_111 : decode cX6_init 111 = .ok (.aastore, 1) := by decide +kernel
theorem dX6_init_112 : decode cX6_init 112 = .ok (.iinc 1 1, 3) := by decide +kernel
theorem dX6_init_115 : decode cX6_init 115 = .ok (.goto (-25), 3) := by decide +kernel
theorem dX6_init_118 : decode cX6_init 118 = .ok (.iconst 0, 1) := by decide +kernel
theorem dX6_init_119 : decode cX6_init 119 = .ok (.istore_n 1, 1) := by decide +kernel
theorem dX6_init_120 : decode cX6_init 120 = .ok (.iload_n 1, 1) := by decide +kernel
theorem dX6_init_121 : decode cX6_init 121 = .ok (.aload_n 0, 1) := by decide +kernel
theorem dX6_init_122 : decode cX6_init 122 = .ok (.getfield 25, 3) := by decide +kernel
theorem dX6_init_125 : decode cX6_init 125 = .ok (.arraylength, 1) := by decide +kernel
theorem dX6_init_126 : decode cX6_init 126 = .ok (.if_icmp .ge 22, 3) := by decide +kernel
theorem dX6_init_129 : decode cX6_init 129 = .ok (.aload_n 0, 1) := by decide +kernel
theorem dX6_init_130 : decode cX6_init 130 = .ok (.getfield 25, 3) := by decide +kernel
theorem dX6_init_133 : decode cX6_init 133 = .ok (.iload_n 1, 1) := by decide +kernel
theorem dX6_init_134 : decode cX6_init 134 = .ok (.new 23, 3) := by decide +kernel
theorem dX6_init_137 : decode cX6_init 137 = .ok (.dup, 1) := by decide +kernel
theorem dX6_init_138 : decode cX6_init 138 = .ok (.invokespecial 44, 3) := by decide +kernel
theorem dX6_init_141 : decode cX6_init 141 = .ok (.aastore, 1) := by decide +kernel
theorem dX6_init_142 : decode cX6_init 142 = .ok (.iinc 1 1, 3) := by decide +kernel
theorem dX6_init_145 : decode cX6_init 145 = .ok (.goto (-25), 3) := by decide +kernel
theorem dX6_init_148 : decode cX6_init 148 = .ok (.iconst 0, 1) := by decide +kernel
theorem dX6_init_149 : decode cX6_init 149 = .ok (.istore_n 1, 1) := by decide +kernel
theorem dX6_init_150 : decode cX6_init 150 = .ok (.iload_n 1, 1) := by decide +kernel
theorem dX6_init_151 : decode cX6_init 151 = .ok (.aload_n 0, 1) := by decide +kernel
theorem dX6_init_152 : decode cX6_init 152 = .ok (.getfield 31, 3) := by decide +kernel
theorem dX6_init_155 : decode cX6_init 155 = .ok (.arraylength, 1) := by decide +kernel
theorem dX6_init_156 : decode cX6_init 156 = .ok (.if_icmp .ge 22, 3) := by decide +kernel
theorem dX6_init_159 : decode cX6_init 159 = .ok (.aload_n 0, 1) := by decide +kernel
theorem dX6_init_160 : decode cX6_init 160 = .ok (.getfield 31, 3) := by decide +kernel
theorem dX6_init_163 : decode cX6_init 163 = .ok (.iload_n 1, 1) := by decide +kernel
theorem dX6_init_164 : decode cX6_init 164 = .ok (.new 29, 3) := by decide +kernel
theorem dX6_init_167 : decode cX6_init 167 = .ok (.dup, 1) := by decide +kernel
theorem dX6_init_168 : decode cX6_init 168 = .ok (.invokespecial 45, 3) := by decide +kernel
theorem dX6_init_171 : decode cX6_init 171 = .ok (.aastore, 1) := by decide +kernel
theorem dX6_init_172 : decode cX6_init 172 = .ok (.iinc 1 1, 3) := by decide +kernel
theorem dX6_init_175 : decode cX6_init 175 = .ok (.goto (-25), 3) := by decide +kernel
theorem dX6_init_178 : decode cX6_init 178 = .ok (.return_, 1) := by decide +kernel
theorem dX6_copyFrom_0 : decode cX6_copyFrom 0 = .ok (.aload_n 0, 1) := by decide +kernel
theorem dX6_copyFrom_1 : decode cX6_copyFrom 1 = .ok (.aload_n 1, 1) := by decide +kernel
theorem dX6_copyFrom_2 : decode cX6_copyFrom 2 = .ok (.getfield 46, 3) := by decide +kernel
theorem dX6_copyFrom_5 : decode cX6_copyFrom 5 = .ok (.putfield 46, 3) := by decide +kernel
theorem dX6_copyFrom_8 : decode cX6_copyFrom 8 = .ok (.aload_n 0, 1) := by decide +kernel
theorem dX6_copyFrom_9 : decode cX6_copyFrom 9 = .ok (.aload_n 1, 1) := by decide +kernel
theorem dX6_copyFrom_10 : decode cX6_copyFrom 10 = .ok (.getfield 50, 3) := by decide +kernel
theorem dX6_copyFrom_13 : decode cX6_copyFrom 13 = .ok (.putfield 50, 3) := by decide +kernel
theorem dX6_copyFrom_16 : decode cX6_copyFrom 16 = .ok (.aload_n 0, 1) := by decide +kernel
theorem dX6_copyFrom_17 : decode cX6_copyFrom 17 = .ok (.aload_n 1, 1) := by decide +kernel
theorem dX6_copyFrom_18 : decode cX6_copyFrom 18 = .ok (.getfield 53, 3) := by decide +kernel
theorem dX6_copyFrom_21 : decode cX6_copyFrom 21 = .ok (.putfield 53, 3) := by decide +kernel
theorem dX6_copyFrom_24 : decode cX6_copyFrom 24 = .ok (.aload_n 0, 1) := by decide +kernel
theorem dX6_copyFrom_25 : decode cX6_copyFrom 25 = .ok (.aload_n 1, 1) := by decide +kernel
theorem dX6_copyFrom_26 : decode cX6_copyFrom 26 = .ok (.getfield 56, 3) := by decide +kernel
theorem dX6_copyFrom_29 : decode cX6_copyFrom 29 = .ok (.putfield 56, 3) := by decide +kernel
theorem dX6_copyFrom_32 : decode cX6_copyFrom 32 = .ok (.aload_n 0, 1) := by decide +kernel
theorem dX6_copyFrom_33 : decode cX6_copyFrom 33 = .ok (.aload_n 1, 1) := by decide +kernel
theorem dX6_copyFrom_34 : decode cX6_copyFrom 34 = .ok (.getfield 59, 3) := by decide +kernel
theorem dX6_copyFrom_37 : decode cX6_copyFrom 37 = .ok (.putfield 59, 3) := by decide +kernel
theorem dX6_copyFrom_40 : decode cX6_copyFrom 40 = .ok (.aload_n 0, 1) := by decide +kernel
theorem dX6_copyFrom_41 : decode cX6_copyFrom 41 = .ok (.aload_n 1, 1) := by decide +kernel
theorem dX6_copyFrom_42 : decode cX6_copyFrom 42 = .ok (.getfield 62, 3) := by decide +kernel
theorem dX6_copyFrom_45 : decode cX6_copyFrom 45 = .ok (.putfield 62, 3) := by decide +kernel
theorem dX6_copyFrom_48 : decode cX6_copyFrom 48 = .ok (.aload_n 0, 1) := by decide +kernel
theorem dX6_copyFrom_49 : decode cX6_copyFrom 49 = .ok (.aload_n 1, 1) := by decide +kernel
theorem dX6_copyFrom_50 : decode cX6_copyFrom 50 = .ok (.getfield 65, 3) := by decide +kernel
theorem dX6_copyFrom_53 : decode cX6_copyFrom 53 = .ok (.putfield 65, 3) := by decide +kernel
theorem dX6_copyFrom_56 : decode cX6_copyFrom 56 = .ok (.aload_n 0, 1) := by decide +kernel
theorem dX6_copyFrom_57 : decode cX6_copyFrom 57 = .ok (.aload_n 1, 1) := by decide +kernel
theorem dX6_copyFrom_58 : decode cX6_copyFrom 58 = .ok (.getfield 68, 3) := by decide +kernel
theorem dX6_copyFrom_61 : decode cX6_copyFrom 61 = .ok (.putfield 68, 3) := by decide +kernel
theorem dX6_copyFrom_64 : decode cX6_copyFrom 64 = .ok (.aload_n 1, 1) := by decide +kernel
theorem dX6_copyFrom_65 : decode cX6_copyFrom 65 = .ok (.getfield 35, 3) := by decide +kernel
theorem dX6_copyFrom_68 : decode cX6_copyFrom 68 = .ok (.iconst 0, 1) := by decide +kernel
theorem dX6_copyFrom_69 : decode cX6_copyFrom 69 = .ok (.aload_n 0, 1) := by decide +kernel
theorem dX6_copyFrom_70 : decode cX6_copyFrom 70 = .ok (.getfield 35, 3) := by decide +kernel
theorem dX6_copyFrom_73 : decode cX6_copyFrom 73 = .ok (.iconst 0, 1) := by decide +kernel
theorem dX6_copyFrom_74 : decode cX6_copyFrom 74 = .ok (.aload_n 0, 1) := by decide +kernel
theorem dX6_copyFrom_75 : decode cX6_copyFrom 75 = .ok (.getfield 35, 3) := by decide +kernel
theorem dX6_copyFrom_78 : decode cX6_copyFrom 78 = .ok (.arraylength, 1) := by decide +kernel
theorem dX6_copyFrom_79 : decode cX6_copyFrom 79 = .ok (.invokestatic 71, 3) := by decide +kernel
theorem dX6_copyFrom_82 : decode cX6_copyFrom 82 = .ok (.iconst 0, 1) := by decide +kernel
theorem dX6_copyFrom_83 : decode cX6_copyFrom 83 = .ok (.istore_n 2, 1) := by decide +kernel
theorem dX6_copyFrom_84 : decode cX6_copyFrom 84 = .ok (.iload_n 2, 1) := by decide +kernel
theorem dX6_copyFrom_85 : decode cX6_copyFrom 85 = .ok (.aload_n 0, 1) := by decide +kernel
theorem dX6_copyFrom_86 : decode cX6_copyFrom 86 = .ok (.getfield 11, 3) := by decide +kernel
theorem dX6_copyFrom_89 : decode cX6_copyFrom 89 = .ok (.arraylength, 1) := by decide +kernel
theorem dX6_copyFrom_90 : decode cX6_copyFrom 90 = .ok (.if_icmp .ge 24, 3) := by decide +kernel
theorem dX6_copyFrom_93 : decode cX6_copyFrom 93 = .ok (.aload_n 0, 1) := by decide +kernel
theorem dX6_copyFrom_94 : decode cX6_copyFrom 94 = .ok (.getfield 11, 3) := by decide +kernel
theorem dX6_copyFrom_97 : decode cX6_copyFrom 97 = .ok (.iload_n 2, 1) := by decide +kernel
theorem dX6_copyFrom_98 : decode cX6_copyFrom 98 = .ok (.aaload, 1) := by decide +kernel
theorem dX6_copyFrom_99 : decode cX6_copyFrom 99 = .ok (.aload_n 1, 1) := by decide +kernel
theorem dX6_copyFrom_100 : decode cX6_copyFrom 100 = .ok (.getfield 11, 3) := by decide +kernel
theorem dX6_copyFrom_103 : decode cX6_copyFrom 103 = .ok (.iload_n 2, 1) := by decide +kernel
theorem dX6_copyFrom_104 : decode cX6_copyFrom 104 = .ok (.aaload, 1) := by decide +kernel
theorem dX6_copyFrom_105 : decode cX6_copyFrom 105 = .ok (.invokevirtual 77, 3) := by decide +kernel
theorem dX6_copyFrom_108 : decode cX6_copyFrom 108 = .ok (.iinc 2 1, 3) := by decide +kernel
theorem dX6_copyFrom_111 : decode cX6_copyFrom 111 = .ok (.goto (-27), 3) := by decide +kernel
theorem dX6_copyFrom_114 : decode cX6_copyFrom 114 = .ok (.iconst 0, 1) := by decide +kernel
theorem dX6_copyFrom_115 : decode cX6_copyFrom 115 = .ok (.istore_n 2, 1) := by decide +kernel
theorem dX6_copyFrom_116 : decode cX6_copyFrom 116 = .ok (.iload_n 2, 1) := by decide +kernel
theorem dX6_copyFrom_117 : decode cX6_copyFrom 117 = .ok (.aload_n 0, 1) := by decide +kernel
theorem dX6_copyFrom_118 : decode cX6_copyFrom 118 = .ok (.getfield 19, 3) := by decide +kernel
theorem dX6_copyFrom_121 : decode cX6_copyFrom 121 = .ok (.arraylength, 1) := by decide +kernel
theorem dX6_copyFrom_122 : decode cX6_copyFrom 122 = .ok (.if_icmp .ge 24, 3) := by decide +kernel
theorem dX6_copyFrom_125 : decode cX6_copyFrom 125 = .ok (.aload_n 0, 1) := by decide +kernel
theorem dX6_copyFrom_126 : decode cX6_copyFrom 126 = .ok (.getfield 19, 3) := by decide +kernel
theorem dX6_copyFrom_129 : decode cX6_copyFrom 129 = .ok (.iload_n 2, 1) := by decide +kernel
theorem dX6_copyFrom_130 : decode cX6_copyFrom 130 = .ok (.aaload, 1) := by decide +kernel
theorem dX6_copyFrom_131 : decode cX6_copyFrom 131 = .ok (.aload_n 1, 1) := by decide +kernel
theorem dX6_copyFrom_132 : decode cX6_copyFrom 132 = .ok (.getfield 19, 3) := by decide +kernel
theorem dX6_copyFrom_135 : decode cX6_copyFrom 135 = .ok (.iload_n 2, 1) := by decide +kernel
theorem dX6_copyFrom_136 : decode cX6_copyFrom 136 = .ok (.aaload, 1) := by decide +kernel
theorem dX6_copyFrom_137 : decode cX6_copyFrom 137 = .ok (.invokevirtual 81, 3) := by decide +kernel
theorem dX6_copyFrom_140 : decode cX6_copyFrom 140 = .ok (.iinc 2 1, 3) := by decide +kernel
theorem dX6_copyFrom_143 : decode cX6_copyFrom 143 = .ok (.goto (-27), 3) := by decide +kernel
theorem dX6_copyFrom_146 : decode cX6_copyFrom 146 = .ok (.iconst 0, 1) := by decide +kernel
theorem dX6_copyFrom_147 : decode cX6_copyFrom 147 = .ok (.istore_n 2, 1) := by decide +kernel
theorem dX6_copyFrom_148 : decode cX6_copyFrom 148 = .ok (.iload_n 2, 1) := by decide +kernel
theorem dX6_copyFrom_149 : decode cX6_copyFrom 149 = .ok (.aload_n 0, 1) := by decide +kernel
theorem dX6_copyFrom_150 : decode cX6_copyFrom 150 = .ok (.getfield 25, 3) := by decide +kernel
theorem dX6_copyFrom_153 : decode cX6_copyFrom 153 = .ok (.arraylength, 1) := by decide +kernel
theorem dX6_copyFrom_154 : decode cX6_copyFrom 154 = .ok (.if_icmp .ge 24, 3) := by decide +kernel
theorem dX6_copyFrom_157 : decode cX6_copyFrom 157 = .ok (.aload_n 0, 1) := by decide +kernel
theorem dX6_copyFrom_158 : decode cX6_copyFrom 158 = .ok (.getfield 25, 3) := by decide +kernel
theorem dX6_copyFrom_161 : decode cX6_copyFrom 161 = .ok (.iload_n 2, 1) := by decide +kernel
theorem dX6_copyFrom_162 : decode cX6_copyFrom 162 = .ok (.aaload, 1) := by decide +kernel
theorem dX6_copyFrom_163 : decode cX6_copyFrom 163 = .ok (.aload_n 1, 1) := by decide +kernel
theorem dX6_copyFrom_164 : decode cX6_copyFrom 164 = .ok (.getfield 25, 3) := by decide +kernel
theorem dX6_copyFrom_167 : decode cX6_copyFrom 167 = .ok (.iload_n 2, 1) := by decide +kernel
theorem dX6_copyFrom_168 : decode cX6_copyFrom 168 = .ok (.aaload, 1) := by decide +kernel
theorem dX6_copyFrom_169 : decode cX6_copyFrom 169 = .ok (.invokevirtual 84, 3) := by decide +kernel
theorem dX6_copyFrom_172 : decode cX6_copyFrom 172 = .ok (.iinc 2 1, 3) := by decide +kernel
theorem dX6_copyFrom_175 : decode cX6_copyFrom 175 = .ok (.goto (-27), 3) := by decide +kernel
theorem dX6_copyFrom_178 : decode cX6_copyFrom 178 = .ok (.iconst 0, 1) := by decide +kernel
theorem dX6_copyFrom_179 : decode cX6_copyFrom 179 = .ok (.istore_n 2, 1) := by decide +kernel
theorem dX6_copyFrom_180 : decode cX6_copyFrom 180 = .ok (.iload_n 2, 1) := by decide +kernel
theorem dX6_copyFrom_181 : decode cX6_copyFrom 181 = .ok (.aload_n 0, 1) := by decide +kernel
theorem dX6_copyFrom_182 : decode cX6_copyFrom 182 = .ok (.getfield 56, 3) := by decide +kernel
theorem dX6_copyFrom_185 : decode cX6_copyFrom 185 = .ok (.if_icmp .ge 24, 3) := by decide +kernel
theorem dX6_copyFrom_188 : decode cX6_copyFrom 188 = .ok (.aload_n 0, 1) := by decide +kernel
theorem dX6_copyFrom_189 : decode cX6_copyFrom 189 = .ok (.getfield 31, 3) := by decide +kernel
theorem dX6_copyFrom_192 : decode cX6_copyFrom 192 = .ok (.iload_n 2, 1) := by decide +kernel
theorem dX6_copyFrom_193 : decode cX6_copyFrom 193 = .ok (.aaload, 1) := by decide +kernel
theorem dX6_copyFrom_194 : decode cX6_copyFrom 194 = .ok (.aload_n 1, 1) := by decide +kernel
theorem dX6_copyFrom_195 : decode cX6_copyFrom 195 = .ok (.getfield 31, 3) := by decide +kernel
theorem dX6_copyFrom_198 : decode cX6_copyFrom 198 = .ok (.iload_n 2, 1) := by decide +kernel
theorem dX6_copyFrom_199 : decode cX6_copyFrom 199 = .ok (.aaload, 1) := by decide +kernel
theorem dX6_copyFrom_200 : decode cX6_copyFrom 200 = .ok (.invokevirtual 87, 3) := by decide +kernel
theorem dX6_copyFrom_203 : decode cX6_copyFrom 203 = .ok (.iinc 2 1, 3) := by decide +kernel
theorem dX6_copyFrom_206 : decode cX6_copyFrom 206 = .ok (.goto (-26), 3) := by decide +kernel
theorem dX6_copyFrom_209 : decode cX6_copyFrom 209 = .ok (.return_, 1) := by decide +kernel
theorem dX6_nodeAt_0 : decode cX6_nodeAt 0 = .ok (.iload_n 1, 1) := by decide +kernel
theorem dX6_nodeAt_1 : decode cX6_nodeAt 1 = .ok (.iconst 0, 1) := by decide +kernel
theorem dX6_nodeAt_2 : decode cX6_nodeAt 2 = .ok (.aload_n 0, 1) := by decide +kernel
theorem dX6_nodeAt_3 : decode cX6_nodeAt 3 = .ok (.getfield 11, 3) := by decide +kernel
theorem dX6_nodeAt_6 : decode cX6_nodeAt 6 = .ok (.arraylength, 1) := by decide +kernel
theorem dX6_nodeAt_7 : decode cX6_nodeAt 7 = .ok (.iconst 1, 1) := by decide +kernel
theorem dX6_nodeAt_8 : decode cX6_nodeAt 8 = .ok (.isub, 1) := by decide +kernel
theorem dX6_nodeAt_9 : decode cX6_nodeAt 9 = .ok (.invokestatic 90, 3) := by decide +kernel
theorem dX6_nodeAt_12 : decode cX6_nodeAt 12 = .ok (.ifCond .eq 12, 3) := by decide +kernel
theorem dX6_nodeAt_15 : decode cX6_nodeAt 15 = .ok (.aload_n 0, 1) := by decide +kernel
theorem dX6_nodeAt_16 : decode cX6_nodeAt 16 = .ok (.getfield 11, 3) := by decide +kernel
theorem dX6_nodeAt_19 : decode cX6_nodeAt 19 = .ok (.iload_n 1, 1) := by decide +kernel
theorem dX6_nodeAt_20 : decode cX6_nodeAt 20 = .ok (.aaload, 1) := by decide +kernel
theorem dX6_nodeAt_21 : decode cX6_nodeAt 21 = .ok (.goto 4, 3) := by decide +kernel
theorem dX6_nodeAt_24 : decode cX6_nodeAt 24 = .ok (.aconst_null, 1) := by decide +kernel
theorem dX6_nodeAt_25 : decode cX6_nodeAt 25 = .ok (.areturn, 1) := by decide +kernel
theorem dX6_bridgeAt_0 : decode cX6_bridgeAt 0 = .ok (.iload_n 1, 1) := by decide +kernel
theorem dX6_bridgeAt_1 : decode cX6_bridgeAt 1 = .ok (.iconst 0, 1) := by decide +kernel
theorem dX6_bridgeAt_2 : decode cX6_bridgeAt 2 = .ok (.aload_n 0, 1) := by decide +kernel
theorem dX6_bridgeAt_3 : decode cX6_bridgeAt 3 = .ok (.getfield 50, 3) := by decide +kernel
theorem dX6_bridgeAt_6 : decode cX6_bridgeAt 6 = .ok (.iconst 1, 1) := by decide +kernel
theorem dX6_bridgeAt_7 : decode cX6_bridgeAt 7 = .ok (.isub, 1) := by decide +kernel
theorem dX6_bridgeAt_8 : decode cX6_bridgeAt 8 = .ok (.invokestatic 90, 3) := by decide +kernel
theorem dX6_bridgeAt_11 : decode cX6_bridgeAt 11 = .ok (.ifCond .eq 12, 3) := by decide +kernel
theorem dX6_bridgeAt_14 : decode cX6_bridgeAt 14 = .ok (.aload_n 0, 1) := by decide +kernel
theorem dX6_bridgeAt_15 : decode cX6_bridgeAt 15 = .ok (.getfield 19, 3) := by decide +kernel
theorem dX6_bridgeAt_18 : decode cX6_bridgeAt 18 = .ok (.iload_n 1, 1) := by decide +kernel
theorem dX6_bridgeAt_19 : decode cX6_bridgeAt 19 = .ok (.aaload, 1) := by decide +kernel
theorem dX6_bridgeAt_20 : decode cX6_bridgeAt 20 = .ok (.goto 4, 3) := by decide +kernel
theorem dX6_bridgeAt_23 : decode cX6_bridgeAt 23 = .ok (.aconst_null, 1) := by decide +kernel
theorem dX6_bridgeAt_24 : decode cX6_bridgeAt 24 = .ok (.areturn, 1) := by decide +kernel
theorem dX6_parcelAt_0 : decode cX6_parcelAt 0 = .ok (.iload_n 1, 1) := by decide +kernel
theorem dX6_parcelAt_1 : decode cX6_parcelAt 1 = .ok (.iconst 0, 1) := by decide +kernel
theorem dX6_parcelAt_2 : decode cX6_parcelAt 2 = .ok (.aload_n 0, 1) := by decide +kernel
theorem dX6_parcelAt_3 : decode cX6_parcelAt 3 = .ok (.getfield 53, 3) := by decide +kernel
theorem dX6_parcelAt_6 : decode cX6_parcelAt 6 = .ok (.iconst 1, 1) := by decide +kernel
theorem dX6_parcelAt_7 : decode cX6_parcelAt 7 = .ok (.isub, 1) := by decide +kernel
theorem dX6_parcelAt_8 : decode cX6_parcelAt 8 = .ok (.invokestatic 90, 3) := by decide +kernel
theorem dX6_parcelAt_11 : decode cX6_parcelAt 11 = .ok (.ifCond .eq 12, 3) := by decide +kernel
theorem dX6_parcelAt_14 : decode cX6_parcelAt 14 = .ok (.aload_n 0, 1) := by decide +kernel
theorem dX6_parcelAt_15 : decode cX6_parcelAt 15 = .ok (.getfield 25, 3) := by decide +kernel
theorem dX6_parcelAt_18 : decode cX6_parcelAt 18 = .ok (.iload_n 1, 1) := by decide +kernel
theorem dX6_parcelAt_19 : decode cX6_parcelAt 19 = .ok (.aaload, 1) := by decide +kernel
theorem dX6_parcelAt_20 : decode cX6_parcelAt 20 = .ok (.goto 4, 3) := by decide +kernel
theorem dX6_parcelAt_23 : decode cX6_parcelAt 23 = .ok (.aconst_null, 1) := by decide +kernel
theorem dX6_parcelAt_24 : decode cX6_parcelAt 24 = .ok (.areturn, 1) := by decide +kernel
theorem dX6_sendParcel_0 : decode cX6_sendParcel 0 = .ok (.iload_n 1, 1) := by decide +kernel
theorem dX6_sendParcel_1 : decode cX6_sendParcel 1 = .ok (.iload_n 2, 1) := by decide +kernel
theorem dX6_sendParcel_2 : decode cX6_sendParcel 2 = .ok (.invokestatic 94, 3) := by decide +kernel
theorem dX6_sendParcel_5 : decode cX6_sendParcel 5 = .ok (.ifCond .ne 5, 3) := by decide +kernel
theorem dX6_sendParcel_8 : decode cX6_sendParcel 8 = .ok (.iconst (-1), 1) := by decide +kernel
theorem dX6_sendParcel_9 : decode cX6_sendParcel 9 = .ok (.ireturn, 1) := by decide +kernel
theorem dX6_sendParcel_10 : decode cX6_sendParcel 10 = .ok (.iload_n 3, 1) := by decide +kernel
theorem dX6_sendParcel_11 : decode cX6_sendParcel 11 = .ok (.iconst 1, 1) := by decide +kernel
theorem dX6_sendParcel_12 : decode cX6_sendParcel 12 = .ok (.sipush 4000, 3) := by decide +kernel
theorem dX6_sendParcel_15 : decode cX6_sendParcel 15 = .ok (.invokestatic 90, 3) := by decide +kernel
theorem dX6_sendParcel_18 : decode cX6_sendParcel 18 = .ok (.ifCond .eq 15, 3) := by decide +kernel
theorem dX6_sendParcel_21 : decode cX6_sendParcel 21 = .ok (.iload 4, 2) := by decide +kernel
theorem dX6_sendParcel_23 : decode cX6_sendParcel 23 = .ok (.iconst 0, 1) := by decide +kernel
theorem dX6_sendParcel_24 : decode cX6_sendParcel 24 = .ok (.sipush 255, 3) := by decide +kernel
theorem dX6_sendParcel_27 : decode cX6_sendParcel 27 = .ok (.invokestatic 90, 3) := by decide +kernel
theorem dX6_sendParcel_30 : decode cX6_sendParcel 30 = .ok (.ifCond .ne 6, 3) := by decide +kernel
theorem dX6_sendParcel_33 : decode cX6_sendParcel 33 = .ok (.bipush (-2), 2) := by decide +kernel
theorem dX6_sendParcel_35 : decode cX6_sendParcel 35 = .ok (.ireturn, 1) := by decide +kernel
theorem dX6_sendParcel_36 : decode cX6_sendParcel 36 = .ok (.iload 5, 2) := by decide +kernel
theorem dX6_sendParcel_38 : decode cX6_sendParcel 38 = .ok (.iconst 2, 1) := by decide +kernel
theorem dX6_sendParcel_39 : decode cX6_sendParcel 39 = .ok (.bipush 41, 2) := by decide +kernel
theorem dX6_sendParcel_41 : decode cX6_sendParcel 41 = .ok (.invokestatic 90, 3) := by decide +kernel
theorem dX6_sendParcel_44 : decode cX6_sendParcel 44 = .ok (.ifCond .ne 6, 3) := by decide +kernel
theorem dX6_sendParcel_47 : decode cX6_sendParcel 47 = .ok (.bipush (-2), 2) := by decide +kernel
theorem dX6_sendParcel_49 : decode cX6_sendParcel 49 = .ok (.ireturn, 1) := by decide +kernel
theorem dX6_sendParcel_50 : decode cX6_sendParcel 50 = .ok (.aload_n 0, 1) := by decide +kernel
theorem dX6_sendParcel_51 : decode cX6_sendParcel 51 = .ok (.invokevirtual 98, 3) := by decide +kernel
theorem dX6_sendParcel_54 : decode cX6_sendParcel 54 = .ok (.astore 7, 2) := by decide +kernel
theorem dX6_sendParcel_56 : decode cX6_sendParcel 56 = .ok (.aload 7, 2) := by decide +kernel
theorem dX6_sendParcel_58 : decode cX6_sendParcel 58 = .ok (.ifnull 15, 3) := by decide +kernel
theorem dX6_sendParcel_61 : decode cX6_sendParcel 61 = .ok (.aload_n 0, 1) := by decide +kernel
theorem dX6_sendParcel_62 : decode cX6_sendParcel 62 = .ok (.getfield 53, 3) := by decide +kernel
theorem dX6_sendParcel_65 : decode cX6_sendParcel 65 = .ok (.aload_n 0, 1) := by decide +kernel
theorem dX6_sendParcel_66 : decode cX6_sendParcel 66 = .ok (.getfield 25, 3) := by decide +kernel
theorem dX6_sendParcel_69 : decode cX6_sendParcel 69 = .ok (.arraylength, 1) := by decide +kernel
theorem dX6_sendParcel_70 : decode cX6_sendParcel 70 = .ok (.if_icmp .lt 6, 3) := by decide +kernel
theorem dX6_sendParcel_73 : decode cX6_sendParcel 73 = .ok (.bipush (-4), 2) := by decide +kernel
theorem dX6_sendParcel_75 : decode cX6_sendParcel 75 = .ok (.ireturn, 1) := by decide +kernel
theorem dX6_sendParcel_76 : decode cX6_sendParcel 76 = .ok (.aload_n 0, 1) := by decide +kernel
theorem dX6_sendParcel_77 : decode cX6_sendParcel 77 = .ok (.aload 6, 2) := by decide +kernel
theorem dX6_sendParcel_79 : decode cX6_sendParcel 79 = .ok (.invokevirtual 102, 3) := by decide +kernel
theorem dX6_sendParcel_82 : decode cX6_sendParcel 82 = .ok (.aload_n 0, 1) := by decide +kernel
theorem dX6_sendParcel_83 : decode cX6_sendParcel 83 = .ok (.getfield 53, 3) := by decide +kernel
theorem dX6_sendParcel_86 : decode cX6_sendParcel 86 = .ok (.istore 8, 2) := by decide +kernel
theorem dX6_sendParcel_88 : decode cX6_sendParcel 88 = .ok (.aload_n 0, 1) := by decide +kernel
theorem dX6_sendParcel_89 : decode cX6_sendParcel 89 = .ok (.getfield 25, 3) := by decide +kernel
theorem dX6_sendParcel_92 : decode cX6_sendParcel 92 = .ok (.iload 8, 2) := by decide +kernel
theorem dX6_sendParcel_94 : decode cX6_sendParcel 94 = .ok (.aaload, 1) := by decide +kernel
theorem dX6_sendParcel_95 : decode cX6_sendParcel 95 = .ok (.iload_n 1, 1) := by decide +kernel
theorem dX6_sendParcel_96 : decode cX6_sendParcel 96 = .ok (.iload_n 2, 1) := by decide +kernel
theorem dX6_sendParcel_97 : decode cX6_sendParcel 97 = .ok (.iload_n 3, 1) := by decide +kernel
theorem dX6_sendParcel_98 : decode cX6_sendParcel 98 = .ok (.iload 4, 2) := by decide +kernel
theorem dX6_sendParcel_100 : decode cX6_sendParcel 100 = .ok (.iload 5, 2) := by decide +kernel
theorem dX6_sendParcel_102 : decode cX6_sendParcel 102 = .ok (.invokevirtual 106, 3) := by decide +kernel
theorem dX6_sendParcel_105 : decode cX6_sendParcel 105 = .ok (.aload_n 0, 1) := by decide +kernel
theorem dX6_sendParcel_106 : decode cX6_sendParcel 106 = .ok (.dup, 1) := by decide +kernel
theorem dX6_sendParcel_107 : decode cX6_sendParcel 107 = .ok (.getfield 53, 3) := by decide +kernel
theorem dX6_sendParcel_110 : decode cX6_sendParcel 110 = .ok (.iconst 1, 1) := by decide +kernel
theorem dX6_sendParcel_111 : decode cX6_sendParcel 111 = .ok (.iadd, 1) := by decide +kernel
theorem dX6_sendParcel_112 : decode cX6_sendParcel 112 = .ok (.putfield 53, 3) := by decide +kernel
theorem dX6_sendParcel_115 : decode cX6_sendParcel 115 = .ok (.aload_n 0, 1) := by decide +kernel
theorem dX6_sendParcel_116 : decode cX6_sendParcel 116 = .ok (.aload 7, 2) := by decide +kernel
theorem dX6_sendParcel_118 : decode cX6_sendParcel 118 = .ok (.iload 8, 2) := by decide +kernel
theorem dX6_sendParcel_120 : decode cX6_sendParcel 120 = .ok (.aload_n 0, 1) := by decide +kernel
theorem dX6_sendParcel_121 : decode cX6_sendParcel 121 = .ok (.getfield 25, 3) := by decide +kernel
theorem dX6_sendParcel_124 : decode cX6_sendParcel 124 = .ok (.iload 8, 2) := by decide +kernel
theorem dX6_sendParcel_126 : decode cX6_sendParcel 126 = .ok (.aaload, 1) := by decide +kernel
theorem dX6_sendParcel_127 : decode cX6_sendParcel 127 = .ok (.invokevirtual 110, 3) := by decide +kernel
theorem dX6_sendParcel_130 : decode cX6_sendParcel 130 = .ok (.iload 8, 2) := by decide +kernel
theorem dX6_sendParcel_132 : decode cX6_sendParcel 132 = .ok (.ireturn, 1) := by decide +kernel
theorem dX6_sendAgain_0 : decode cX6_sendAgain 0 = .ok (.aload_n 0, 1) := by decide +kernel
theorem dX6_sendAgain_1 : decode cX6_sendAgain 1 = .ok (.iload_n 1, 1) := by decide +kernel
theorem dX6_sendAgain_2 : decode cX6_sendAgain 2 = .ok (.invokevirtual 114, 3) := by decide +kernel
theorem dX6_sendAgain_5 : decode cX6_sendAgain 5 = .ok (.astore_n 3, 1) := by decide +kernel
theorem dX6_sendAgain_6 : decode cX6_sendAgain 6 = .ok (.aload_n 3, 1) := by decide +kernel
theorem dX6_sendAgain_7 : decode cX6_sendAgain 7 = .ok (.ifnonnull 5, 3) := by decide +kernel
theorem dX6_sendAgain_10 : decode cX6_sendAgain 10 = .ok (.iconst (-1), 1) := by decide +kernel
theorem dX6_sendAgain_11 : decode cX6_sendAgain 11 = .ok (.ireturn, 1) := by decide +kernel
theorem dX6_sendAgain_12 : decode cX6_sendAgain 12 = .ok (.aload_n 0, 1) := by decide +kernel
theorem dX6_sendAgain_13 : decode cX6_sendAgain 13 = .ok (.invokevirtual 98, 3) := by decide +kernel
theorem dX6_sendAgain_16 : decode cX6_sendAgain 16 = .ok (.astore 4, 2) := by decide +kernel
theorem dX6_sendAgain_18 : decode cX6_sendAgain 18 = .ok (.aload 4, 2) := by decide +kernel
theorem dX6_sendAgain_20 : decode cX6_sendAgain 20 = .ok (.ifnonnull 6, 3) := by decide +kernel
theorem dX6_sendAgain_23 : decode cX6_sendAgain 23 = .ok (.bipush (-4), 2) := by decide +kernel
theorem dX6_sendAgain_25 : decode cX6_sendAgain 25 = .ok (.ireturn, 1) := by decide +kernel
theorem dX6_sendAgain_26 : decode cX6_sendAgain 26 = .ok (.aload_n 3, 1) := by decide +kernel
theorem dX6_sendAgain_27 : decode cX6_sendAgain 27 = .ok (.getfield 118, 3) := by decide +kernel
theorem dX6_sendAgain_30 : decode cX6_sendAgain 30 = .ok (.ifCond .eq 6, 3) := by decide +kernel
theorem dX6_sendAgain_33 : decode cX6_sendAgain 33 = .ok (.bipush (-5), 2) := by decide +kernel
theorem dX6_sendAgain_35 : decode cX6_sendAgain 35 = .ok (.ireturn, 1) := by decide +kernel
theorem dX6_sendAgain_36 : decode cX6_sendAgain 36 = .ok (.aload_n 0, 1) := by decide +kernel
theorem dX6_sendAgain_37 : decode cX6_sendAgain 37 = .ok (.aload_n 2, 1) := by decide +kernel
theorem dX6_sendAgain_38 : decode cX6_sendAgain 38 = .ok (.invokevirtual 102, 3) := by decide +kernel
theorem dX6_sendAgain_41 : decode cX6_sendAgain 41 = .ok (.aload_n 0, 1) := by decide +kernel
theorem dX6_sendAgain_42 : decode cX6_sendAgain 42 = .ok (.aload 4, 2) := by decide +kernel
theorem dX6_sendAgain_44 : decode cX6_sendAgain 44 = .ok (.iload_n 1, 1) := by decide +kernel
theorem dX6_sendAgain_45 : decode cX6_sendAgain 45 = .ok (.aload_n 3, 1) := by decide +kernel
theorem dX6_sendAgain_46 : decode cX6_sendAgain 46 = .ok (.invokevirtual 110, 3) := by decide +kernel
theorem dX6_sendAgain_49 : decode cX6_sendAgain 49 = .ok (.aload_n 3, 1) := by decide +kernel
theorem dX6_sendAgain_50 : decode cX6_sendAgain 50 = .ok (.getfield 121, 3) := by decide +kernel
theorem dX6_sendAgain_53 : decode cX6_sendAgain 53 = .ok (.ireturn, 1) := by decide +kernel
theorem dX6_forgeSlice_0 : decode cX6_forgeSlice 0 = .ok (.aload_n 0, 1) := by decide +kernel
theorem dX6_forgeSlice_1 : decode cX6_forgeSlice 1 = .ok (.iload_n 1, 1) := by decide +kernel
theorem dX6_forgeSlice_2 : decode cX6_forgeSlice 2 = .ok (.invokevirtual 114, 3) := by decide +kernel
theorem dX6_forgeSlice_5 : decode cX6_forgeSlice 5 = .ok (.astore 7, 2) := by decide +kernel
theorem dX6_forgeSlice_7 : decode cX6_forgeSlice 7 = .ok (.aload 7, 2) := by decide +kernel
theorem dX6_forgeSlice_9 : decode cX6_forgeSlice 9 = .ok (.ifnonnull 5, 3) := by decide +kernel
theorem dX6_forgeSlice_12 : decode cX6_forgeSlice 12 = .ok (.iconst (-1), 1) := by decide +kernel
theorem dX6_forgeSlice_13 : decode cX6_forgeSlice 13 = .ok (.ireturn, 1) := by decide +kernel
theorem dX6_forgeSlice_14 : decode cX6_forgeSlice 14 = .ok (.iload_n 2, 1) := by decide +kernel
theorem dX6_forgeSlice_15 : decode cX6_forgeSlice 15 = .ok (.iconst 0, 1) := by decide +kernel
theorem dX6_forgeSlice_16 : decode cX6_forgeSlice 16 = .ok (.sipush 3999, 3) := by decide +kernel
theorem dX6_forgeSlice_19 : decode cX6_forgeSlice 19 = .ok (.invokestatic 90, 3) := by decide +kernel
theorem dX6_forgeSlice_22 : decode cX6_forgeSlice 22 = .ok (.ifCond .eq 14, 3) := by decide +kernel
theorem dX6_forgeSlice_25 : decode cX6_forgeSlice 25 = .ok (.iload_n 3, 1) := by decide +kernel
theorem dX6_forgeSlice_26 : decode cX6_forgeSlice 26 = .ok (.iconst 1, 1) := by decide +kernel
theorem dX6_forgeSlice_27 : decode cX6_forgeSlice 27 = .ok (.sipush 1500, 3) := by decide +kernel
theorem dX6_forgeSlice_30 : decode cX6_forgeSlice 30 = .ok (.invokestatic 90, 3) := by decide +kernel
theorem dX6_forgeSlice_33 : decode cX6_forgeSlice 33 = .ok (.ifCond .ne 6, 3) := by decide +kernel
theorem dX6_forgeSlice_36 : decode cX6_forgeSlice 36 = .ok (.bipush (-2), 2) := by decide +kernel
theorem dX6_forgeSlice_38 : decode cX6_forgeSlice 38 = .ok (.ireturn, 1) := by decide +kernel
theorem dX6_forgeSlice_39 : decode cX6_forgeSlice 39 = .ok (.iload 4, 2) := by decide +kernel
theorem dX6_forgeSlice_41 : decode cX6_forgeSlice 41 = .ok (.iconst 0, 1) := by decide +kernel
theorem dX6_forgeSlice_42 : decode cX6_forgeSlice 42 = .ok (.iconst 1, 1) := by decide +kernel
theorem dX6_forgeSlice_43 : decode cX6_forgeSlice 43 = .ok (.invokestatic 90, 3) := by decide +kernel
theorem dX6_forgeSlice_46 : decode cX6_forgeSlice 46 = .ok (.ifCond .eq 15, 3) := by decide +kernel
theorem dX6_forgeSlice_49 : decode cX6_forgeSlice 49 = .ok (.iload 5, 2) := by decide +kernel
theorem dX6_forgeSlice_51 : decode cX6_forgeSlice 51 = .ok (.iconst 0, 1) := by decide +kernel
theorem dX6_forgeSlice_52 : decode cX6_forgeSlice 52 = .ok (.sipush 255, 3) := by decide +kernel
theorem dX6_forgeSlice_55 : decode cX6_forgeSlice 55 = .ok (.invokestatic 90, 3) := by decide +kernel
theorem dX6_forgeSlice_58 : decode cX6_forgeSlice 58 = .ok (.ifCond .ne 6, 3) := by decide +kernel
theorem dX6_forgeSlice_61 : decode cX6_forgeSlice 61 = .ok (.bipush (-2), 2) := by decide +kernel
theorem dX6_forgeSlice_63 : decode cX6_forgeSlice 63 = .ok (.ireturn, 1) := by decide +kernel
theorem dX6_forgeSlice_64 : decode cX6_forgeSlice 64 = .ok (.aload_n 0, 1) := by decide +kernel
theorem dX6_forgeSlice_65 : decode cX6_forgeSlice 65 = .ok (.invokevirtual 98, 3) := by decide +kernel
theorem dX6_forgeSlice_68 : decode cX6_forgeSlice 68 = .ok (.astore 8, 2) := by decide +kernel
theorem dX6_forgeSlice_70 : decode cX6_forgeSlice 70 = .ok (.aload 8, 2) := by decide +kernel
theorem dX6_forgeSlice_72 : decode cX6_forgeSlice 72 = .ok (.ifnonnull 6, 3) := by decide +kernel
theorem dX6_forgeSlice_75 : decode cX6_forgeSlice 75 = .ok (.bipush (-4), 2) := by decide +kernel
theorem dX6_forgeSlice_77 : decode cX6_forgeSlice 77 = .ok (.ireturn, 1) := by decide +kernel
theorem dX6_forgeSlice_78 : decode cX6_forgeSlice 78 = .ok (.aload_n 0, 1) := by decide +kernel
theorem dX6_forgeSlice_79 : decode cX6_forgeSlice 79 = .ok (.aload 6, 2) := by decide +kernel
theorem dX6_forgeSlice_81 : decode cX6_forgeSlice 81 = .ok (.invokevirtual 102, 3) := by decide +kernel
theorem dX6_forgeSlice_84 : decode cX6_forgeSlice 84 = .ok (.aload 8, 2) := by decide +kernel
theorem dX6_forgeSlice_86 : decode cX6_forgeSlice 86 = .ok (.iload_n 1, 1) := by decide +kernel
theorem dX6_forgeSlice_87 : decode cX6_forgeSlice 87 = .ok (.iload 5, 2) := by decide +kernel
theorem dX6_forgeSlice_89 : decode cX6_forgeSlice 89 = .ok (.iconst 0, 1) := by decide +kernel
theorem dX6_forgeSlice_90 : decode cX6_forgeSlice 90 = .ok (.invokevirtual 124, 3) := by decide +kernel
theorem dX6_forgeSlice_93 : decode cX6_forgeSlice 93 = .ok (.aload 8, 2) := by decide +kernel
theorem dX6_forgeSlice_95 : decode cX6_forgeSlice 95 = .ok (.iload_n 2, 1) := by decide +kernel
theorem dX6_forgeSlice_96 : decode cX6_forgeSlice 96 = .ok (.iload_n 3, 1) := by decide +kernel
theorem dX6_forgeSlice_97 : decode cX6_forgeSlice 97 = .ok (.iload 4, 2) := by decide +kernel
theorem dX6_forgeSlice_99 : decode cX6_forgeSlice 99 = .ok (.iconst 1, 1) := by decide +kernel
theorem dX6_forgeSlice_100 : decode cX6_forgeSlice 100 = .ok (.if_icmp .ne 7, 3) := by decide +kernel
theorem dX6_forgeSlice_103 : decode cX6_forgeSlice 103 = .ok (.iconst 1, 1) := by decide +kernel
theorem dX6_forgeSlice_104 : decode cX6_forgeSlice 104 = .ok (.goto 4, 3) := by decide +kernel
theorem dX6_forgeSlice_107 : decode cX6_forgeSlice 107 = .ok (.iconst 0, 1) := by decide +kernel
theorem dX6_forgeSlice_108 : decode cX6_forgeSlice 108 = .ok (.invokevirtual 127, 3) := by decide +kernel
theorem dX6_forgeSlice_111 : decode cX6_forgeSlice 111 = .ok (.aload 8, 2) := by decide +kernel
theorem dX6_forgeSlice_113 : decode cX6_forgeSlice 113 = .ok (.aload 7, 2) := by decide +kernel
theorem dX6_forgeSlice_115 : decode cX6_forgeSlice 115 = .ok (.getfield 131, 3) := by decide +kernel
theorem dX6_forgeSlice_118 : decode cX6_forgeSlice 118 = .ok (.aload_n 0, 1) := by decide +kernel
theorem dX6_forgeSlice_119 : decode cX6_forgeSlice 119 = .ok (.getfield 46, 3) := by decide +kernel
theorem dX6_forgeSlice_122 : decode cX6_forgeSlice 122 = .ok (.invokevirtual 134, 3) := by decide +kernel
theorem dX6_forgeSlice_125 : decode cX6_forgeSlice 125 = .ok (.aload_n 0, 1) := by decide +kernel
theorem dX6_forgeSlice_126 : decode cX6_forgeSlice 126 = .ok (.invokevirtual 138, 3) := by decide +kernel
theorem dX6_forgeSlice_129 : decode cX6_forgeSlice 129 = .ok (.aload_n 0, 1) := by decide +kernel
theorem dX6_forgeSlice_130 : decode cX6_forgeSlice 130 = .ok (.getfield 59, 3) := by decide +kernel
theorem dX6_forgeSlice_133 : decode cX6_forgeSlice 133 = .ok (.ireturn, 1) := by decide +kernel
theorem dX6_keepIn_0 : decode cX6_keepIn 0 = .ok (.aload_n 1, 1) := by decide +kernel
theorem dX6_keepIn_1 : decode cX6_keepIn 1 = .ok (.ifnull 8, 3) := by decide +kernel
theorem dX6_keepIn_4 : decode cX6_keepIn 4 = .ok (.aload_n 1, 1) := by decide +kernel
theorem dX6_keepIn_5 : decode cX6_keepIn 5 = .ok (.aload_n 0, 1) := by decide +kernel
theorem dX6_keepIn_6 : decode cX6_keepIn 6 = .ok (.invokevirtual 141, 3) := by decide +kernel
theorem dX6_keepIn_9 : decode cX6_keepIn 9 = .ok (.return_, 1) := by decide +kernel
theorem dX6_launch_0 : decode cX6_launch 0 = .ok (.aload_n 1, 1) := by decide +kernel
theorem dX6_launch_1 : decode cX6_launch 1 = .ok (.iload_n 2, 1) := by decide +kernel
theorem dX6_launch_2 : decode cX6_launch 2 = .ok (.aload_n 3, 1) := by decide +kernel
theorem dX6_launch_3 : decode cX6_launch 3 = .ok (.getfield 147, 3) := by decide +kernel
theorem dX6_launch_6 : decode cX6_launch 6 = .ok (.aload_n 3, 1) := by decide +kernel
theorem dX6_launch_7 : decode cX6_launch 7 = .ok (.getfield 150, 3) := by decide +kernel
theorem dX6_launch_10 : decode cX6_launch 10 = .ok (.invokevirtual 124, 3) := by decide +kernel
theorem dX6_launch_13 : decode cX6_launch 13 = .ok (.aload_n 1, 1) := by decide +kernel
theorem dX6_launch_14 : decode cX6_launch 14 = .ok (.iconst 0, 1) := by decide +kernel
theorem dX6_launch_15 : decode cX6_launch 15 = .ok (.aload_n 3, 1) := by decide +kernel
theorem dX6_launch_16 : decode cX6_launch 16 = .ok (.getfield 153, 3) := by decide +kernel
theorem dX6_launch_19 : decode cX6_launch 19 = .ok (.iconst 1, 1) := by decide +kernel
theorem dX6_launch_20 : decode cX6_launch 20 = .ok (.invokevirtual 127, 3) := by decide +kernel
theorem dX6_launch_23 : decode cX6_launch 23 = .ok (.aload_n 1, 1) := by decide +kernel
theorem dX6_launch_24 : decode cX6_launch 24 = .ok (.aload_n 3, 1) := by decide +kernel
theorem dX6_launch_25 : decode cX6_launch 25 = .ok (.getfield 156, 3) := by decide +kernel
theorem dX6_launch_28 : decode cX6_launch 28 = .ok (.aload_n 0, 1) := by decide +kernel
theorem dX6_launch_29 : decode cX6_launch 29 = .ok (.getfield 46, 3) := by decide +kernel
theorem dX6_launch_32 : decode cX6_launch 32 = .ok (.invokevirtual 134, 3) := by decide +kernel
theorem dX6_launch_35 : decode cX6_launch 35 = .ok (.aload_n 0, 1) := by decide +kernel
theorem dX6_launch_36 : decode cX6_launch 36 = .ok (.invokevirtual 138, 3) := by decide +kernel
theorem dX6_launch_39 : decode cX6_launch 39 = .ok (.aload_n 3, 1) := by decide +kernel
theorem dX6_launch_40 : decode cX6_launch 40 = .ok (.dup, 1) := by decide +kernel
theorem dX6_launch_41 : decode cX6_launch 41 = .ok (.getfield 121, 3) := by decide +kernel
theorem dX6_launch_44 : decode cX6_launch 44 = .ok (.iconst 1, 1) := by decide +kernel
theorem dX6_launch_45 : decode cX6_launch 45 = .ok (.iadd, 1) := by decide +kernel
theorem dX6_launch_46 : decode cX6_launch 46 = .ok (.putfield 121, 3) := by decide +kernel
theorem dX6_launch_49 : decode cX6_launch 49 = .ok (.return_, 1) := by decide +kernel
theorem dX6_freeSlice_0 : decode cX6_freeSlice 0 = .ok (.aload_n 0, 1) := by decide +kernel
theorem dX6_freeSlice_1 : decode cX6_freeSlice 1 = .ok (.invokevirtual 159, 3) := by decide +kernel
theorem dX6_freeSlice_4 : decode cX6_freeSlice 4 = .ok (.ifCond .ne 15, 3) := by decide +kernel
theorem dX6_freeSlice_7 : decode cX6_freeSlice 7 = .ok (.aload_n 0, 1) := by decide +kernel
theorem dX6_freeSlice_8 : decode cX6_freeSlice 8 = .ok (.getfield 56, 3) := by decide +kernel
theorem dX6_freeSlice_11 : decode cX6_freeSlice 11 = .ok (.aload_n 0, 1) := by decide +kernel
theorem dX6_freeSlice_12 : decode cX6_freeSlice 12 = .ok (.getfield 31, 3) := by decide +kernel
theorem dX6_freeSlice_15 : decode cX6_freeSlice 15 = .ok (.arraylength, 1) := by decide +kernel
theorem dX6_freeSlice_16 : decode cX6_freeSlice 16 = .ok (.if_icmp .lt 7, 3) := by decide +kernel
theorem dX6_freeSlice_19 : decode cX6_freeSlice 19 = .ok (.aconst_null, 1) := by decide +kernel
theorem dX6_freeSlice_20 : decode cX6_freeSlice 20 = .ok (.goto 12, 3) := by decide +kernel
theorem dX6_freeSlice_23 : decode cX6_freeSlice 23 = .ok (.aload_n 0, 1) := by decide +kernel
theorem dX6_freeSlice_24 : decode cX6_freeSlice 24 = .ok (.getfield 31, 3) := by decide +kernel
theorem dX6_freeSlice_27 : decode cX6_freeSlice 27 = .ok (.aload_n 0, 1) := by decide +kernel
theorem dX6_freeSlice_28 : decode cX6_freeSlice 28 = .ok (.getfield 56, 3) := by decide +kernel
theorem dX6_freeSlice_31 : decode cX6_freeSlice 31 = .ok (.aaload, 1) := by decide +kernel
theorem dX6_freeSlice_32 : decode cX6_freeSlice 32 = .ok (.areturn, 1) := by decide +kernel
theorem dX6_isFull_0 : decode cX6_isFull 0 = .ok (.aload_n 0, 1) := by decide +kernel
theorem dX6_isFull_1 : decode cX6_isFull 1 = .ok (.getfield 59, 3) := by decide +kernel
theorem dX6_isFull_4 : decode cX6_isFull 4 = .ok (.sipush 300, 3) := by decide +kernel
theorem dX6_isFull_7 : decode cX6_isFull 7 = .ok (.if_icmp .lt 7, 3) := by decide +kernel
theorem dX6_isFull_10 : decode cX6_isFull 10 = .ok (.iconst 1, 1) := by decide +kernel
theorem dX6_isFull_11 : decode cX6_isFull 11 = .ok (.goto 4, 3) := by decide +kernel
theorem dX6_isFull_14 : decode cX6_isFull 14 = .ok (.iconst 0, 1) := by decide +kernel
theorem dX6_isFull_15 : decode cX6_isFull 15 = .ok (.ireturn, 1) := by decide +kernel
theorem dX6_countNew_0 : decode cX6_countNew 0 = .ok (.aload_n 0, 1) := by decide +kernel
theorem dX6_countNew_1 : decode cX6_countNew 1 = .ok (.dup, 1) := by decide +kernel
theorem dX6_countNew_2 : decode cX6_countNew 2 = .ok (.getfield 56, 3) := by decide +kernel
theorem dX6_countNew_5 : decode cX6_countNew 5 = .ok (.iconst 1, 1) := by decide +kernel
theorem dX6_countNew_6 : decode cX6_countNew 6 = .ok (.iadd, 1) := by decide +kernel
theorem dX6_countNew_7 : decode cX6_countNew 7 = .ok (.putfield 56, 3) := by decide +kernel
theorem dX6_countNew_10 : decode cX6_countNew 10 = .ok (.aload_n 0, 1) := by decide +kernel
theorem dX6_countNew_11 : decode cX6_countNew 11 = .ok (.dup, 1) := by decide +kernel
theorem dX6_countNew_12 : decode cX6_countNew 12 = .ok (.getfield 59, 3) := by decide +kernel
theorem dX6_countNew_15 : decode cX6_countNew 15 = .ok (.iconst 1, 1) := by decide +kernel
theorem dX6_countNew_16 : decode cX6_countNew 16 = .ok (.iadd, 1) := by decide +kernel
theorem dX6_countNew_17 : decode cX6_countNew 17 = .ok (.putfield 59, 3) := by decide +kernel
theorem dX6_countNew_20 : decode cX6_countNew 20 = .ok (.aload_n 0, 1) := by decide +kernel
theorem dX6_countNew_21 : decode cX6_countNew 21 = .ok (.dup, 1) := by decide +kernel
theorem dX6_countNew_22 : decode cX6_countNew 22 = .ok (.getfield 62, 3) := by decide +kernel
theorem dX6_countNew_25 : decode cX6_countNew 25 = .ok (.iconst 1, 1) := by decide +kernel
theorem dX6_countNew_26 : decode cX6_countNew 26 = .ok (.iadd, 1) := by decide +kernel
theorem dX6_countNew_27 : decode cX6_countNew 27 = .ok (.putfield 62, 3) := by decide +kernel
theorem dX6_countNew_30 : decode cX6_countNew 30 = .ok (.return_, 1) := by decide +kernel
theorem dX6_obey_0 : decode cX6_obey 0 = .ok (.aload_n 1, 1) := by decide +kernel
theorem dX6_obey_1 : decode cX6_obey 1 = .ok (.getfield 163, 3) := by decide +kernel
theorem dX6_obey_4 : decode cX6_obey 4 = .ok (.iconst 0, 1) := by decide +kernel
theorem dX6_obey_5 : decode cX6_obey 5 = .ok (.iaload, 1) := by decide +kernel
theorem dX6_obey_6 : decode cX6_obey 6 = .ok (.istore_n 2, 1) := by decide +kernel
theorem dX6_obey_7 : decode cX6_obey 7 = .ok (.aload_n 1, 1) := by decide +kernel
theorem dX6_obey_8 : decode cX6_obey 8 = .ok (.getfield 163, 3) := by decide +kernel
theorem dX6_obey_11 : decode cX6_obey 11 = .ok (.iconst 1, 1) := by decide +kernel
theorem dX6_obey_12 : decode cX6_obey 12 = .ok (.iaload, 1) := by decide +kernel
theorem dX6_obey_13 : decode cX6_obey 13 = .ok (.istore_n 3, 1) := by decide +kernel
theorem dX6_obey_14 : decode cX6_obey 14 = .ok (.aload_n 1, 1) := by decide +kernel
theorem dX6_obey_15 : decode cX6_obey 15 = .ok (.getfield 163, 3) := by decide +kernel
theorem dX6_obey_18 : decode cX6_obey 18 = .ok (.iconst 2, 1) := by decide +kernel
theorem dX6_obey_19 : decode cX6_obey 19 = .ok (.iaload, 1) := by decide +kernel
theorem dX6_obey_20 : decode cX6_obey 20 = .ok (.istore 4, 2) := by decide +kernel
theorem dX6_obey_22 : decode cX6_obey 22 = .ok (.aload_n 1, 1) := by decide +kernel
theorem dX6_obey_23 : decode cX6_obey 23 = .ok (.getfield 168, 3) := by decide +kernel
theorem dX6_obey_26 : decode cX6_obey 26 = .ok (.bipush 115, 2) := by decide +kernel
theorem dX6_obey_28 : decode cX6_obey 28 = .ok (.if_icmp .ne 26, 3) := by decide +kernel
theorem dX6_obey_31 : decode cX6_obey 31 = .ok (.aload_n 0, 1) := by decide +kernel
theorem dX6_obey_32 : decode cX6_obey 32 = .ok (.iload_n 2, 1) := by decide +kernel
theorem dX6_obey_33 : decode cX6_obey 33 = .ok (.iload_n 3, 1) := by decide +kernel
theorem dX6_obey_34 : decode cX6_obey 34 = .ok (.iload 4, 2) := by decide +kernel
theorem dX6_obey_36 : decode cX6_obey 36 = .ok (.iconst 0, 1) := by decide +kernel
theorem dX6_obey_37 : decode cX6_obey 37 = .ok (.aload_n 1, 1) := by decide +kernel
theorem dX6_obey_38 : decode cX6_obey 38 = .ok (.invokevirtual 172, 3) := by decide +kernel
theorem dX6_obey_41 : decode cX6_obey 41 = .ok (.aconst_null, 1) := by decide +kernel
theorem dX6_obey_42 : decode cX6_obey 42 = .ok (.invokevirtual 176, 3) := by decide +kernel
theorem dX6_obey_45 : decode cX6_obey 45 = .ok (.ifCond .lt 7, 3) := by decide +kernel
theorem dX6_obey_48 : decode cX6_obey 48 = .ok (.iconst 1, 1) := by decide +kernel
theorem dX6_obey_49 : decode cX6_obey 49 = .ok (.goto 4, 3) := by decide +kernel
theorem dX6_obey_52 : decode cX6_obey 52 = .ok (.iconst 0, 1) := by decide +kernel
theorem dX6_obey_53 : decode cX6_obey 53 = .ok (.ireturn, 1) := by decide +kernel
theorem dX6_obey_54 : decode cX6_obey 54 = .ok (.aload_n 1, 1) := by decide +kernel
theorem dX6_obey_55 : decode cX6_obey 55 = .ok (.getfield 168, 3) := by decide +kernel
theorem dX6_obey_58 : decode cX6_obey 58 = .ok (.bipush 114, 2) := by decide +kernel
theorem dX6_obey_60 : decode cX6_obey 60 = .ok (.if_icmp .ne 18, 3) := by decide +kernel
theorem dX6_obey_63 : decode cX6_obey 63 = .ok (.aload_n 0, 1) := by decide +kernel
theorem dX6_obey_64 : decode cX6_obey 64 = .ok (.iload_n 2, 1) := by decide +kernel
theorem dX6_obey_65 : decode cX6_obey 65 = .ok (.aconst_null, 1) := by decide +kernel
theorem dX6_obey_66 : decode cX6_obey 66 = .ok (.invokevirtual 180, 3) := by decide +kernel
theorem dX6_obey_69 : decode cX6_obey 69 = .ok (.ifCond .lt 7, 3) := by decide +kernel
theorem dX6_obey_72 : decode cX6_obey 72 = .ok (.iconst 1, 1) := by decide +kernel
theorem dX6_obey_73 : decode cX6_obey 73 = .ok (.goto 4, 3) := by decide +kernel
theorem dX6_obey_76 : decode cX6_obey 76 = .ok (.iconst 0, 1) := by decide +kernel
theorem dX6_obey_77 : decode cX6_obey 77 = .ok (.ireturn, 1) := by decide +kernel
theorem dX6_obey_78 : decode cX6_obey 78 = .ok (.aload_n 1, 1) := by decide +kernel
theorem dX6_obey_79 : decode cX6_obey 79 = .ok (.getfield 168, 3) := by decide +kernel
theorem dX6_obey_82 : decode cX6_obey 82 = .ok (.bipush 102, 2) := by decide +kernel
theorem dX6_obey_84 : decode cX6_obey 84 = .ok (.if_icmp .ne 28, 3) := by decide +kernel
theorem dX6_obey_87 : decode cX6_obey 87 = .ok (.aload_n 0, 1) := by decide +kernel
theorem dX6_obey_88 : decode cX6_obey 88 = .ok (.iload_n 2, 1) := by decide +kernel
theorem dX6_obey_89 : decode cX6_obey 89 = .ok (.iload_n 3, 1) := by decide +kernel
theorem dX6_obey_90 : decode cX6_obey 90 = .ok (.iload 4, 2) := by decide +kernel
theorem dX6_obey_92 : decode cX6_obey 92 = .ok (.aload_n 1, 1) := by decide +kernel
theorem dX6_obey_93 : decode cX6_obey 93 = .ok (.invokevirtual 184, 3) := by decide +kernel
theorem dX6_obey_96 : decode cX6_obey 96 = .ok (.sipush 255, 3) := by decide +kernel
theorem dX6_obey_99 : decode cX6_obey 99 = .ok (.aconst_null, 1) := by decide +kernel
theorem dX6_obey_100 : decode cX6_obey 100 = .ok (.invokevirtual 187, 3) := by decide +kernel
theorem dX6_obey_103 : decode cX6_obey 103 = .ok (.ifCond .lt 7, 3) := by decide +kernel
theorem dX6_obey_106 : decode cX6_obey 106 = .ok (.iconst 1, 1) := by decide +kernel
theorem dX6_obey_107 : decode cX6_obey 107 = .ok (.goto 4, 3) := by decide +kernel
theorem dX6_obey_110 : decode cX6_obey 110 = .ok (.iconst 0, 1) := by decide +kernel
theorem dX6_obey_111 : decode cX6_obey 111 = .ok (.ireturn, 1) := by decide +kernel
theorem dX6_obey_112 : decode cX6_obey 112 = .ok (.iload_n 2, 1) := by decide +kernel
theorem dX6_obey_113 : decode cX6_obey 113 = .ok (.invokestatic 190, 3) := by decide +kernel
theorem dX6_obey_116 : decode cX6_obey 116 = .ok (.ifCond .ne 5, 3) := by decide +kernel
theorem dX6_obey_119 : decode cX6_obey 119 = .ok (.iconst 0, 1) := by decide +kernel
theorem dX6_obey_120 : decode cX6_obey 120 = .ok (.ireturn, 1) := by decide +kernel
theorem dX6_obey_121 : decode cX6_obey 121 = .ok (.aload_n 0, 1) := by decide +kernel
theorem dX6_obey_122 : decode cX6_obey 122 = .ok (.iload_n 2, 1) := by decide +kernel
theorem dX6_obey_123 : decode cX6_obey 123 = .ok (.invokevirtual 194, 3) := by decide +kernel
theorem dX6_obey_126 : decode cX6_obey 126 = .ok (.iconst 1, 1) := by decide +kernel
theorem dX6_obey_127 : decode cX6_obey 127 = .ok (.ireturn, 1) := by decide +kernel
theorem dX6_pass_0 : decode cX6_pass 0 = .ok (.aload_n 0, 1) := by decide +kernel
theorem dX6_pass_1 : decode cX6_pass 1 = .ok (.getfield 46, 3) := by decide +kernel
theorem dX6_pass_4 : decode cX6_pass 4 = .ok (.iload_n 1, 1) := by decide +kernel
theorem dX6_pass_5 : decode cX6_pass 5 = .ok (.iadd, 1) := by decide +kernel
theorem dX6_pass_6 : decode cX6_pass 6 = .ok (.istore_n 2, 1) := by decide +kernel
theorem dX6_pass_7 : decode cX6_pass 7 = .ok (.iconst 0, 1) := by decide +kernel
theorem dX6_pass_8 : decode cX6_pass 8 = .ok (.istore_n 3, 1) := by decide +kernel
theorem dX6_pass_9 : decode cX6_pass 9 = .ok (.iload_n 3, 1) := by decide +kernel
theorem dX6_pass_10 : decode cX6_pass 10 = .ok (.iload_n 1, 1) := by decide +kernel
theorem dX6_pass_11 : decode cX6_pass 11 = .ok (.if_icmp .ge 95, 3) := by decide +kernel
theorem dX6_pass_14 : decode cX6_pass 14 = .ok (.aload_n 0, 1) := by decide +kernel
theorem dX6_pass_15 : decode cX6_pass 15 = .ok (.aload_n 0, 1) := by decide +kernel
theorem dX6_pass_16 : decode cX6_pass 16 = .ok (.iload_n 2, 1) := by decide +kernel
theorem dX6_pass_17 : decode cX6_pass 17 = .ok (.invokevirtual 198, 3) := by decide +kernel
theorem dX6_pass_20 : decode cX6_pass 20 = .ok (.putfield 46, 3) := by decide +kernel
theorem dX6_pass_23 : decode cX6_pass 23 = .ok (.aload_n 0, 1) := by decide +kernel
theorem dX6_pass_24 : decode cX6_pass 24 = .ok (.getfield 46, 3) := by decide +kernel
theorem dX6_pass_27 : decode cX6_pass 27 = .ok (.iload_n 2, 1) := by decide +kernel
theorem dX6_pass_28 : decode cX6_pass 28 = .ok (.if_icmp .lt 4, 3) := by decide +kernel
theorem dX6_pass_31 : decode cX6_pass 31 = .ok (.return_, 1) := by decide +kernel
theorem dX6_pass_32 : decode cX6_pass 32 = .ok (.aload_n 0, 1) := by decide +kernel
theorem dX6_pass_33 : decode cX6_pass 33 = .ok (.getfield 56, 3) := by decide +kernel
theorem dX6_pass_36 : decode cX6_pass 36 = .ok (.istore 4, 2) := by decide +kernel
theorem dX6_pass_38 : decode cX6_pass 38 = .ok (.iconst 0, 1) := by decide +kernel
theorem dX6_pass_39 : decode cX6_pass 39 = .ok (.istore 5, 2) := by decide +kernel
theorem dX6_pass_41 : decode cX6_pass 41 = .ok (.iload 5, 2) := by decide +kernel
theorem dX6_pass_43 : decode cX6_pass 43 = .ok (.iload 4, 2) := by decide +kernel
theorem dX6_pass_45 : decode cX6_pass 45 = .ok (.if_icmp .ge 37, 3) := by decide +kernel
theorem dX6_pass_48 : decode cX6_pass 48 = .ok (.aload_n 0, 1) := by decide +kernel
theorem dX6_pass_49 : decode cX6_pass 49 = .ok (.getfield 31, 3) := by decide +kernel
theorem dX6_pass_52 : decode cX6_pass 52 = .ok (.iload 5, 2) := by decide +kernel
theorem dX6_pass_54 : decode cX6_pass 54 = .ok (.aaload, 1) := by decide +kernel
theorem dX6_pass_55 : decode cX6_pass 55 = .ok (.getfield 202, 3) := by decide +kernel
theorem dX6_pass_58 : decode cX6_pass 58 = .ok (.aload_n 0, 1) := by decide +kernel
theorem dX6_pass_59 : decode cX6_pass 59 = .ok (.getfield 46, 3) := by decide +kernel
theorem dX6_pass_62 : decode cX6_pass 62 = .ok (.if_icmp .ne 14, 3) := by decide +kernel
theorem dX6_pass_65 : decode cX6_pass 65 = .ok (.aload_n 0, 1) := by decide +kernel
theorem dX6_pass_66 : decode cX6_pass 66 = .ok (.aload_n 0, 1) := by decide +kernel
theorem dX6_pass_67 : decode cX6_pass 67 = .ok (.getfield 31, 3) := by decide +kernel
theorem dX6_pass_70 : decode cX6_pass 70 = .ok (.iload 5, 2) := by decide +kernel
theorem dX6_pass_72 : decode cX6_pass 72 = .ok (.aaload, 1) := by decide +kernel
theorem dX6_pass_73 : decode cX6_pass 73 = .ok (.invokevirtual 203, 3) := by decide +kernel
theorem dX6_pass_76 : decode cX6_pass 76 = .ok (.iinc 5 1, 3) := by decide +kernel
theorem dX6_pass_79 : decode cX6_pass 79 = .ok (.goto (-38), 3) := by decide +kernel
theorem dX6_pass_82 : decode cX6_pass 82 = .ok (.aload_n 0, 1) := by decide +kernel
theorem dX6_pass_83 : decode cX6_pass 83 = .ok (.invokevirtual 206, 3) := by decide +kernel
theorem dX6_pass_86 : decode cX6_pass 86 = .ok (.aload_n 0, 1) := by decide +kernel
theorem dX6_pass_87 : decode cX6_pass 87 = .ok (.invokevirtual 209, 3) := by decide +kernel
theorem dX6_pass_90 : decode cX6_pass 90 = .ok (.aload_n 0, 1) := by decide +kernel
theorem dX6_pass_91 : decode cX6_pass 91 = .ok (.dup, 1) := by decide +kernel
theorem dX6_pass_92 : decode cX6_pass 92 = .ok (.getfield 46, 3) := by decide +kernel
theorem dX6_pass_95 : decode cX6_pass 95 = .ok (.iconst 1, 1) := by decide +kernel
theorem dX6_pass_96 : decode cX6_pass 96 = .ok (.iadd, 1) := by decide +kernel
theorem dX6_pass_97 : decode cX6_pass 97 = .ok (.putfield 46, 3) := by decide +kernel
theorem dX6_pass_100 : decode cX6_pass 100 = .ok (.iinc 3 1, 3) := by decide +kernel
theorem dX6_pass_103 : decode cX6_pass 103 = .ok (.goto (-94), 3) := by decide +kernel
theorem dX6_pass_106 : decode cX6_pass 106 = .ok (.return_, 1) := by decide +kernel
theorem dX6_nextEvent_0 : decode cX6_nextEvent 0 = .ok (.iload_n 1, 1) := by decide +kernel
theorem dX6_nextEvent_1 : decode cX6_nextEvent 1 = .ok (.istore_n 2, 1) := by decide +kernel
theorem dX6_nextEvent_2 : decode cX6_nextEvent 2 = .ok (.iconst 0, 1) := by decide +kernel
theorem dX6_nextEvent_3 : decode cX6_nextEvent 3 = .ok (.istore_n 3, 1) := by decide +kernel
theorem dX6_nextEvent_4 : decode cX6_nextEvent 4 = .ok (.iload_n 3, 1) := by decide +kernel
theorem dX6_nextEvent_5 : decode cX6_nextEvent 5 = .ok (.aload_n 0, 1) := by decide +kernel
theorem dX6_nextEvent_6 : decode cX6_nextEvent 6 = .ok (.getfield 56, 3) := by decide +kernel
theorem dX6_nextEvent_9 : decode cX6_nextEvent 9 = .ok (.if_icmp .ge 23, 3) := by decide +kernel
theorem dX6_nextEvent_12 : decode cX6_nextEvent 12 = .ok (.iload_n 2, 1) := by decide +kernel
theorem dX6_nextEvent_13 : decode cX6_nextEvent 13 = .ok (.aload_n 0, 1) := by decide +kernel
theorem dX6_nextEvent_14 : decode cX6_nextEvent 14 = .ok (.getfield 31, 3) := by decide +kernel
theorem dX6_nextEvent_17 : decode cX6_nextEvent 17 = .ok (.iload_n 3, 1) := by decide +kernel
theorem dX6_nextEvent_18 : decode cX6_nextEvent 18 = .ok (.aaload, 1) := by decide +kernel
theorem dX6_nextEvent_19 : decode cX6_nextEvent 19 = .ok (.getfield 202, 3) := by decide +kernel
theorem dX6_nextEvent_22 : decode cX6_nextEvent 22 = .ok (.invokestatic 212, 3) := by decide +kernel
theorem dX6_nextEvent_25 : decode cX6_nextEvent 25 = .ok (.istore_n 2, 1) := by decide +kernel
theorem dX6_nextEvent_26 : decode cX6_nextEvent 26 = .ok (.iinc 3 1, 3) := by decide +kernel
theorem dX6_nextEvent_29 : decode cX6_nextEvent 29 = .ok (.goto (-25), 3) := by decide +kernel
theorem dX6_nextEvent_32 : decode cX6_nextEvent 32 = .ok (.aload_n 0, 1) := by decide +kernel
theorem dX6_nextEvent_33 : decode cX6_nextEvent 33 = .ok (.getfield 25, 3) := by decide +kernel
theorem dX6_nextEvent_36 : decode cX6_nextEvent 36 = .ok (.astore_n 3, 1) := by decide +kernel
theorem dX6_nextEvent_37 : decode cX6_nextEvent 37 = .ok (.aload_n 3, 1) := by decide +kernel
theorem dX6_nextEvent_38 : decode cX6_nextEvent 38 = .ok (.arraylength, 1) := by decide +kernel
theorem dX6_nextEvent_39 : decode cX6_nextEvent 39 = .ok (.istore 4, 2) := by decide +kernel
theorem dX6_nextEvent_41 : decode cX6_nextEvent 41 = .ok (.iconst 0, 1) := by decide +kernel
theorem dX6_nextEvent_42 : decode cX6_nextEvent 42 = .ok (.istore 5, 2) := by decide +kernel
theorem dX6_nextEvent_44 : decode cX6_nextEvent 44 = .ok (.iload 5, 2) := by decide +kernel
theorem dX6_nextEvent_46 : decode cX6_nextEvent 46 = .ok (.iload 4, 2) := by decide +kernel
theorem dX6_nextEvent_48 : decode cX6_nextEvent 48 = .ok (.if_icmp .ge 34, 3) := by decide +kernel
theorem dX6_nextEvent_51 : decode cX6_nextEvent 51 = .ok (.aload_n 3, 1) := by decide +kernel
theorem dX6_nextEvent_52 : decode cX6_nextEvent 52 = .ok (.iload 5, 2) := by decide +kernel
theorem dX6_nextEvent_54 : decode cX6_nextEvent 54 = .ok (.aaload, 1) := by decide +kernel
theorem dX6_nextEvent_55 : decode cX6_nextEvent 55 = .ok (.astore 6, 2) := by decide +kernel
theorem dX6_nextEvent_57 : decode cX6_nextEvent 57 = .ok (.aload 6, 2) := by decide +kernel
theorem dX6_nextEvent_59 : decode cX6_nextEvent 59 = .ok (.getfield 218, 3) := by decide +kernel
theorem dX6_nextEvent_62 : decode cX6_nextEvent 62 = .ok (.ifCond .le 14, 3) := by decide +kernel
theorem dX6_nextEvent_65 : decode cX6_nextEvent 65 = .ok (.iload_n 2, 1) := by decide +kernel
theorem dX6_nextEvent_66 : decode cX6_nextEvent 66 = .ok (.aload_n 0, 1) := by decide +kernel
theorem dX6_nextEvent_67 : decode cX6_nextEvent 67 = .ok (.aload 6, 2) := by decide +kernel
theorem dX6_nextEvent_69 : decode cX6_nextEvent 69 = .ok (.invokevirtual 221, 3) := by decide +kernel
theorem dX6_nextEvent_72 : decode cX6_nextEvent 72 = .ok (.invokestatic 212, 3) := by decide +kernel
theorem dX6_nextEvent_75 : decode cX6_nextEvent 75 = .ok (.istore_n 2, 1) := by decide +kernel
theorem dX6_nextEvent_76 : decode cX6_nextEvent 76 = .ok (.iinc 5 1, 3) := by decide +kernel
theorem dX6_nextEvent_79 : decode cX6_nextEvent 79 = .ok (.goto (-35), 3) := by decide +kernel
theorem dX6_nextEvent_82 : decode cX6_nextEvent 82 = .ok (.aload_n 0, 1) := by decide +kernel
theorem dX6_nextEvent_83 : decode cX6_nextEvent 83 = .ok (.getfield 46, 3) := by decide +kernel
theorem dX6_nextEvent_86 : decode cX6_nextEvent 86 = .ok (.iload_n 2, 1) := by decide +kernel
theorem dX6_nextEvent_87 : decode cX6_nextEvent 87 = .ok (.invokestatic 225, 3) := by decide +kernel
theorem dX6_nextEvent_90 : decode cX6_nextEvent 90 = .ok (.ireturn, 1) := by decide +kernel
theorem dX6_overdueAt_0 : decode cX6_overdueAt 0 = .ok (.aload_n 0, 1) := by decide +kernel
theorem dX6_overdueAt_1 : decode cX6_overdueAt 1 = .ok (.aload_n 1, 1) := by decide +kernel
theorem dX6_overdueAt_2 : decode cX6_overdueAt 2 = .ok (.getfield 131, 3) := by decide +kernel
theorem dX6_overdueAt_5 : decode cX6_overdueAt 5 = .ok (.invokevirtual 228, 3) := by decide +kernel
theorem dX6_overdueAt_8 : decode cX6_overdueAt 8 = .ok (.astore_n 2, 1) := by decide +kernel
theorem dX6_overdueAt_9 : decode cX6_overdueAt 9 = .ok (.aload_n 1, 1) := by decide +kernel
theorem dX6_overdueAt_10 : decode cX6_overdueAt 10 = .ok (.getfield 232, 3) := by decide +kernel
theorem dX6_overdueAt_13 : decode cX6_overdueAt 13 = .ok (.aload_n 2, 1) := by decide +kernel
theorem dX6_overdueAt_14 : decode cX6_overdueAt 14 = .ok (.ifnonnull 7, 3) := by decide +kernel
theorem dX6_overdueAt_17 : decode cX6_overdueAt 17 = .ok (.iconst 0, 1) := by decide +kernel
theorem dX6_overdueAt_18 : decode cX6_overdueAt 18 = .ok (.goto 7, 3) := by decide +kernel
theorem dX6_overdueAt_21 : decode cX6_overdueAt 21 = .ok (.aload_n 2, 1) := by decide +kernel
theorem dX6_overdueAt_22 : decode cX6_overdueAt 22 = .ok (.getfield 235, 3) := by decide +kernel
theorem dX6_overdueAt_25 : decode cX6_overdueAt 25 = .ok (.iadd, 1) := by decide +kernel
theorem dX6_overdueAt_26 : decode cX6_overdueAt 26 = .ok (.ireturn, 1) := by decide +kernel
theorem dX6_treat_0 : decode cX6_treat 0 = .ok (.aload_n 0, 1) := by decide +kernel
theorem dX6_treat_1 : decode cX6_treat 1 = .ok (.aload_n 1, 1) := by decide +kernel
theorem dX6_treat_2 : decode cX6_treat 2 = .ok (.getfield 238, 3) := by decide +kernel
theorem dX6_treat_5 : decode cX6_treat 5 = .ok (.invokevirtual 114, 3) := by decide +kernel
theorem dX6_treat_8 : decode cX6_treat 8 = .ok (.astore_n 2, 1) := by decide +kernel
theorem dX6_treat_9 : decode cX6_treat 9 = .ok (.aload_n 0, 1) := by decide +kernel
theorem dX6_treat_10 : decode cX6_treat 10 = .ok (.aload_n 1, 1) := by decide +kernel
theorem dX6_treat_11 : decode cX6_treat 11 = .ok (.getfield 241, 3) := by decide +kernel
theorem dX6_treat_14 : decode cX6_treat 14 = .ok (.invokevirtual 228, 3) := by decide +kernel
theorem dX6_treat_17 : decode cX6_treat 17 = .ok (.astore_n 3, 1) := by decide +kernel
theorem dX6_treat_18 : decode cX6_treat 18 = .ok (.aload_n 2, 1) := by decide +kernel
theorem dX6_treat_19 : decode cX6_treat 19 = .ok (.ifnull 7, 3) := by decide +kernel
theorem dX6_treat_22 : decode cX6_treat 22 = .ok (.aload_n 3, 1) := by decide +kernel
theorem dX6_treat_23 : decode cX6_treat 23 = .ok (.ifnonnull 4, 3) := by decide +kernel
theorem dX6_treat_26 : decode cX6_treat 26 = .ok (.return_, 1) := by decide +kernel
theorem dX6_treat_27 : decode cX6_treat 27 = .ok (.aload_n 0, 1) := by decide +kernel
theorem dX6_treat_28 : decode cX6_treat 28 = .ok (.aload_n 3, 1) := by decide +kernel
theorem dX6_treat_29 : decode cX6_treat 29 = .ok (.aload_n 2, 1) := by decide +kernel
theorem dX6_treat_30 : decode cX6_treat 30 = .ok (.getfield 131, 3) := by decide +kernel
theorem dX6_treat_33 : decode cX6_treat 33 = .ok (.invokevirtual 244, 3) := by decide +kernel
theorem dX6_treat_36 : decode cX6_treat 36 = .ok (.invokevirtual 247, 3) := by decide +kernel
theorem dX6_treat_39 : decode cX6_treat 39 = .ok (.astore 4, 2) := by decide +kernel
theorem dX6_treat_41 : decode cX6_treat 41 = .ok (.aload_n 0, 1) := by decide +kernel
theorem dX6_treat_42 : decode cX6_treat 42 = .ok (.dup, 1) := by decide +kernel
theorem dX6_treat_43 : decode cX6_treat 43 = .ok (.getfield 59, 3) := by decide +kernel
theorem dX6_treat_46 : decode cX6_treat 46 = .ok (.iconst 1, 1) := by decide +kernel
theorem dX6_treat_47 : decode cX6_treat 47 = .ok (.isub, 1) := by decide +kernel
theorem dX6_treat_48 : decode cX6_treat 48 = .ok (.putfield 59, 3) := by decide +kernel
theorem dX6_treat_51 : decode cX6_treat 51 = .ok (.aload_n 1, 1) := by decide +kernel
theorem dX6_treat_52 : decode cX6_treat 52 = .ok (.getfield 241, 3) := by decide +kernel
theorem dX6_treat_55 : decode cX6_treat 55 = .ok (.aload_n 2, 1) := by decide +kernel
theorem dX6_treat_56 : decode cX6_treat 56 = .ok (.getfield 131, 3) := by decide +kernel
theorem dX6_treat_59 : decode cX6_treat 59 = .ok (.if_icmp .ne 13, 3) := by decide +kernel
theorem dX6_treat_62 : decode cX6_treat 62 = .ok (.aload_n 0, 1) := by decide +kernel
theorem dX6_treat_63 : decode cX6_treat 63 = .ok (.aload_n 1, 1) := by decide +kernel
theorem dX6_treat_64 : decode cX6_treat 64 = .ok (.aload_n 2, 1) := by decide +kernel
theorem dX6_treat_65 : decode cX6_treat 65 = .ok (.aload_n 3, 1) := by decide +kernel
theorem dX6_treat_66 : decode cX6_treat 66 = .ok (.invokevirtual 251, 3) := by decide +kernel
theorem dX6_treat_69 : decode cX6_treat 69 = .ok (.goto 83, 3) := by decide +kernel
theorem dX6_treat_72 : decode cX6_treat 72 = .ok (.aload_n 1, 1) := by decide +kernel
theorem dX6_treat_73 : decode cX6_treat 73 = .ok (.getfield 255, 3) := by decide +kernel
theorem dX6_treat_76 : decode cX6_treat 76 = .ok (.ifCond .gt 13, 3) := by decide +kernel
theorem dX6_treat_79 : decode cX6_treat 79 = .ok (.aload_n 0, 1) := by decide +kernel
theorem dX6_treat_80 : decode cX6_treat 80 = .ok (.aload_n 1, 1) := by decide +kernel
theorem dX6_treat_81 : decode cX6_treat 81 = .ok (.aload_n 2, 1) := by decide +kernel
theorem dX6_treat_82 : decode cX6_treat 82 = .ok (.iconst 1, 1) := by decide +kernel
theorem dX6_treat_83 : decode cX6_treat 83 = .ok (.invokevirtual 256, 3) := by decide +kernel
theorem dX6_treat_86 : decode cX6_treat 86 = .ok (.goto 66, 3) := by decide +kernel
theorem dX6_treat_89 : decode cX6_treat 89 = .ok (.aload 4, 2) := by decide +kernel
theorem dX6_treat_91 : decode cX6_treat 91 = .ok (.ifnonnull 13, 3) := by decide +kernel
theorem dX6_treat_94 : decode cX6_treat 94 = .ok (.aload_n 0, 1) := by decide +kernel
theorem dX6_treat_95 : decode cX6_treat 95 = .ok (.aload_n 1, 1) := by decide +kernel
theorem dX6_treat_96 : decode cX6_treat 96 = .ok (.aload_n 2, 1) := by decide +kernel
theorem dX6_treat_97 : decode cX6_treat 97 = .ok (.iconst 2, 1) := by decide +kernel
theorem dX6_treat_98 : decode cX6_treat 98 = .ok (.invokevirtual 256, 3) := by decide +kernel
theorem dX6_treat_101 : decode cX6_treat 101 = .ok (.goto 51, 3) := by decide +kernel
theorem dX6_treat_104 : decode cX6_treat 104 = .ok (.aload 4, 2) := by decide +kernel
theorem dX6_treat_106 : decode cX6_treat 106 = .ok (.aload_n 1, 1) := by decide +kernel
theorem dX6_treat_107 : decode cX6_treat 107 = .ok (.getfield 260, 3) := by decide +kernel
theorem dX6_treat_110 : decode cX6_treat 110 = .ok (.invokevirtual 263, 3) := by decide +kernel
theorem dX6_treat_113 : decode cX6_treat 113 = .ok (.ifCond .eq 14, 3) := by decide +kernel
theorem dX6_treat_116 : decode cX6_treat 116 = .ok (.aload_n 0, 1) := by decide +kernel
theorem dX6_treat_117 : decode cX6_treat 117 = .ok (.aload_n 1, 1) := by decide +kernel
theorem dX6_treat_118 : decode cX6_treat 118 = .ok (.aload_n 2, 1) := by decide +kernel
theorem dX6_treat_119 : decode cX6_treat 119 = .ok (.aload 4, 2) := by decide +kernel
theorem dX6_treat_121 : decode cX6_treat 121 = .ok (.invokevirtual 266, 3) := by decide +kernel
theorem dX6_treat_124 : decode cX6_treat 124 = .ok (.goto 28, 3) := by decide +kernel
theorem dX6_treat_127 : decode cX6_treat 127 = .ok (.aload_n 2, 1) := by decide +kernel
theorem dX6_treat_128 : decode cX6_treat 128 = .ok (.getfield 270, 3) := by decide +kernel
theorem dX6_treat_131 : decode cX6_treat 131 = .ok (.ifCond .eq 14, 3) := by decide +kernel
theorem dX6_treat_134 : decode cX6_treat 134 = .ok (.aload_n 0, 1) := by decide +kernel
theorem dX6_treat_135 : decode cX6_treat 135 = .ok (.aload_n 1, 1) := by decide +kernel
theorem dX6_treat_136 : decode cX6_treat 136 = .ok (.aload_n 2, 1) := by decide +kernel
theorem dX6_treat_137 : decode cX6_treat 137 = .ok (.aload 4, 2) := by decide +kernel
theorem dX6_treat_139 : decode cX6_treat 139 = .ok (.invokevirtual 274, 3) := by decide +kernel
theorem dX6_treat_142 : decode cX6_treat 142 = .ok (.goto 10, 3) := by decide +kernel
theorem dX6_treat_145 : decode cX6_treat 145 = .ok (.aload_n 0, 1) := by decide +kernel
theorem dX6_treat_146 : decode cX6_treat 146 = .ok (.aload_n 1, 1) := by decide +kernel
theorem dX6_treat_147 : decode cX6_treat 147 = .ok (.aload_n 2, 1) := by decide +kernel
theorem dX6_treat_148 : decode cX6_treat 148 = .ok (.iconst 3, 1) := by decide +kernel
theorem dX6_treat_149 : decode cX6_treat 149 = .ok (.invokevirtual 256, 3) := by decide +kernel
theorem dX6_treat_152 : decode cX6_treat 152 = .ok (.return_, 1) := by decide +kernel
theorem dX6_cutUp_0 : decode cX6_cutUp 0 = .ok (.aload_n 1, 1) := by decide +kernel
theorem dX6_cutUp_1 : decode cX6_cutUp 1 = .ok (.getfield 277, 3) := by decide +kernel
theorem dX6_cutUp_4 : decode cX6_cutUp 4 = .ok (.aload_n 1, 1) := by decide +kernel
theorem dX6_cutUp_5 : decode cX6_cutUp 5 = .ok (.getfield 260, 3) := by decide +kernel
theorem dX6_cutUp_8 : decode cX6_cutUp 8 = .ok (.iadd, 1) := by decide +kernel
theorem dX6_cutUp_9 : decode cX6_cutUp 9 = .ok (.istore 4, 2) := by decide +kernel
theorem dX6_cutUp_11 : decode cX6_cutUp 11 = .ok (.aload_n 3, 1) := by decide +kernel
theorem dX6_cutUp_12 : decode cX6_cutUp 12 = .ok (.invokevirtual 280, 3) := by decide +kernel
theorem dX6_cutUp_15 : decode cX6_cutUp 15 = .ok (.istore 5, 2) := by decide +kernel
theorem dX6_cutUp_17 : decode cX6_cutUp 17 = .ok (.aload_n 3, 1) := by decide +kernel
theorem dX6_cutUp_18 : decode cX6_cutUp 18 = .ok (.aload_n 1, 1) := by decide +kernel
theorem dX6_cutUp_19 : decode cX6_cutUp 19 = .ok (.getfield 260, 3) := by decide +kernel
theorem dX6_cutUp_22 : decode cX6_cutUp 22 = .ok (.invokevirtual 283, 3) := by decide +kernel
theorem dX6_cutUp_25 : decode cX6_cutUp 25 = .ok (.istore 6, 2) := by decide +kernel
theorem dX6_cutUp_27 : decode cX6_cutUp 27 = .ok (.aload_n 0, 1) := by decide +kernel
theorem dX6_cutUp_28 : decode cX6_cutUp 28 = .ok (.dup, 1) := by decide +kernel
theorem dX6_cutUp_29 : decode cX6_cutUp 29 = .ok (.getfield 65, 3) := by decide +kernel
theorem dX6_cutUp_32 : decode cX6_cutUp 32 = .ok (.iconst 1, 1) := by decide +kernel
theorem dX6_cutUp_33 : decode cX6_cutUp 33 = .ok (.iadd, 1) := by decide +kernel
theorem dX6_cutUp_34 : decode cX6_cutUp 34 = .ok (.putfield 65, 3) := by decide +kernel
theorem dX6_cutUp_37 : decode cX6_cutUp 37 = .ok (.aload_n 1, 1) := by decide +kernel
theorem dX6_cutUp_38 : decode cX6_cutUp 38 = .ok (.iconst 1, 1) := by decide +kernel
theorem dX6_cutUp_39 : decode cX6_cutUp 39 = .ok (.putfield 286, 3) := by decide +kernel
theorem dX6_cutUp_42 : decode cX6_cutUp 42 = .ok (.iconst 0, 1) := by decide +kernel
theorem dX6_cutUp_43 : decode cX6_cutUp 43 = .ok (.istore 7, 2) := by decide +kernel
theorem dX6_cutUp_45 : decode cX6_cutUp 45 = .ok (.iload 7, 2) := by decide +kernel
theorem dX6_cutUp_47 : decode cX6_cutUp 47 = .ok (.iload 6, 2) := by decide +kernel
theorem dX6_cutUp_49 : decode cX6_cutUp 49 = .ok (.if_icmp .gt 129, 3) := by decide +kernel
theorem dX6_cutUp_52 : decode cX6_cutUp 52 = .ok (.aload_n 0, 1) := by decide +kernel
theorem dX6_cutUp_53 : decode cX6_cutUp 53 = .ok (.getfield 56, 3) := by decide +kernel
theorem dX6_cutUp_56 : decode cX6_cutUp 56 = .ok (.aload_n 0, 1) := by decide +kernel
theorem dX6_cutUp_57 : decode cX6_cutUp 57 = .ok (.getfield 31, 3) := by decide +kernel
theorem dX6_cutUp_60 : decode cX6_cutUp 60 = .ok (.arraylength, 1) := by decide +kernel
theorem dX6_cutUp_61 : decode cX6_cutUp 61 = .ok (.if_icmp .ge 117, 3) := by decide +kernel
theorem dX6_cutUp_64 : decode cX6_cutUp 64 = .ok (.aload_n 0, 1) := by decide +kernel
theorem dX6_cutUp_65 : decode cX6_cutUp 65 = .ok (.getfield 31, 3) := by decide +kernel
theorem dX6_cutUp_68 : decode cX6_cutUp 68 = .ok (.aload_n 0, 1) := by decide +kernel
theorem dX6_cutUp_69 : decode cX6_cutUp 69 = .ok (.getfield 56, 3) := by decide +kernel
theorem dX6_cutUp_72 : decode cX6_cutUp 72 = .ok (.aaload, 1) := by decide +kernel
theorem dX6_cutUp_73 : decode cX6_cutUp 73 = .ok (.astore 8, 2) := by decide +kernel
theorem dX6_cutUp_75 : decode cX6_cutUp 75 = .ok (.aload_n 1, 1) := by decide +kernel
theorem dX6_cutUp_76 : decode cX6_cutUp 76 = .ok (.getfield 277, 3) := by decide +kernel
theorem dX6_cutUp_79 : decode cX6_cutUp 79 = .ok (.iload 7, 2) := by decide +kernel
theorem dX6_cutUp_81 : decode cX6_cutUp 81 = .ok (.iload 5, 2) := by decide +kernel
theorem dX6_cutUp_83 : decode cX6_cutUp 83 = .ok (.imul, 1) := by decide +kernel
theorem dX6_cutUp_84 : decode cX6_cutUp 84 = .ok (.iadd, 1) := by decide +kernel
theorem dX6_cutUp_85 : decode cX6_cutUp 85 = .ok (.istore 9, 2) := by decide +kernel
theorem dX6_cutUp_87 : decode cX6_cutUp 87 = .ok (.aload 8, 2) := by decide +kernel
theorem dX6_cutUp_89 : decode cX6_cutUp 89 = .ok (.aload_n 1, 1) := by decide +kernel
theorem dX6_cutUp_90 : decode cX6_cutUp 90 = .ok (.invokevirtual 87, 3) := by decide +kernel
theorem dX6_cutUp_93 : decode cX6_cutUp 93 = .ok (.aload 8, 2) := by decide +kernel
theorem dX6_cutUp_95 : decode cX6_cutUp 95 = .ok (.iload 9, 2) := by decide +kernel
theorem dX6_cutUp_97 : decode cX6_cutUp 97 = .ok (.iload 7, 2) := by decide +kernel
theorem dX6_cutUp_99 : decode cX6_cutUp 99 = .ok (.iload 6, 2) := by decide +kernel
theorem dX6_cutUp_101 : decode cX6_cutUp 101 = .ok (.if_icmp .ge 8, 3) := by decide +kernel
theorem dX6_cutUp_104 : decode cX6_cutUp 104 = .ok (.iload 5, 2) := by decide +kernel
theorem dX6_cutUp_106 : decode cX6_cutUp 106 = .ok (.goto 8, 3) := by decide +kernel
theorem dX6_cutUp_109 : decode cX6_cutUp 109 = .ok (.iload 4, 2) := by decide +kernel
theorem dX6_cutUp_111 : decode cX6_cutUp 111 = .ok (.iload 9, 2) := by decide +kernel
theorem dX6_cutUp_113 : decode cX6_cutUp 113 = .ok (.isub, 1) := by decide +kernel
theorem dX6_cutUp_114 : decode cX6_cutUp 114 = .ok (.aload_n 1, 1) := by decide +kernel
theorem dX6_cutUp_115 : decode cX6_cutUp 115 = .ok (.getfield 289, 3) := by decide +kernel
theorem dX6_cutUp_118 : decode cX6_cutUp 118 = .ok (.ifCond .eq 14, 3) := by decide +kernel
theorem dX6_cutUp_121 : decode cX6_cutUp 121 = .ok (.iload 7, 2) := by decide +kernel
theorem dX6_cutUp_123 : decode cX6_cutUp 123 = .ok (.iload 6, 2) := by decide +kernel
theorem dX6_cutUp_125 : decode cX6_cutUp 125 = .ok (.if_icmp .ne 7, 3) := by decide +kernel
theorem dX6_cutUp_128 : decode cX6_cutUp 128 = .ok (.iconst 1, 1) := by decide +kernel
theorem dX6_cutUp_129 : decode cX6_cutUp 129 = .ok (.goto 4, 3) := by decide +kernel
theorem dX6_cutUp_132 : decode cX6_cutUp 132 = .ok (.iconst 0, 1) := by decide +kernel
theorem dX6_cutUp_133 : decode cX6_cutUp 133 = .ok (.invokevirtual 127, 3) := by decide +kernel
theorem dX6_cutUp_136 : decode cX6_cutUp 136 = .ok (.aload_n 0, 1) := by decide +kernel
theorem dX6_cutUp_137 : decode cX6_cutUp 137 = .ok (.dup, 1) := by decide +kernel
theorem dX6_cutUp_138 : decode cX6_cutUp 138 = .ok (.getfield 62, 3) := by decide +kernel
theorem dX6_cutUp_141 : decode cX6_cutUp 141 = .ok (.iconst 1, 1) := by decide +kernel
theorem dX6_cutUp_142 : decode cX6_cutUp 142 = .ok (.iadd, 1) := by decide +kernel
theorem dX6_cutUp_143 : decode cX6_cutUp 143 = .ok (.putfield 62, 3) := by decide +kernel
theorem dX6_cutUp_146 : decode cX6_cutUp 146 = .ok (.aload_n 0, 1) := by decide +kernel
theorem dX6_cutUp_147 : decode cX6_cutUp 147 = .ok (.aload 8, 2) := by decide +kernel
theorem dX6_cutUp_149 : decode cX6_cutUp 149 = .ok (.aload_n 2, 1) := by decide +kernel
theorem dX6_cutUp_150 : decode cX6_cutUp 150 = .ok (.aload_n 3, 1) := by decide +kernel
theorem dX6_cutUp_151 : decode cX6_cutUp 151 = .ok (.invokevirtual 266, 3) := by decide +kernel
theorem dX6_cutUp_154 : decode cX6_cutUp 154 = .ok (.aload 8, 2) := by decide +kernel
theorem dX6_cutUp_156 : decode cX6_cutUp 156 = .ok (.getfield 286, 3) := by decide +kernel
theorem dX6_cutUp_159 : decode cX6_cutUp 159 = .ok (.ifCond .ne 13, 3) := by decide +kernel
theorem dX6_cutUp_162 : decode cX6_cutUp 162 = .ok (.aload_n 0, 1) := by decide +kernel
theorem dX6_cutUp_163 : decode cX6_cutUp 163 = .ok (.dup, 1) := by decide +kernel
theorem dX6_cutUp_164 : decode cX6_cutUp 164 = .ok (.getfield 56, 3) := by decide +kernel
theorem dX6_cutUp_167 : decode cX6_cutUp 167 = .ok (.iconst 1, 1) := by decide +kernel
theorem dX6_cutUp_168 : decode cX6_cutUp 168 = .ok (.iadd, 1) := by decide +kernel
theorem dX6_cutUp_169 : decode cX6_cutUp 169 = .ok (.putfield 56, 3) := by decide +kernel
theorem dX6_cutUp_172 : decode cX6_cutUp 172 = .ok (.iinc 7 1, 3) := by decide +kernel
theorem dX6_cutUp_175 : decode cX6_cutUp 175 = .ok (.goto (-130), 3) := by decide +kernel
theorem dX6_cutUp_178 : decode cX6_cutUp 178 = .ok (.return_, 1) := by decide +kernel
theorem dX6_goOn_0 : decode cX6_goOn 0 = .ok (.aload_n 0, 1) := by decide +kernel
theorem dX6_goOn_1 : decode cX6_goOn 1 = .ok (.invokevirtual 159, 3) := by decide +kernel
theorem dX6_goOn_4 : decode cX6_goOn 4 = .ok (.ifCond .eq 13, 3) := by decide +kernel
theorem dX6_goOn_7 : decode cX6_goOn 7 = .ok (.aload_n 0, 1) := by decide +kernel
theorem dX6_goOn_8 : decode cX6_goOn 8 = .ok (.aload_n 1, 1) := by decide +kernel
theorem dX6_goOn_9 : decode cX6_goOn 9 = .ok (.aload_n 2, 1) := by decide +kernel
theorem dX6_goOn_10 : decode cX6_goOn 10 = .ok (.iconst 5, 1) := by decide +kernel
theorem dX6_goOn_11 : decode cX6_goOn 11 = .ok (.invokevirtual 256, 3) := by decide +kernel
theorem dX6_goOn_14 : decode cX6_goOn 14 = .ok (.goto 77, 3) := by decide +kernel
theorem dX6_goOn_17 : decode cX6_goOn 17 = .ok (.aload_n 3, 1) := by decide +kernel
theorem dX6_goOn_18 : decode cX6_goOn 18 = .ok (.invokevirtual 291, 3) := by decide +kernel
theorem dX6_goOn_21 : decode cX6_goOn 21 = .ok (.ifCond .eq 13, 3) := by decide +kernel
theorem dX6_goOn_24 : decode cX6_goOn 24 = .ok (.aload_n 0, 1) := by decide +kernel
theorem dX6_goOn_25 : decode cX6_goOn 25 = .ok (.aload_n 1, 1) := by decide +kernel
theorem dX6_goOn_26 : decode cX6_goOn 26 = .ok (.aload_n 2, 1) := by decide +kernel
theorem dX6_goOn_27 : decode cX6_goOn 27 = .ok (.iconst 4, 1) := by decide +kernel
theorem dX6_goOn_28 : decode cX6_goOn 28 = .ok (.invokevirtual 256, 3) := by decide +kernel
theorem dX6_goOn_31 : decode cX6_goOn 31 = .ok (.goto 60, 3) := by decide +kernel
theorem dX6_goOn_34 : decode cX6_goOn 34 = .ok (.aload_n 3, 1) := by decide +kernel
theorem dX6_goOn_35 : decode cX6_goOn 35 = .ok (.dup, 1) := by decide +kernel
theorem dX6_goOn_36 : decode cX6_goOn 36 = .ok (.getfield 294, 3) := by decide +kernel
theorem dX6_goOn_39 : decode cX6_goOn 39 = .ok (.aload_n 1, 1) := by decide +kernel
theorem dX6_goOn_40 : decode cX6_goOn 40 = .ok (.getfield 260, 3) := by decide +kernel
theorem dX6_goOn_43 : decode cX6_goOn 43 = .ok (.bipush 8, 2) := by decide +kernel
theorem dX6_goOn_45 : decode cX6_goOn 45 = .ok (.iadd, 1) := by decide +kernel
theorem dX6_goOn_46 : decode cX6_goOn 46 = .ok (.iadd, 1) := by decide +kernel
theorem dX6_goOn_47 : decode cX6_goOn 47 = .ok (.putfield 294, 3) := by decide +kernel
theorem dX6_goOn_50 : decode cX6_goOn 50 = .ok (.aload_n 1, 1) := by decide +kernel
theorem dX6_goOn_51 : decode cX6_goOn 51 = .ok (.dup, 1) := by decide +kernel
theorem dX6_goOn_52 : decode cX6_goOn 52 = .ok (.getfield 255, 3) := by decide +kernel
theorem dX6_goOn_55 : decode cX6_goOn 55 = .ok (.iconst 1, 1) := by decide +kernel
theorem dX6_goOn_56 : decode cX6_goOn 56 = .ok (.isub, 1) := by decide +kernel
theorem dX6_goOn_57 : decode cX6_goOn 57 = .ok (.putfield 255, 3) := by decide +kernel
theorem dX6_goOn_60 : decode cX6_goOn 60 = .ok (.aload_n 1, 1) := by decide +kernel
theorem dX6_goOn_61 : decode cX6_goOn 61 = .ok (.aload_n 3, 1) := by decide +kernel
theorem dX6_goOn_62 : decode cX6_goOn 62 = .ok (.getfield 297, 3) := by decide +kernel
theorem dX6_goOn_65 : decode cX6_goOn 65 = .ok (.aload_n 0, 1) := by decide +kernel
theorem dX6_goOn_66 : decode cX6_goOn 66 = .ok (.getfield 46, 3) := by decide +kernel
theorem dX6_goOn_69 : decode cX6_goOn 69 = .ok (.aload_n 3, 1) := by decide +kernel
theorem dX6_goOn_70 : decode cX6_goOn 70 = .ok (.aload_n 1, 1) := by decide +kernel
theorem dX6_goOn_71 : decode cX6_goOn 71 = .ok (.getfield 260, 3) := by decide +kernel
theorem dX6_goOn_74 : decode cX6_goOn 74 = .ok (.invokevirtual 298, 3) := by decide +kernel
theorem dX6_goOn_77 : decode cX6_goOn 77 = .ok (.iadd, 1) := by decide +kernel
theorem dX6_goOn_78 : decode cX6_goOn 78 = .ok (.invokevirtual 134, 3) := by decide +kernel
theorem dX6_goOn_81 : decode cX6_goOn 81 = .ok (.aload_n 0, 1) := by decide +kernel
theorem dX6_goOn_82 : decode cX6_goOn 82 = .ok (.dup, 1) := by decide +kernel
theorem dX6_goOn_83 : decode cX6_goOn 83 = .ok (.getfield 59, 3) := by decide +kernel
theorem dX6_goOn_86 : decode cX6_goOn 86 = .ok (.iconst 1, 1) := by decide +kernel
theorem dX6_goOn_87 : decode cX6_goOn 87 = .ok (.iadd, 1) := by decide +kernel
theorem dX6_goOn_88 : decode cX6_goOn 88 = .ok (.putfield 59, 3) := by decide +kernel
theorem dX6_goOn_91 : decode cX6_goOn 91 = .ok (.return_, 1) := by decide +kernel
theorem dX6_drop_0 : decode cX6_drop 0 = .ok (.aload_n 1, 1) := by decide +kernel
theorem dX6_drop_1 : decode cX6_drop 1 = .ok (.iconst 1, 1) := by decide +kernel
theorem dX6_drop_2 : decode cX6_drop 2 = .ok (.putfield 286, 3) := by decide +kernel
theorem dX6_drop_5 : decode cX6_drop 5 = .ok (.aload_n 0, 1) := by decide +kernel
theorem dX6_drop_6 : decode cX6_drop 6 = .ok (.getfield 35, 3) := by decide +kernel
theorem dX6_drop_9 : decode cX6_drop 9 = .ok (.iload_n 3, 1) := by decide +kernel
theorem dX6_drop_10 : decode cX6_drop 10 = .ok (.dup2, 1) := by decide +kernel
theorem dX6_drop_11 : decode cX6_drop 11 = .ok (.iaload, 1) := by decide +kernel
theorem dX6_drop_12 : decode cX6_drop 12 = .ok (.iconst 1, 1) := by decide +kernel
theorem dX6_drop_13 : decode cX6_drop 13 = .ok (.iadd, 1) := by decide +kernel
theorem dX6_drop_14 : decode cX6_drop 14 = .ok (.iastore, 1) := by decide +kernel
theorem dX6_drop_15 : decode cX6_drop 15 = .ok (.aload_n 2, 1) := by decide +kernel
theorem dX6_drop_16 : decode cX6_drop 16 = .ok (.dup, 1) := by decide +kernel
theorem dX6_drop_17 : decode cX6_drop 17 = .ok (.getfield 301, 3) := by decide +kernel
theorem dX6_drop_20 : decode cX6_drop 20 = .ok (.iconst 1, 1) := by decide +kernel
theorem dX6_drop_21 : decode cX6_drop 21 = .ok (.iadd, 1) := by decide +kernel
theorem dX6_drop_22 : decode cX6_drop 22 = .ok (.putfield 301, 3) := by decide +kernel
theorem dX6_drop_25 : decode cX6_drop 25 = .ok (.return_, 1) := by decide +kernel
theorem dX6_join_0 : decode cX6_join 0 = .ok (.aload_n 2, 1) := by decide +kernel
theorem dX6_join_1 : decode cX6_join 1 = .ok (.getfield 118, 3) := by decide +kernel
theorem dX6_join_4 : decode cX6_join 4 = .ok (.ifCond .eq 12, 3) := by decide +kernel
theorem dX6_join_7 : decode cX6_join 7 = .ok (.aload_n 0, 1) := by decide +kernel
theorem dX6_join_8 : decode cX6_join 8 = .ok (.aload_n 1, 1) := by decide +kernel
theorem dX6_join_9 : decode cX6_join 9 = .ok (.aload_n 2, 1) := by decide +kernel
theorem dX6_join_10 : decode cX6_join 10 = .ok (.bipush 7, 2) := by decide +kernel
theorem dX6_join_12 : decode cX6_join 12 = .ok (.invokevirtual 256, 3) := by decide +kernel
theorem dX6_join_15 : decode cX6_join 15 = .ok (.return_, 1) := by decide +kernel
theorem dX6_join_16 : decode cX6_join 16 = .ok (.aload_n 2, 1) := by decide +kernel
theorem dX6_join_17 : decode cX6_join 17 = .ok (.aload_n 1, 1) := by decide +kernel
theorem dX6_join_18 : decode cX6_join 18 = .ok (.invokevirtual 304, 3) := by decide +kernel
theorem dX6_join_21 : decode cX6_join 21 = .ok (.ifCond .ne 12, 3) := by decide +kernel
theorem dX6_join_24 : decode cX6_join 24 = .ok (.aload_n 0, 1) := by decide +kernel
theorem dX6_join_25 : decode cX6_join 25 = .ok (.aload_n 1, 1) := by decide +kernel
theorem dX6_join_26 : decode cX6_join 26 = .ok (.aload_n 2, 1) := by decide +kernel
theorem dX6_join_27 : decode cX6_join 27 = .ok (.bipush 6, 2) := by decide +kernel
theorem dX6_join_29 : decode cX6_join 29 = .ok (.invokevirtual 256, 3) := by decide +kernel
theorem dX6_join_32 : decode cX6_join 32 = .ok (.return_, 1) := by decide +kernel
theorem dX6_join_33 : decode cX6_join 33 = .ok (.aload_n 1, 1) := by decide +kernel
theorem dX6_join_34 : decode cX6_join 34 = .ok (.iconst 1, 1) := by decide +kernel
theorem dX6_join_35 : decode cX6_join 35 = .ok (.putfield 286, 3) := by decide +kernel
theorem dX6_join_38 : decode cX6_join 38 = .ok (.aload_n 0, 1) := by decide +kernel
theorem dX6_join_39 : decode cX6_join 39 = .ok (.dup, 1) := by decide +kernel
theorem dX6_join_40 : decode cX6_join 40 = .ok (.getfield 68, 3) := by decide +kernel
theorem dX6_join_43 : decode cX6_join 43 = .ok (.iconst 1, 1) := by decide +kernel
theorem dX6_join_44 : decode cX6_join 44 = .ok (.iadd, 1) := by decide +kernel
theorem dX6_join_45 : decode cX6_join 45 = .ok (.putfield 68, 3) := by decide +kernel
theorem dX6_join_48 : decode cX6_join 48 = .ok (.aload_n 3, 1) := by decide +kernel
theorem dX6_join_49 : decode cX6_join 49 = .ok (.getfield 308, 3) := by decide +kernel
theorem dX6_join_52 : decode cX6_join 52 = .ok (.iconst 2, 1) := by decide +kernel
theorem dX6_join_53 : decode cX6_join 53 = .ok (.if_icmp .ne 23, 3) := by decide +kernel
theorem dX6_join_56 : decode cX6_join 56 = .ok (.aload_n 2, 1) := by decide +kernel
theorem dX6_join_57 : decode cX6_join 57 = .ok (.aload_n 1, 1) := by decide +kernel
theorem dX6_join_58 : decode cX6_join 58 = .ok (.invokevirtual 311, 3) := by decide +kernel
theorem dX6_join_61 : decode cX6_join 61 = .ok (.ifCond .eq 15, 3) := by decide +kernel
theorem dX6_join_64 : decode cX6_join 64 = .ok (.aload_n 2, 1) := by decide +kernel
theorem dX6_join_65 : decode cX6_join 65 = .ok (.iconst 5, 1) := by decide +kernel
theorem dX6_join_66 : decode cX6_join 66 = .ok (.aload_n 0, 1) := by decide +kernel
theorem dX6_join_67 : decode cX6_join 67 = .ok (.getfield 46, 3) := by decide +kernel
theorem dX6_join_70 : decode cX6_join 70 = .ok (.invokevirtual 314, 3) := by decide +kernel
theorem dX6_join_73 : decode cX6_join 73 = .ok (.goto 25, 3) := by decide +kernel
theorem dX6_join_76 : decode cX6_join 76 = .ok (.aload_n 2, 1) := by decide +kernel
theorem dX6_join_77 : decode cX6_join 77 = .ok (.aload_n 1, 1) := by decide +kernel
theorem dX6_join_78 : decode cX6_join 78 = .ok (.aload_n 3, 1) := by decide +kernel
theorem dX6_join_79 : decode cX6_join 79 = .ok (.getfield 308, 3) := by decide +kernel
theorem dX6_join_82 : decode cX6_join 82 = .ok (.iconst 1, 1) := by decide +kernel
theorem dX6_join_83 : decode cX6_join 83 = .ok (.if_icmp .ne 7, 3) := by decide +kernel
theorem dX6_join_86 : decode cX6_join 86 = .ok (.iconst 1, 1) := by decide +kernel
theorem dX6_join_87 : decode cX6_join 87 = .ok (.goto 4, 3) := by decide +kernel
theorem dX6_join_90 : decode cX6_join 90 = .ok (.iconst 0, 1) := by decide +kernel
theorem dX6_join_91 : decode cX6_join 91 = .ok (.aload_n 0, 1) := by decide +kernel
theorem dX6_join_92 : decode cX6_join 92 = .ok (.getfield 46, 3) := by decide +kernel
theorem dX6_join_95 : decode cX6_join 95 = .ok (.invokevirtual 317, 3) := by decide +kernel
theorem dX6_join_98 : decode cX6_join 98 = .ok (.aload_n 0, 1) := by decide +kernel
theorem dX6_join_99 : decode cX6_join 99 = .ok (.aload_n 2, 1) := by decide +kernel
theorem dX6_join_100 : decode cX6_join 100 = .ok (.getfield 131, 3) := by decide +kernel
theorem dX6_join_103 : decode cX6_join 103 = .ok (.aload_n 3, 1) := by decide +kernel
theorem dX6_join_104 : decode cX6_join 104 = .ok (.getfield 321, 3) := by decide +kernel
theorem dX6_join_107 : decode cX6_join 107 = .ok (.invokevirtual 324, 3) := by decide +kernel
theorem dX6_join_110 : decode cX6_join 110 = .ok (.aload_n 2, 1) := by decide +kernel
theorem dX6_join_111 : decode cX6_join 111 = .ok (.invokevirtual 327, 3) := by decide +kernel
theorem dX6_join_114 : decode cX6_join 114 = .ok (.ifCond .eq 23, 3) := by decide +kernel
theorem dX6_join_117 : decode cX6_join 117 = .ok (.aload_n 2, 1) := by decide +kernel
theorem dX6_join_118 : decode cX6_join 118 = .ok (.aload_n 2, 1) := by decide +kernel
theorem dX6_join_119 : decode cX6_join 119 = .ok (.invokevirtual 330, 3) := by decide +kernel
theorem dX6_join_122 : decode cX6_join 122 = .ok (.ifCond .eq 7, 3) := by decide +kernel
theorem dX6_join_125 : decode cX6_join 125 = .ok (.iconst 1, 1) := by decide +kernel
theorem dX6_join_126 : decode cX6_join 126 = .ok (.goto 4, 3) := by decide +kernel
theorem dX6_join_129 : decode cX6_join 129 = .ok (.iconst 2, 1) := by decide +kernel
theorem dX6_join_130 : decode cX6_join 130 = .ok (.aload_n 0, 1) := by decide +kernel
theorem dX6_join_131 : decode cX6_join 131 = .ok (.getfield 46, 3) := by decide +kernel
theorem dX6_join_134 : decode cX6_join 134 = .ok (.invokevirtual 314, 3) := by decide +kernel
theorem dX6_join_137 : decode cX6_join 137 = .ok (.return_, 1) := by decide +kernel
theorem dX6_keepToSpace_0 : decode cX6_keepToSpace 0 = .ok (.iconst 0, 1) := by decide +kernel
theorem dX6_keepToSpace_1 : decode cX6_keepToSpace 1 = .ok (.istore_n 3, 1) := by decide +kernel
theorem dX6_keepToSpace_2 : decode cX6_keepToSpace 2 = .ok (.iload_n 3, 1) := by decide +kernel
theorem dX6_keepToSpace_3 : decode cX6_keepToSpace 3 = .ok (.bipush 40, 2) := by decide +kernel
theorem dX6_keepToSpace_5 : decode cX6_keepToSpace 5 = .ok (.if_icmp .ge 41, 3) := by decide +kernel
theorem dX6_keepToSpace_8 : decode cX6_keepToSpace 8 = .ok (.aload_n 0, 1) := by decide +kernel
theorem dX6_keepToSpace_9 : decode cX6_keepToSpace 9 = .ok (.iload_n 1, 1) := by decide +kernel
theorem dX6_keepToSpace_10 : decode cX6_keepToSpace 10 = .ok (.invokevirtual 333, 3) := by decide +kernel
theorem dX6_keepToSpace_13 : decode cX6_keepToSpace 13 = .ok (.iload_n 2, 1) := by decide +kernel
theorem dX6_keepToSpace_14 : decode cX6_keepToSpace 14 = .ok (.if_icmp .le 32, 3) := by decide +kernel
theorem dX6_keepToSpace_17 : decode cX6_keepToSpace 17 = .ok (.aload_n 0, 1) := by decide +kernel
theorem dX6_keepToSpace_18 : decode cX6_keepToSpace 18 = .ok (.iload_n 1, 1) := by decide +kernel
theorem dX6_keepToSpace_19 : decode cX6_keepToSpace 19 = .ok (.invokevirtual 336, 3) := by decide +kernel
theorem dX6_keepToSpace_22 : decode cX6_keepToSpace 22 = .ok (.astore 4, 2) := by decide +kernel
theorem dX6_keepToSpace_24 : decode cX6_keepToSpace 24 = .ok (.aload 4, 2) := by decide +kernel
theorem dX6_keepToSpace_26 : decode cX6_keepToSpace 26 = .ok (.ifnonnull 4, 3) := by decide +kernel
theorem dX6_keepToSpace_29 : decode cX6_keepToSpace 29 = .ok (.return_, 1) := by decide +kernel
theorem dX6_keepToSpace_30 : decode cX6_keepToSpace 30 = .ok (.aload 4, 2) := by decide +kernel
theorem dX6_keepToSpace_32 : decode cX6_keepToSpace 32 = .ok (.iconst 4, 1) := by decide +kernel
theorem dX6_keepToSpace_33 : decode cX6_keepToSpace 33 = .ok (.aload_n 0, 1) := by decide +kernel
theorem dX6_keepToSpace_34 : decode cX6_keepToSpace 34 = .ok (.getfield 46, 3) := by decide +kernel
theorem dX6_keepToSpace_37 : decode cX6_keepToSpace 37 = .ok (.invokevirtual 314, 3) := by decide +kernel
theorem dX6_keepToSpace_40 : decode cX6_keepToSpace 40 = .ok (.iinc 3 1, 3) := by decide +kernel
theorem dX6_keepToSpace_43 : decode cX6_keepToSpace 43 = .ok (.goto (-41), 3) := by decide +kernel
theorem dX6_keepToSpace_46 : decode cX6_keepToSpace 46 = .ok (.return_, 1) := by decide +kernel
theorem dX6_eldestAtNode_0 : decode cX6_eldestAtNode 0 = .ok (.aconst_null, 1) := by decide +kernel
theorem dX6_eldestAtNode_1 : decode cX6_eldestAtNode 1 = .ok (.astore_n 2, 1) := by decide +kernel
theorem dX6_eldestAtNode_2 : decode cX6_eldestAtNode 2 = .ok (.aload_n 0, 1) := by decide +kernel
theorem dX6_eldestAtNode_3 : decode cX6_eldestAtNode 3 = .ok (.getfield 25, 3) := by decide +kernel
theorem dX6_eldestAtNode_6 : decode cX6_eldestAtNode 6 = .ok (.astore_n 3, 1) := by decide +kernel
theorem dX6_eldestAtNode_7 : decode cX6_eldestAtNode 7 = .ok (.aload_n 3, 1) := by decide +kernel
theorem dX6_eldestAtNode_8 : decode cX6_eldestAtNode 8 = .ok (.arraylength, 1) := by decide +kernel
theorem dX6_eldestAtNode_9 : decode cX6_eldestAtNode 9 = .ok (.istore 4, 2) := by decide +kernel
theorem dX6_eldestAtNode_11 : decode cX6_eldestAtNode 11 = .ok (.iconst 0, 1) := by decide +kernel
theorem dX6_eldestAtNode_12 : decode cX6_eldestAtNode 12 = .ok (.istore 5, 2) := by decide +kernel
theorem dX6_eldestAtNode_14 : decode cX6_eldestAtNode 14 = .ok (.iload 5, 2) := by decide +kernel
theorem dX6_eldestAtNode_16 : decode cX6_eldestAtNode 16 = .ok (.iload 4, 2) := by decide +kernel
theorem dX6_eldestAtNode_18 : decode cX6_eldestAtNode 18 = .ok (.if_icmp .ge 63, 3) := by decide +kernel
theorem dX6_eldestAtNode_21 : decode cX6_eldestAtNode 21 = .ok (.aload_n 3, 1) := by decide +kernel
theorem dX6_eldestAtNode_22 : decode cX6_eldestAtNode 22 = .ok (.iload 5, 2) := by decide +kernel
theorem dX6_eldestAtNode_24 : decode cX6_eldestAtNode 24 = .ok (.aaload, 1) := by decide +kernel
theorem dX6_eldestAtNode_25 : decode cX6_eldestAtNode 25 = .ok (.astore 6, 2) := by decide +kernel
theorem dX6_eldestAtNode_27 : decode cX6_eldestAtNode 27 = .ok (.aload 6, 2) := by decide +kernel
theorem dX6_eldestAtNode_29 : decode cX6_eldestAtNode 29 = .ok (.getfield 218, 3) := by decide +kernel
theorem dX6_eldestAtNode_32 : decode cX6_eldestAtNode 32 = .ok (.ifCond .le 16, 3) := by decide +kernel
theorem dX6_eldestAtNode_35 : decode cX6_eldestAtNode 35 = .ok (.aload 6, 2) := by decide +kernel
theorem dX6_eldestAtNode_37 : decode cX6_eldestAtNode 37 = .ok (.getfield 131, 3) := by decide +kernel
theorem dX6_eldestAtNode_40 : decode cX6_eldestAtNode 40 = .ok (.iload_n 1, 1) := by decide +kernel
theorem dX6_eldestAtNode_41 : decode cX6_eldestAtNode 41 = .ok (.if_icmp .ne 7, 3) := by decide +kernel
theorem dX6_eldestAtNode_44 : decode cX6_eldestAtNode 44 = .ok (.iconst 1, 1) := by decide +kernel
theorem dX6_eldestAtNode_45 : decode cX6_eldestAtNode 45 = .ok (.goto 4, 3) := by decide +kernel
theorem dX6_eldestAtNode_48 : decode cX6_eldestAtNode 48 = .ok (.iconst 0, 1) := by decide +kernel
theorem dX6_eldestAtNode_49 : decode cX6_eldestAtNode 49 = .ok (.istore 7, 2) := by decide +kernel
theorem dX6_eldestAtNode_51 : decode cX6_eldestAtNode 51 = .ok (.iload 7, 2) := by decide +kernel
theorem dX6_eldestAtNode_53 : decode cX6_eldestAtNode 53 = .ok (.ifCond .eq 22, 3) := by decide +kernel
theorem dX6_eldestAtNode_56 : decode cX6_eldestAtNode 56 = .ok (.aload_n 2, 1) := by decide +kernel
theorem dX6_eldestAtNode_57 : decode cX6_eldestAtNode 57 = .ok (.ifnull 15, 3) := by decide +kernel
theorem dX6_eldestAtNode_60 : decode cX6_eldestAtNode 60 = .ok (.aload 6, 2) := by decide +kernel
theorem dX6_eldestAtNode_62 : decode cX6_eldestAtNode 62 = .ok (.getfield 232, 3) := by decide +kernel
theorem dX6_eldestAtNode_65 : decode cX6_eldestAtNode 65 = .ok (.aload_n 2, 1) := by decide +kernel
theorem dX6_eldestAtNode_66 : decode cX6_eldestAtNode 66 = .ok (.getfield 232, 3) := by decide +kernel
theorem dX6_eldestAtNode_69 : decode cX6_eldestAtNode 69 = .ok (.if_icmp .ge 6, 3) := by decide +kernel
theorem dX6_eldestAtNode_72 : decode cX6_eldestAtNode 72 = .ok (.aload 6, 2) := by decide +kernel
theorem dX6_eldestAtNode_74 : decode cX6_eldestAtNode 74 = .ok (.astore_n 2, 1) := by decide +kernel
theorem dX6_eldestAtNode_75 : decode cX6_eldestAtNode 75 = .ok (.iinc 5 1, 3) := by decide +kernel
theorem dX6_eldestAtNode_78 : decode cX6_eldestAtNode 78 = .ok (.goto (-64), 3) := by decide +kernel
theorem dX6_eldestAtNode_81 : decode cX6_eldestAtNode 81 = .ok (.aload_n 2, 1) := by decide +kernel
theorem dX6_eldestAtNode_82 : decode cX6_eldestAtNode 82 = .ok (.areturn, 1) := by decide +kernel
theorem dX6_giveUpOverdue_0 : decode cX6_giveUpOverdue 0 = .ok (.aload_n 0, 1) := by decide +kernel
theorem dX6_giveUpOverdue_1 : decode cX6_giveUpOverdue 1 = .ok (.getfield 25, 3) := by decide +kernel
theorem dX6_giveUpOverdue_4 : decode cX6_giveUpOverdue 4 = .ok (.astore_n 1, 1) := by decide +kernel
theorem dX6_giveUpOverdue_5 : decode cX6_giveUpOverdue 5 = .ok (.aload_n 1, 1) := by decide +kernel
theorem dX6_giveUpOverdue_6 : decode cX6_giveUpOverdue 6 = .ok (.arraylength, 1) := by decide +kernel
theorem dX6_giveUpOverdue_7 : decode cX6_giveUpOverdue 7 = .ok (.istore_n 2, 1) := by decide +kernel
theorem dX6_giveUpOverdue_8 : decode cX6_giveUpOverdue 8 = .ok (.iconst 0, 1) := by decide +kernel
theorem dX6_giveUpOverdue_9 : decode cX6_giveUpOverdue 9 = .ok (.istore_n 3, 1) := by decide +kernel
theorem dX6_giveUpOverdue_10 : decode cX6_giveUpOverdue 10 = .ok (.iload_n 3, 1) := by decide +kernel
theorem dX6_giveUpOverdue_11 : decode cX6_giveUpOverdue 11 = .ok (.iload_n 2, 1) := by decide +kernel
theorem dX6_giveUpOverdue_12 : decode cX6_giveUpOverdue 12 = .ok (.if_icmp .ge 45, 3) := by decide +kernel
theorem dX6_giveUpOverdue_15 : decode cX6_giveUpOverdue 15 = .ok (.aload_n 1, 1) := by decide +kernel
theorem dX6_giveUpOverdue_16 : decode cX6_giveUpOverdue 16 = .ok (.iload_n 3, 1) := by decide +kernel
theorem dX6_giveUpOverdue_17 : decode cX6_giveUpOverdue 17 = .ok (.aaload, 1) := by decide +kernel
theorem dX6_giveUpOverdue_18 : decode cX6_giveUpOverdue 18 = .ok (.astore 4, 2) := by decide +kernel
theorem dX6_giveUpOverdue_20 : decode cX6_giveUpOverdue 20 = .ok (.aload 4, 2) := by decide +kernel
theorem dX6_giveUpOverdue_22 : decode cX6_giveUpOverdue 22 = .ok (.getfield 218, 3) := by decide +kernel
theorem dX6_giveUpOverdue_25 : decode cX6_giveUpOverdue 25 = .ok (.ifCond .le 26, 3) := by decide +kernel
theorem dX6_giveUpOverdue_28 : decode cX6_giveUpOverdue 28 = .ok (.aload_n 0, 1) := by decide +kernel
theorem dX6_giveUpOverdue_29 : decode cX6_giveUpOverdue 29 = .ok (.getfield 46, 3) := by decide +kernel
theorem dX6_giveUpOverdue_32 : decode cX6_giveUpOverdue 32 = .ok (.aload_n 0, 1) := by decide +kernel
theorem dX6_giveUpOverdue_33 : decode cX6_giveUpOverdue 33 = .ok (.aload 4, 2) := by decide +kernel
theorem dX6_giveUpOverdue_35 : decode cX6_giveUpOverdue 35 = .ok (.invokevirtual 221, 3) := by decide +kernel
theorem dX6_giveUpOverdue_38 : decode cX6_giveUpOverdue 38 = .ok (.if_icmp .lt 13, 3) := by decide +kernel
theorem dX6_giveUpOverdue_41 : decode cX6_giveUpOverdue 41 = .ok (.aload 4, 2) := by decide +kernel
theorem dX6_giveUpOverdue_43 : decode cX6_giveUpOverdue 43 = .ok (.iconst 3, 1) := by decide +kernel
theorem dX6_giveUpOverdue_44 : decode cX6_giveUpOverdue 44 = .ok (.aload_n 0, 1) := by decide +kernel
theorem dX6_giveUpOverdue_45 : decode cX6_giveUpOverdue 45 = .ok (.getfield 46, 3) := by decide +kernel
theorem dX6_giveUpOverdue_48 : decode cX6_giveUpOverdue 48 = .ok (.invokevirtual 314, 3) := by decide +kernel
theorem dX6_giveUpOverdue_51 : decode cX6_giveUpOverdue 51 = .ok (.iinc 3 1, 3) := by decide +kernel
theorem dX6_giveUpOverdue_54 : decode cX6_giveUpOverdue 54 = .ok (.goto (-44), 3) := by decide +kernel
theorem dX6_giveUpOverdue_57 : decode cX6_giveUpOverdue 57 = .ok (.return_, 1) := by decide +kernel
theorem dX6_closeRanks_0 : decode cX6_closeRanks 0 = .ok (.iconst 0, 1) := by decide +kernel
theorem dX6_closeRanks_1 : decode cX6_closeRanks 1 = .ok (.istore_n 1, 1) := by decide +kernel
theorem dX6_closeRanks_2 : decode cX6_closeRanks 2 = .ok (.iconst 0, 1) := by decide +kernel
theorem dX6_closeRanks_3 : decode cX6_closeRanks 3 = .ok (.istore_n 2, 1) := by decide +kernel
theorem dX6_closeRanks_4 : decode cX6_closeRanks 4 = .ok (.iload_n 2, 1) := by decide +kernel
theorem dX6_closeRanks_5 : decode cX6_closeRanks 5 = .ok (.aload_n 0, 1) := by decide +kernel
theorem dX6_closeRanks_6 : decode cX6_closeRanks 6 = .ok (.getfield 56, 3) := by decide +kernel
theorem dX6_closeRanks_9 : decode cX6_closeRanks 9 = .ok (.if_icmp .ge 48, 3) := by decide +kernel
theorem dX6_closeRanks_12 : decode cX6_closeRanks 12 = .ok (.aload_n 0, 1) := by decide +kernel
theorem dX6_closeRanks_13 : decode cX6_closeRanks 13 = .ok (.getfield 31, 3) := by decide +kernel
theorem dX6_closeRanks_16 : decode cX6_closeRanks 16 = .ok (.iload_n 2, 1) := by decide +kernel
theorem dX6_closeRanks_17 : decode cX6_closeRanks 17 = .ok (.aaload, 1) := by decide +kernel
theorem dX6_closeRanks_18 : decode cX6_closeRanks 18 = .ok (.astore_n 3, 1) := by decide +kernel
theorem dX6_closeRanks_19 : decode cX6_closeRanks 19 = .ok (.aload_n 3, 1) := by decide +kernel
theorem dX6_closeRanks_20 : decode cX6_closeRanks 20 = .ok (.getfield 286, 3) := by decide +kernel
theorem dX6_closeRanks_23 : decode cX6_closeRanks 23 = .ok (.ifCond .eq 6, 3) := by decide +kernel
theorem dX6_closeRanks_26 : decode cX6_closeRanks 26 = .ok (.goto 25, 3) := by decide +kernel
theorem dX6_closeRanks_29 : decode cX6_closeRanks 29 = .ok (.aload_n 0, 1) := by decide +kernel
theorem dX6_closeRanks_30 : decode cX6_closeRanks 30 = .ok (.getfield 31, 3) := by decide +kernel
theorem dX6_closeRanks_33 : decode cX6_closeRanks 33 = .ok (.iload_n 2, 1) := by decide +kernel
theorem dX6_closeRanks_34 : decode cX6_closeRanks 34 = .ok (.aload_n 0, 1) := by decide +kernel
theorem dX6_closeRanks_35 : decode cX6_closeRanks 35 = .ok (.getfield 31, 3) := by decide +kernel
theorem dX6_closeRanks_38 : decode cX6_closeRanks 38 = .ok (.iload_n 1, 1) := by decide +kernel
theorem dX6_closeRanks_39 : decode cX6_closeRanks 39 = .ok (.aaload, 1) := by decide +kernel
theorem dX6_closeRanks_40 : decode cX6_closeRanks 40 = .ok (.aastore, 1) := by decide +kernel
theorem dX6_closeRanks_41 : decode cX6_closeRanks 41 = .ok (.aload_n 0, 1) := by decide +kernel
theorem dX6_closeRanks_42 : decode cX6_closeRanks 42 = .ok (.getfield 31, 3) := by decide +kernel
theorem dX6_closeRanks_45 : decode cX6_closeRanks 45 = .ok (.iload_n 1, 1) := by decide +kernel
theorem dX6_closeRanks_46 : decode cX6_closeRanks 46 = .ok (.aload_n 3, 1) := by decide +kernel
theorem dX6_closeRanks_47 : decode cX6_closeRanks 47 = .ok (.aastore, 1) := by decide +kernel
theorem dX6_closeRanks_48 : decode cX6_closeRanks 48 = .ok (.iinc 1 1, 3) := by decide +kernel
theorem dX6_closeRanks_51 : decode cX6_closeRanks 51 = .ok (.iinc 2 1, 3) := by decide +kernel
theorem dX6_closeRanks_54 : decode cX6_closeRanks 54 = .ok (.goto (-50), 3) := by decide +kernel
theorem dX6_closeRanks_57 : decode cX6_closeRanks 57 = .ok (.aload_n 0, 1) := by decide +kernel
theorem dX6_closeRanks_58 : decode cX6_closeRanks 58 = .ok (.iload_n 1, 1) := by decide +kernel
theorem dX6_closeRanks_59 : decode cX6_closeRanks 59 = .ok (.putfield 56, 3) := by decide +kernel
theorem dX6_closeRanks_62 : decode cX6_closeRanks 62 = .ok (.return_, 1) := by decide +kernel
theorem dX6_bytesAtNode_0 : decode cX6_bytesAtNode 0 = .ok (.iconst 0, 1) := by decide +kernel
theorem dX6_bytesAtNode_1 : decode cX6_bytesAtNode 1 = .ok (.istore_n 2, 1) := by decide +kernel
theorem dX6_bytesAtNode_2 : decode cX6_bytesAtNode 2 = .ok (.aload_n 0, 1) := by decide +kernel
theorem dX6_bytesAtNode_3 : decode cX6_bytesAtNode 3 = .ok (.getfield 25, 3) := by decide +kernel
theorem dX6_bytesAtNode_6 : decode cX6_bytesAtNode 6 = .ok (.astore_n 3, 1) := by decide +kernel
theorem dX6_bytesAtNode_7 : decode cX6_bytesAtNode 7 = .ok (.aload_n 3, 1) := by decide +kernel
theorem dX6_bytesAtNode_8 : decode cX6_bytesAtNode 8 = .ok (.arraylength, 1) := by decide +kernel
theorem dX6_bytesAtNode_9 : decode cX6_bytesAtNode 9 = .ok (.istore 4, 2) := by decide +kernel
theorem dX6_bytesAtNode_11 : decode cX6_bytesAtNode 11 = .ok (.iconst 0, 1) := by decide +kernel
theorem dX6_bytesAtNode_12 : decode cX6_bytesAtNode 12 = .ok (.istore 5, 2) := by decide +kernel
theorem dX6_bytesAtNode_14 : decode cX6_bytesAtNode 14 = .ok (.iload 5, 2) := by decide +kernel
theorem dX6_bytesAtNode_16 : decode cX6_bytesAtNode 16 = .ok (.iload 4, 2) := by decide +kernel
theorem dX6_bytesAtNode_18 : decode cX6_bytesAtNode 18 = .ok (.if_icmp .ge 32, 3) := by decide +kernel
theorem dX6_bytesAtNode_21 : decode cX6_bytesAtNode 21 = .ok (.aload_n 3, 1) := by decide +kernel
theorem dX6_bytesAtNode_22 : decode cX6_bytesAtNode 22 = .ok (.iload 5, 2) := by decide +kernel
theorem dX6_bytesAtNode_24 : decode cX6_bytesAtNode 24 = .ok (.aaload, 1) := by decide +kernel
theorem dX6_bytesAtNode_25 : decode cX6_bytesAtNode 25 = .ok (.astore 6, 2) := by decide +kernel
theorem dX6_bytesAtNode_27 : decode cX6_bytesAtNode 27 = .ok (.aload 6, 2) := by decide +kernel
theorem dX6_bytesAtNode_29 : decode cX6_bytesAtNode 29 = .ok (.getfield 131, 3) := by decide +kernel
theorem dX6_bytesAtNode_32 : decode cX6_bytesAtNode 32 = .ok (.iload_n 1, 1) := by decide +kernel
theorem dX6_bytesAtNode_33 : decode cX6_bytesAtNode 33 = .ok (.if_icmp .ne 11, 3) := by decide +kernel
theorem dX6_bytesAtNode_36 : decode cX6_bytesAtNode 36 = .ok (.iload_n 2, 1) := by decide +kernel
theorem dX6_bytesAtNode_37 : decode cX6_bytesAtNode 37 = .ok (.aload 6, 2) := by decide +kernel
theorem dX6_bytesAtNode_39 : decode cX6_bytesAtNode 39 = .ok (.getfield 218, 3) := by decide +kernel
theorem dX6_bytesAtNode_42 : decode cX6_bytesAtNode 42 = .ok (.iadd, 1) := by decide +kernel
theorem dX6_bytesAtNode_43 : decode cX6_bytesAtNode 43 = .ok (.istore_n 2, 1) := by decide +kernel
theorem dX6_bytesAtNode_44 : decode cX6_bytesAtNode 44 = .ok (.iinc 5 1, 3) := by decide +kernel
theorem dX6_bytesAtNode_47 : decode cX6_bytesAtNode 47 = .ok (.goto (-33), 3) := by decide +kernel
theorem dX6_bytesAtNode_50 : decode cX6_bytesAtNode 50 = .ok (.iload_n 2, 1) := by decide +kernel
theorem dX6_bytesAtNode_51 : decode cX6_bytesAtNode 51 = .ok (.ireturn, 1) := by decide +kernel
theorem dX6_parcelsAtNode_0 : decode cX6_parcelsAtNode 0 = .ok (.iconst 0, 1) := by decide +kernel
theorem dX6_parcelsAtNode_1 : decode cX6_parcelsAtNode 1 = .ok (.istore_n 2, 1) := by decide +kernel
theorem dX6_parcelsAtNode_2 : decode cX6_parcelsAtNode 2 = .ok (.aload_n 0, 1) := by decide +kernel
theorem dX6_parcelsAtNode_3 : decode cX6_parcelsAtNode 3 = .ok (.getfield 25, 3) := by decide +kernel
theorem dX6_parcelsAtNode_6 : decode cX6_parcelsAtNode 6 = .ok (.astore_n 3, 1) := by decide +kernel
theorem dX6_parcelsAtNode_7 : decode cX6_parcelsAtNode 7 = .ok (.aload_n 3, 1) := by decide +kernel
theorem dX6_parcelsAtNode_8 : decode cX6_parcelsAtNode 8 = .ok (.arraylength, 1) := by decide +kernel
theorem dX6_parcelsAtNode_9 : decode cX6_parcelsAtNode 9 = .ok (.istore 4, 2) := by decide +kernel
theorem dX6_parcelsAtNode_11 : decode cX6_parcelsAtNode 11 = .ok (.iconst 0, 1) := by decide +kernel
theorem dX6_parcelsAtNode_12 : decode cX6_parcelsAtNode 12 = .ok (.istore 5, 2) := by decide +kernel
theorem dX6_parcelsAtNode_14 : decode cX6_parcelsAtNode 14 = .ok (.iload 5, 2) := by decide +kernel
theorem dX6_parcelsAtNode_16 : decode cX6_parcelsAtNode 16 = .ok (.iload 4, 2) := by decide +kernel
theorem dX6_parcelsAtNode_18 : decode cX6_parcelsAtNode 18 = .ok (.if_icmp .ge 35, 3) := by decide +kernel
theorem dX6_parcelsAtNode_21 : decode cX6_parcelsAtNode 21 = .ok (.aload_n 3, 1) := by decide +kernel
theorem dX6_parcelsAtNode_22 : decode cX6_parcelsAtNode 22 = .ok (.iload 5, 2) := by decide +kernel
theorem dX6_parcelsAtNode_24 : decode cX6_parcelsAtNode 24 = .ok (.aaload, 1) := by decide +kernel
theorem dX6_parcelsAtNode_25 : decode cX6_parcelsAtNode 25 = .ok (.astore 6, 2) := by decide +kernel
theorem dX6_parcelsAtNode_27 : decode cX6_parcelsAtNode 27 = .ok (.aload 6, 2) := by decide +kernel
theorem dX6_parcelsAtNode_29 : decode cX6_parcelsAtNode 29 = .ok (.getfield 131, 3) := by decide +kernel
theorem dX6_parcelsAtNode_32 : decode cX6_parcelsAtNode 32 = .ok (.iload_n 1, 1) := by decide +kernel
theorem dX6_parcelsAtNode_33 : decode cX6_parcelsAtNode 33 = .ok (.if_icmp .ne 14, 3) := by decide +kernel
theorem dX6_parcelsAtNode_36 : decode cX6_parcelsAtNode 36 = .ok (.aload 6, 2) := by decide +kernel
theorem dX6_parcelsAtNode_38 : decode cX6_parcelsAtNode 38 = .ok (.getfield 218, 3) := by decide +kernel
theorem dX6_parcelsAtNode_41 : decode cX6_parcelsAtNode 41 = .ok (.ifCond .le 6, 3) := by decide +kernel
theorem dX6_parcelsAtNode_44 : decode cX6_parcelsAtNode 44 = .ok (.iinc 2 1, 3) := by decide +kernel
theorem dX6_parcelsAtNode_47 : decode cX6_parcelsAtNode 47 = .ok (.iinc 5 1, 3) := by decide +kernel
theorem dX6_parcelsAtNode_50 : decode cX6_parcelsAtNode 50 = .ok (.goto (-36), 3) := by decide +kernel
theorem dX6_parcelsAtNode_53 : decode cX6_parcelsAtNode 53 = .ok (.iload_n 2, 1) := by decide +kernel
theorem dX6_parcelsAtNode_54 : decode cX6_parcelsAtNode 54 = .ok (.ireturn, 1) := by decide +kernel
theorem dX6_slicesUnderWay_0 : decode cX6_slicesUnderWay 0 = .ok (.iconst 0, 1) := by decide +kernel
theorem dX6_slicesUnderWay_1 : decode cX6_slicesUnderWay 1 = .ok (.istore_n 2, 1) := by decide +kernel
theorem dX6_slicesUnderWay_2 : decode cX6_slicesUnderWay 2 = .ok (.iconst 0, 1) := by decide +kernel
theorem dX6_slicesUnderWay_3 : decode cX6_slicesUnderWay 3 = .ok (.istore_n 3, 1) := by decide +kernel
theorem dX6_slicesUnderWay_4 : decode cX6_slicesUnderWay 4 = .ok (.iload_n 3, 1) := by decide +kernel
theorem dX6_slicesUnderWay_5 : decode cX6_slicesUnderWay 5 = .ok (.aload_n 0, 1) := by decide +kernel
theorem dX6_slicesUnderWay_6 : decode cX6_slicesUnderWay 6 = .ok (.getfield 56, 3) := by decide +kernel
theorem dX6_slicesUnderWay_9 : decode cX6_slicesUnderWay 9 = .ok (.if_icmp .ge 25, 3) := by decide +kernel
theorem dX6_slicesUnderWay_12 : decode cX6_slicesUnderWay 12 = .ok (.aload_n 0, 1) := by decide +kernel
theorem dX6_slicesUnderWay_13 : decode cX6_slicesUnderWay 13 = .ok (.getfield 31, 3) := by decide +kernel
theorem dX6_slicesUnderWay_16 : decode cX6_slicesUnderWay 16 = .ok (.iload_n 3, 1) := by decide +kernel
theorem dX6_slicesUnderWay_17 : decode cX6_slicesUnderWay 17 = .ok (.aaload, 1) := by decide +kernel
theorem dX6_slicesUnderWay_18 : decode cX6_slicesUnderWay 18 = .ok (.getfield 238, 3) := by decide +kernel
theorem dX6_slicesUnderWay_21 : decode cX6_slicesUnderWay 21 = .ok (.iload_n 1, 1) := by decide +kernel
theorem dX6_slicesUnderWay_22 : decode cX6_slicesUnderWay 22 = .ok (.if_icmp .ne 6, 3) := by decide +kernel
theorem dX6_slicesUnderWay_25 : decode cX6_slicesUnderWay 25 = .ok (.iinc 2 1, 3) := by decide +kernel
theorem dX6_slicesUnderWay_28 : decode cX6_slicesUnderWay 28 = .ok (.iinc 3 1, 3) := by decide +kernel
theorem dX6_slicesUnderWay_31 : decode cX6_slicesUnderWay 31 = .ok (.goto (-27), 3) := by decide +kernel
theorem dX6_slicesUnderWay_34 : decode cX6_slicesUnderWay 34 = .ok (.iload_n 2, 1) := by decide +kernel
theorem dX6_slicesUnderWay_35 : decode cX6_slicesUnderWay 35 = .ok (.ireturn, 1) := by decide +kernel
theorem dX6_tell_0 : decode cX6_tell 0 = .ok (.iload_n 1, 1) := by decide +kernel
theorem dX6_tell_1 : decode cX6_tell 1 = .ok (.tableswitch 95 0 9 #[55, 60, 65, 70, 75, 80, 85, 95, 95, 90], 55) := by decide +kernel
theorem dX6_tell_56 : decode cX6_tell 56 = .ok (.aload_n 0, 1) := by decide +kernel
theorem dX6_tell_57 : decode cX6_tell 57 = .ok (.getfield 46, 3) := by decide +kernel
theorem dX6_tell_60 : decode cX6_tell 60 = .ok (.ireturn, 1) := by decide +kernel
theorem dX6_tell_61 : decode cX6_tell 61 = .ok (.aload_n 0, 1) := by decide +kernel
theorem dX6_tell_62 : decode cX6_tell 62 = .ok (.getfield 50, 3) := by decide +kernel
theorem dX6_tell_65 : decode cX6_tell 65 = .ok (.ireturn, 1) := by decide +kernel
theorem dX6_tell_66 : decode cX6_tell 66 = .ok (.aload_n 0, 1) := by decide +kernel
theorem dX6_tell_67 : decode cX6_tell 67 = .ok (.getfield 53, 3) := by decide +kernel
theorem dX6_tell_70 : decode cX6_tell 70 = .ok (.ireturn, 1) := by decide +kernel
theorem dX6_tell_71 : decode cX6_tell 71 = .ok (.aload_n 0, 1) := by decide +kernel
theorem dX6_tell_72 : decode cX6_tell 72 = .ok (.getfield 59, 3) := by decide +kernel
theorem dX6_tell_75 : decode cX6_tell 75 = .ok (.ireturn, 1) := by decide +kernel
theorem dX6_tell_76 : decode cX6_tell 76 = .ok (.aload_n 0, 1) := by decide +kernel
theorem dX6_tell_77 : decode cX6_tell 77 = .ok (.getfield 62, 3) := by decide +kernel
theorem dX6_tell_80 : decode cX6_tell 80 = .ok (.ireturn, 1) := by decide +kernel
theorem dX6_tell_81 : decode cX6_tell 81 = .ok (.aload_n 0, 1) := by decide +kernel
theorem dX6_tell_82 : decode cX6_tell 82 = .ok (.getfield 65, 3) := by decide +kernel
theorem dX6_tell_85 : decode cX6_tell 85 = .ok (.ireturn, 1) := by decide +kernel
theorem dX6_tell_86 : decode cX6_tell 86 = .ok (.aload_n 0, 1) := by decide +kernel
theorem dX6_tell_87 : decode cX6_tell 87 = .ok (.getfield 68, 3) := by decide +kernel
theorem dX6_tell_90 : decode cX6_tell 90 = .ok (.ireturn, 1) := by decide +kernel
theorem dX6_tell_91 : decode cX6_tell 91 = .ok (.aload_n 0, 1) := by decide +kernel
theorem dX6_tell_92 : decode cX6_tell 92 = .ok (.invokevirtual 339, 3) := by decide +kernel
theorem dX6_tell_95 : decode cX6_tell 95 = .ok (.ireturn, 1) := by decide +kernel
theorem dX6_tell_96 : decode cX6_tell 96 = .ok (.iload_n 1, 1) := by decide +kernel
theorem dX6_tell_97 : decode cX6_tell 97 = .ok (.bipush 11, 2) := by decide +kernel
theorem dX6_tell_99 : decode cX6_tell 99 = .ok (.bipush 17, 2) := by decide +kernel
theorem dX6_tell_101 : decode cX6_tell 101 = .ok (.invokestatic 90, 3) := by decide +kernel
theorem dX6_tell_104 : decode cX6_tell 104 = .ok (.ifCond .eq 13, 3) := by decide +kernel
theorem dX6_tell_107 : decode cX6_tell 107 = .ok (.aload_n 0, 1) := by decide +kernel
theorem dX6_tell_108 : decode cX6_tell 108 = .ok (.getfield 35, 3) := by decide +kernel
theorem dX6_tell_111 : decode cX6_tell 111 = .ok (.iload_n 1, 1) := by decide +kernel
theorem dX6_tell_112 : decode cX6_tell 112 = .ok (.bipush 10, 2) := by decide +kernel
theorem dX6_tell_114 : decode cX6_tell 114 = .ok (.isub, 1) := by decide +kernel
theorem dX6_tell_115 : decode cX6_tell 115 = .ok (.iaload, 1) := by decide +kernel
theorem dX6_tell_116 : decode cX6_tell 116 = .ok (.ireturn, 1) := by decide +kernel
theorem dX6_tell_117 : decode cX6_tell 117 = .ok (.iload_n 1, 1) := by decide +kernel
theorem dX6_tell_118 : decode cX6_tell 118 = .ok (.bipush 20, 2) := by decide +kernel
theorem dX6_tell_120 : decode cX6_tell 120 = .ok (.bipush 25, 2) := by decide +kernel
theorem dX6_tell_122 : decode cX6_tell 122 = .ok (.invokestatic 90, 3) := by decide +kernel
theorem dX6_tell_125 : decode cX6_tell 125 = .ok (.ifCond .eq 14, 3) := by decide +kernel
theorem dX6_tell_128 : decode cX6_tell 128 = .ok (.aload_n 0, 1) := by decide +kernel
theorem dX6_tell_129 : decode cX6_tell 129 = .ok (.iload_n 1, 1) := by decide +kernel
theorem dX6_tell_130 : decode cX6_tell 130 = .ok (.bipush 20, 2) := by decide +kernel
theorem dX6_tell_132 : decode cX6_tell 132 = .ok (.isub, 1) := by decide +kernel
theorem dX6_tell_133 : decode cX6_tell 133 = .ok (.invokevirtual 342, 3) := by decide +kernel
theorem dX6_tell_136 : decode cX6_tell 136 = .ok (.goto 5, 3) := by decide +kernel
theorem dX6_tell_139 : decode cX6_tell 139 = .ok (.bipush (-2), 2) := by decide +kernel
theorem dX6_tell_141 : decode cX6_tell 141 = .ok (.ireturn, 1) := by decide +kernel
theorem dX6_nextArrival_0 : decode cX6_nextArrival 0 = .ok (.aload_n 0, 1) := by decide +kernel
theorem dX6_nextArrival_1 : decode cX6_nextArrival 1 = .ok (.getfield 56, 3) := by decide +kernel
theorem dX6_nextArrival_4 : decode cX6_nextArrival 4 = .ok (.ifCond .ne 6, 3) := by decide +kernel
theorem dX6_nextArrival_7 : decode cX6_nextArrival 7 = .ok (.bipush (-6), 2) := by decide +kernel
theorem dX6_nextArrival_9 : decode cX6_nextArrival 9 = .ok (.ireturn, 1) := by decide +kernel
theorem dX6_nextArrival_10 : decode cX6_nextArrival 10 = .ok (.aload_n 0, 1) := by decide +kernel
theorem dX6_nextArrival_11 : decode cX6_nextArrival 11 = .ok (.getfield 31, 3) := by decide +kernel
theorem dX6_nextArrival_14 : decode cX6_nextArrival 14 = .ok (.iconst 0, 1) := by decide +kernel
theorem dX6_nextArrival_15 : decode cX6_nextArrival 15 = .ok (.aaload, 1) := by decide +kernel
theorem dX6_nextArrival_16 : decode cX6_nextArrival 16 = .ok (.getfield 202, 3) := by decide +kernel
theorem dX6_nextArrival_19 : decode cX6_nextArrival 19 = .ok (.istore_n 1, 1) := by decide +kernel
theorem dX6_nextArrival_20 : decode cX6_nextArrival 20 = .ok (.iconst 1, 1) := by decide +kernel
theorem dX6_nextArrival_21 : decode cX6_nextArrival 21 = .ok (.istore_n 2, 1) := by decide +kernel
theorem dX6_nextArrival_22 : decode cX6_nextArrival 22 = .ok (.iload_n 2, 1) := by decide +kernel
theorem dX6_nextArrival_23 : decode cX6_nextArrival 23 = .ok (.aload_n 0, 1) := by decide +kernel
theorem dX6_nextArrival_24 : decode cX6_nextArrival 24 = .ok (.getfield 56, 3) := by decide +kernel
theorem dX6_nextArrival_27 : decode cX6_nextArrival 27 = .ok (.if_icmp .ge 23, 3) := by decide +kernel
theorem dX6_nextArrival_30 : decode cX6_nextArrival 30 = .ok (.iload_n 1, 1) := by decide +kernel
theorem dX6_nextArrival_31 : decode cX6_nextArrival 31 = .ok (.aload_n 0, 1) := by decide +kernel
theorem dX6_nextArrival_32 : decode cX6_nextArrival 32 = .ok (.getfield 31, 3) := by decide +kernel
theorem dX6_nextArrival_35 : decode cX6_nextArrival 35 = .ok (.iload_n 2, 1) := by decide +kernel
theorem dX6_nextArrival_36 : decode cX6_nextArrival 36 = .ok (.aaload, 1) := by decide +kernel
theorem dX6_nextArrival_37 : decode cX6_nextArrival 37 = .ok (.getfield 202, 3) := by decide +kernel
theorem dX6_nextArrival_40 : decode cX6_nextArrival 40 = .ok (.invokestatic 212, 3) := by decide +kernel
theorem dX6_nextArrival_43 : decode cX6_nextArrival 43 = .ok (.istore_n 1, 1) := by decide +kernel
theorem dX6_nextArrival_44 : decode cX6_nextArrival 44 = .ok (.iinc 2 1, 3) := by decide +kernel
theorem dX6_nextArrival_47 : decode cX6_nextArrival 47 = .ok (.goto (-25), 3) := by decide +kernel
theorem dX6_nextArrival_50 : decode cX6_nextArrival 50 = .ok (.iload_n 1, 1) := by decide +kernel
theorem dX6_nextArrival_51 : decode cX6_nextArrival 51 = .ok (.ireturn, 1) := by decide +kernel
theorem dX6_parcelsInState_0 : decode cX6_parcelsInState 0 = .ok (.iconst 0, 1) := by decide +kernel
theorem dX6_parcelsInState_1 : decode cX6_parcelsInState 1 = .ok (.istore_n 2, 1) := by decide +kernel
theorem dX6_parcelsInState_2 : decode cX6_parcelsInState 2 = .ok (.iconst 0, 1) := by decide +kernel
theorem dX6_parcelsInState_3 : decode cX6_parcelsInState 3 = .ok (.istore_n 3, 1) := by decide +kernel
theorem dX6_parcelsInState_4 : decode cX6_parcelsInState 4 = .ok (.iload_n 3, 1) := by decide +kernel
theorem dX6_parcelsInState_5 : decode cX6_parcelsInState 5 = .ok (.aload_n 0, 1) := by decide +kernel
theorem dX6_parcelsInState_6 : decode cX6_parcelsInState 6 = .ok (.getfield 53, 3) := by decide +kernel
theorem dX6_parcelsInState_9 : decode cX6_parcelsInState 9 = .ok (.if_icmp .ge 25, 3) := by decide +kernel
theorem dX6_parcelsInState_12 : decode cX6_parcelsInState 12 = .ok (.aload_n 0, 1) := by decide +kernel
theorem dX6_parcelsInState_13 : decode cX6_parcelsInState 13 = .ok (.getfield 25, 3) := by decide +kernel
theorem dX6_parcelsInState_16 : decode cX6_parcelsInState 16 = .ok (.iload_n 3, 1) := by decide +kernel
theorem dX6_parcelsInState_17 : decode cX6_parcelsInState 17 = .ok (.aaload, 1) := by decide +kernel
theorem dX6_parcelsInState_18 : decode cX6_parcelsInState 18 = .ok (.getfield 118, 3) := by decide +kernel
theorem dX6_parcelsInState_21 : decode cX6_parcelsInState 21 = .ok (.iload_n 1, 1) := by decide +kernel
theorem dX6_parcelsInState_22 : decode cX6_parcelsInState 22 = .ok (.if_icmp .ne 6, 3) := by decide +kernel
theorem dX6_parcelsInState_25 : decode cX6_parcelsInState 25 = .ok (.iinc 2 1, 3) := by decide +kernel
theorem dX6_parcelsInState_28 : decode cX6_parcelsInState 28 = .ok (.iinc 3 1, 3) := by decide +kernel
theorem dX6_parcelsInState_31 : decode cX6_parcelsInState 31 = .ok (.goto (-27), 3) := by decide +kernel
theorem dX6_parcelsInState_34 : decode cX6_parcelsInState 34 = .ok (.iload_n 2, 1) := by decide +kernel
theorem dX6_parcelsInState_35 : decode cX6_parcelsInState 35 = .ok (.ireturn, 1) := by decide +kernel
theorem dX6_findPath_0 : decode cX6_findPath 0 = .ok (.iload_n 1, 1) := by decide +kernel
theorem dX6_findPath_1 : decode cX6_findPath 1 = .ok (.istore_n 3, 1) := by decide +kernel
theorem dX6_findPath_2 : decode cX6_findPath 2 = .ok (.iconst 0, 1) := by decide +kernel
theorem dX6_findPath_3 : decode cX6_findPath 3 = .ok (.istore 4, 2) := by decide +kernel
theorem dX6_findPath_5 : decode cX6_findPath 5 = .ok (.iload 4, 2) := by decide +kernel
theorem dX6_findPath_7 : decode cX6_findPath 7 = .ok (.aload_n 0, 1) := by decide +kernel
theorem dX6_findPath_8 : decode cX6_findPath 8 = .ok (.getfield 39, 3) := by decide +kernel
theorem dX6_findPath_11 : decode cX6_findPath 11 = .ok (.arraylength, 1) := by decide +kernel
theorem dX6_findPath_12 : decode cX6_findPath 12 = .ok (.if_icmp .ge 68, 3) := by decide +kernel
theorem dX6_findPath_15 : decode cX6_findPath 15 = .ok (.iload_n 3, 1) := by decide +kernel
theorem dX6_findPath_16 : decode cX6_findPath 16 = .ok (.iload_n 2, 1) := by decide +kernel
theorem dX6_findPath_17 : decode cX6_findPath 17 = .ok (.if_icmp .ne 6, 3) := by decide +kernel
theorem dX6_findPath_20 : decode cX6_findPath 20 = .ok (.iload 4, 2) := by decide +kernel
theorem dX6_findPath_22 : decode cX6_findPath 22 = .ok (.ireturn, 1) := by decide +kernel
theorem dX6_findPath_23 : decode cX6_findPath 23 = .ok (.aload_n 0, 1) := by decide +kernel
theorem dX6_findPath_24 : decode cX6_findPath 24 = .ok (.iload_n 3, 1) := by decide +kernel
theorem dX6_findPath_25 : decode cX6_findPath 25 = .ok (.invokevirtual 228, 3) := by decide +kernel
theorem dX6_findPath_28 : decode cX6_findPath 28 = .ok (.astore 5, 2) := by decide +kernel
theorem dX6_findPath_30 : decode cX6_findPath 30 = .ok (.aload 5, 2) := by decide +kernel
theorem dX6_findPath_32 : decode cX6_findPath 32 = .ok (.ifnonnull 7, 3) := by decide +kernel
theorem dX6_findPath_35 : decode cX6_findPath 35 = .ok (.aconst_null, 1) := by decide +kernel
theorem dX6_findPath_36 : decode cX6_findPath 36 = .ok (.goto 13, 3) := by decide +kernel
theorem dX6_findPath_39 : decode cX6_findPath 39 = .ok (.aload_n 0, 1) := by decide +kernel
theorem dX6_findPath_40 : decode cX6_findPath 40 = .ok (.aload 5, 2) := by decide +kernel
theorem dX6_findPath_42 : decode cX6_findPath 42 = .ok (.iload_n 2, 1) := by decide +kernel
theorem dX6_findPath_43 : decode cX6_findPath 43 = .ok (.invokevirtual 244, 3) := by decide +kernel
theorem dX6_findPath_46 : decode cX6_findPath 46 = .ok (.invokevirtual 247, 3) := by decide +kernel
theorem dX6_findPath_49 : decode cX6_findPath 49 = .ok (.astore 6, 2) := by decide +kernel
theorem dX6_findPath_51 : decode cX6_findPath 51 = .ok (.aload 6, 2) := by decide +kernel
theorem dX6_findPath_53 : decode cX6_findPath 53 = .ok (.ifnonnull 6, 3) := by decide +kernel
theorem dX6_findPath_56 : decode cX6_findPath 56 = .ok (.bipush (-6), 2) := by decide +kernel
theorem dX6_findPath_58 : decode cX6_findPath 58 = .ok (.ireturn, 1) := by decide +kernel
theorem dX6_findPath_59 : decode cX6_findPath 59 = .ok (.aload_n 0, 1) := by decide +kernel
theorem dX6_findPath_60 : decode cX6_findPath 60 = .ok (.getfield 39, 3) := by decide +kernel
theorem dX6_findPath_63 : decode cX6_findPath 63 = .ok (.iload 4, 2) := by decide +kernel
theorem dX6_findPath_65 : decode cX6_findPath 65 = .ok (.aload 6, 2) := by decide +kernel
theorem dX6_findPath_67 : decode cX6_findPath 67 = .ok (.aastore, 1) := by decide +kernel
theorem dX6_findPath_68 : decode cX6_findPath 68 = .ok (.aload 6, 2) := by decide +kernel
theorem dX6_findPath_70 : decode cX6_findPath 70 = .ok (.getfield 297, 3) := by decide +kernel
theorem dX6_findPath_73 : decode cX6_findPath 73 = .ok (.istore_n 3, 1) := by decide +kernel
theorem dX6_findPath_74 : decode cX6_findPath 74 = .ok (.iinc 4 1, 3) := by decide +kernel
theorem dX6_findPath_77 : decode cX6_findPath 77 = .ok (.goto (-72), 3) := by decide +kernel
theorem dX6_findPath_80 : decode cX6_findPath 80 = .ok (.bipush (-6), 2) := by decide +kernel
theorem dX6_findPath_82 : decode cX6_findPath 82 = .ok (.ireturn, 1) := by decide +kernel
theorem dX7_init_0 : decode cX7_init 0 = .ok (.aload_n 0, 1) := by decide +kernel
theorem dX7_init_1 : decode cX7_init 1 = .ok (.invokespecial 1, 3) := by decide +kernel
theorem dX7_init_4 : decode cX7_init 4 = .ok (.aload_n 0, 1) := by decide +kernel
theorem dX7_init_5 : decode cX7_init 5 = .ok (.new 7, 3) := by decide +kernel
theorem dX7_init_8 : decode cX7_init 8 = .ok (.dup, 1) := by decide +kernel
theorem dX7_init_9 : decode cX7_init 9 = .ok (.invokespecial 9, 3) := by decide +kernel
theorem dX7_init_12 : decode cX7_init 12 = .ok (.putfield 10, 3) := by decide +kernel
theorem dX7_init_15 : decode cX7_init 15 = .ok (.aload_n 0, 1) := by decide +kernel
theorem dX7_init_16 : decode cX7_init 16 = .ok (.new 7, 3) := by decide +kernel
theorem dX7_init_19 : decode cX7_init 19 = .ok (.dup, 1) := by decide +kernel
theorem dX7_init_20 : decode cX7_init 20 = .ok (.invokespecial 9, 3) := by decide +kernel
theorem dX7_init_23 : decode cX7_init 23 = .ok (.putfield 16, 3) := by decide +kernel
theorem dX7_init_26 : decode cX7_init 26 = .ok (.aload_n 0, 1) := by decide +kernel
theorem dX7_init_27 : decode cX7_init 27 = .ok (.new 19, 3) := by decide +kernel
theorem dX7_init_30 : decode cX7_init 30 = .ok (.dup, 1) := by decide +kernel
theorem dX7_init_31 : decode cX7_init 31 = .ok (.invokespecial 21, 3) := by decide +kernel
theorem dX7_init_34 : decode cX7_init 34 = .ok (.putfield 22, 3) := by decide +kernel
theorem dX7_init_37 : decode cX7_init 37 = .ok (.aload_n 0, 1) := by decide +kernel
theorem dX7_init_38 : decode cX7_init 38 = .ok (.iconst 2, 1) := by decide +kernel
theorem dX7_init_39 : decode cX7_init 39 = .ok (.anewarray 7, 3) := by decide +kernel
theorem dX7_init_42 : decode cX7_init 42 = .ok (.putfield 26, 3) := by decide +kernel
theorem dX7_init_45 : decode cX7_init 45 = .ok (.aload_n 0, 1) := by decide +kernel
theorem dX7_init_46 : decode cX7_init 46 = .ok (.iconst 2, 1) := by decide +kernel
theorem dX7_init_47 : decode cX7_init 47 = .ok (.newarray .boolean, 2) := by decide +kernel
theorem dX7_init_49 : decode cX7_init 49 = .ok (.putfield 30, 3) := by decide +kernel
theorem dX7_init_52 : decode cX7_init 52 = .ok (.aload_n 0, 1) := by decide +kernel
theorem dX7_init_53 : decode cX7_init 53 = .ok (.new 34, 3) := by decide +kernel
theorem dX7_init_56 : decode cX7_init 56 = .ok (.dup, 1) := by decide +kernel
theorem dX7_init_57 : decode cX7_init 57 = .ok (.invokespecial 36, 3) := by decide +kernel
theorem dX7_init_60 : decode cX7_init 60 = .ok (.putfield 37, 3) := by decide +kernel
theorem dX7_init_63 : decode cX7_init 63 = .ok (.iconst 0, 1) := by decide +kernel
theorem dX7_init_64 : decode cX7_init 64 = .ok (.istore_n 1, 1) := by decide +kernel
theorem dX7_init_65 : decode cX7_init 65 = .ok (.iload_n 1, 1) := by decide +kernel
theorem dX7_init_66 : decode cX7_init 66 = .ok (.iconst 2, 1) := by decide +kernel
theorem dX7_init_67 : decode cX7_init 67 = .ok (.if_icmp .ge 22, 3) := by decide +kernel
theorem dX7_init_70 : decode cX7_init 70 = .ok (.aload_n 0, 1) := by decide +kernel
theorem dX7_init_71 : decode cX7_init 71 = .ok (.getfield 26, 3) := by decide +kernel
theorem dX7_init_74 : decode cX7_init 74 = .ok (.iload_n 1, 1) := by decide +kernel
theorem dX7_init_75 : decode cX7_init 75 = .ok (.new 7, 3) := by decide +kernel
theorem dX7_init_78 : decode cX7_init 78 = .ok (.dup, 1) := by decide +kernel
theorem dX7_init_79 : decode cX7_init 79 = .ok (.invokespecial 9, 3) := by decide +kernel
theorem dX7_init_82 : decode cX7_init 82 = .ok (.aastore, 1) := by decide +kernel
theorem dX7_init_83 : decode cX7_init 83 = .ok (.iinc 1 1, 3) := by decide +kernel
theorem dX7_init_86 : decode cX7_init 86 = .ok (.goto (-21), 3) := by decide +kernel
theorem dX7_init_89 : decode cX7_init 89 = .ok (.return_, 1) := by decide +kernel
theorem dX7_node_0 : decode cX7_node 0 = .ok (.aload_n 0, 1) := by decide +kernel
theorem dX7_node_1 : decode cX7_node 1 = .ok (.getfield 10, 3) := by decide +kernel
theorem dX7_node_4 : decode cX7_node 4 = .ok (.iload_n 1, 1) := by decide +kernel
theorem dX7_node_5 : decode cX7_node 5 = .ok (.invokevirtual 41, 3) := by decide +kernel
theorem dX7_node_8 : decode cX7_node 8 = .ok (.astore 5, 2) := by decide +kernel
theorem dX7_node_10 : decode cX7_node 10 = .ok (.aload 5, 2) := by decide +kernel
theorem dX7_node_12 : decode cX7_node 12 = .ok (.ifnonnull 5, 3) := by decide +kernel
theorem dX7_node_15 : decode cX7_node 15 = .ok (.iconst (-1), 1) := by decide +kernel
theorem dX7_node_16 : decode cX7_node 16 = .ok (.ireturn, 1) := by decide +kernel
theorem dX7_node_17 : decode cX7_node 17 = .ok (.iload_n 2, 1) := by decide +kernel
theorem dX7_node_18 : decode cX7_node 18 = .ok (.iconst 0, 1) := by decide +kernel
theorem dX7_node_19 : decode cX7_node 19 = .ok (.iconst 2, 1) := by decide +kernel
theorem dX7_node_20 : decode cX7_node 20 = .ok (.invokestatic 45, 3) := by decide +kernel
theorem dX7_node_23 : decode cX7_node 23 = .ok (.ifCond .eq 27, 3) := by decide +kernel
theorem dX7_node_26 : decode cX7_node 26 = .ok (.iload_n 3, 1) := by decide +kernel
theorem dX7_node_27 : decode cX7_node 27 = .ok (.iconst 1, 1) := by decide +kernel
theorem dX7_node_28 : decode cX7_node 28 = .ok (.sipush 500, 3) := by decide +kernel
theorem dX7_node_31 : decode cX7_node 31 = .ok (.invokestatic 45, 3) := by decide +kernel
theorem dX7_node_34 : decode cX7_node 34 = .ok (.ifCond .eq 16, 3) := by decide +kernel
theorem dX7_node_37 : decode cX7_node 37 = .ok (.iload 4, 2) := by decide +kernel
theorem dX7_node_39 : decode cX7_node 39 = .ok (.bipush 64, 2) := by decide +kernel
theorem dX7_node_41 : decode cX7_node 41 = .ok (.sipush 20000, 3) := by decide +kernel
theorem dX7_node_44 : decode cX7_node 44 = .ok (.invokestatic 45, 3) := by decide +kernel
theorem dX7_node_47 : decode cX7_node 47 = .ok (.ifCond .ne 6, 3) := by decide +kernel
theorem dX7_node_50 : decode cX7_node 50 = .ok (.bipush (-2), 2) := by decide +kernel
theorem dX7_node_52 : decode cX7_node 52 = .ok (.ireturn, 1) := by decide +kernel
theorem dX7_node_53 : decode cX7_node 53 = .ok (.aload_n 0, 1) := by decide +kernel
theorem dX7_node_54 : decode cX7_node 54 = .ok (.getfield 22, 3) := by decide +kernel
theorem dX7_node_57 : decode cX7_node 57 = .ok (.aload_n 0, 1) := by decide +kernel
theorem dX7_node_58 : decode cX7_node 58 = .ok (.getfield 10, 3) := by decide +kernel
theorem dX7_node_61 : decode cX7_node 61 = .ok (.invokevirtual 49, 3) := by decide +kernel
theorem dX7_node_64 : decode cX7_node 64 = .ok (.aload 5, 2) := by decide +kernel
theorem dX7_node_66 : decode cX7_node 66 = .ok (.getfield 53, 3) := by decide +kernel
theorem dX7_node_69 : decode cX7_node 69 = .ok (.istore 6, 2) := by decide +kernel
theorem dX7_node_71 : decode cX7_node 71 = .ok (.aload 5, 2) := by decide +kernel
theorem dX7_node_73 : decode cX7_node 73 = .ok (.iload_n 2, 1) := by decide +kernel
theorem dX7_node_74 : decode cX7_node 74 = .ok (.putfield 53, 3) := by decide +kernel
theorem dX7_node_77 : decode cX7_node 77 = .ok (.aload 5, 2) := by decide +kernel
theorem dX7_node_79 : decode cX7_node 79 = .ok (.iload_n 3, 1) := by decide +kernel
theorem dX7_node_80 : decode cX7_node 80 = .ok (.putfield 59, 3) := by decide +kernel
theorem dX7_node_83 : decode cX7_node 83 = .ok (.aload 5, 2) := by decide +kernel
theorem dX7_node_85 : decode cX7_node 85 = .ok (.iload 4, 2) := by decide +kernel
theorem dX7_node_87 : decode cX7_node 87 = .ok (.putfield 62, 3) := by decide +kernel
theorem dX7_node_90 : decode cX7_node 90 = .ok (.iload 6, 2) := by decide +kernel
theorem dX7_node_92 : decode cX7_node 92 = .ok (.ireturn, 1) := by decide +kernel
theorem dX7_bridge_0 : decode cX7_bridge 0 = .ok (.iload_n 1, 1) := by decide +kernel
theorem dX7_bridge_1 : decode cX7_bridge 1 = .ok (.iload_n 2, 1) := by decide +kernel
theorem dX7_bridge_2 : decode cX7_bridge 2 = .ok (.invokestatic 65, 3) := by decide +kernel
theorem dX7_bridge_5 : decode cX7_bridge 5 = .ok (.ifCond .ne 5, 3) := by decide +kernel
theorem dX7_bridge_8 : decode cX7_bridge 8 = .ok (.iconst (-1), 1) := by decide +kernel
theorem dX7_bridge_9 : decode cX7_bridge 9 = .ok (.ireturn, 1) := by decide +kernel
theorem dX7_bridge_10 : decode cX7_bridge 10 = .ok (.iload_n 3, 1) := by decide +kernel
theorem dX7_bridge_11 : decode cX7_bridge 11 = .ok (.invokestatic 69, 3) := by decide +kernel
theorem dX7_bridge_14 : decode cX7_bridge 14 = .ok (.ifCond .eq 26, 3) := by decide +kernel
theorem dX7_bridge_17 : decode cX7_bridge 17 = .ok (.iload 4, 2) := by decide +kernel
theorem dX7_bridge_19 : decode cX7_bridge 19 = .ok (.iconst 1, 1) := by decide +kernel
theorem dX7_bridge_20 : decode cX7_bridge 20 = .ok (.bipush 50, 2) := by decide +kernel
theorem dX7_bridge_22 : decode cX7_bridge 22 = .ok (.invokestatic 45, 3) := by decide +kernel
theorem dX7_bridge_25 : decode cX7_bridge 25 = .ok (.ifCond .eq 15, 3) := by decide +kernel
theorem dX7_bridge_28 : decode cX7_bridge 28 = .ok (.iload 5, 2) := by decide +kernel
theorem dX7_bridge_30 : decode cX7_bridge 30 = .ok (.iconst 1, 1) := by decide +kernel
theorem dX7_bridge_31 : decode cX7_bridge 31 = .ok (.sipush 1000, 3) := by decide +kernel
theorem dX7_bridge_34 : decode cX7_bridge 34 = .ok (.invokestatic 45, 3) := by decide +kernel
theorem dX7_bridge_37 : decode cX7_bridge 37 = .ok (.ifCond .ne 6, 3) := by decide +kernel
theorem dX7_bridge_40 : decode cX7_bridge 40 = .ok (.bipush (-2), 2) := by decide +kernel
theorem dX7_bridge_42 : decode cX7_bridge 42 = .ok (.ireturn, 1) := by decide +kernel
theorem dX7_bridge_43 : decode cX7_bridge 43 = .ok (.aload_n 0, 1) := by decide +kernel
theorem dX7_bridge_44 : decode cX7_bridge 44 = .ok (.getfield 10, 3) := by decide +kernel
theorem dX7_bridge_47 : decode cX7_bridge 47 = .ok (.getfield 73, 3) := by decide +kernel
theorem dX7_bridge_50 : decode cX7_bridge 50 = .ok (.bipush 16, 2) := by decide +kernel
theorem dX7_bridge_52 : decode cX7_bridge 52 = .ok (.if_icmp .lt 6, 3) := by decide +kernel
theorem dX7_bridge_55 : decode cX7_bridge 55 = .ok (.bipush (-4), 2) := by decide +kernel
theorem dX7_bridge_57 : decode cX7_bridge 57 = .ok (.ireturn, 1) := by decide +kernel
theorem dX7_bridge_58 : decode cX7_bridge 58 = .ok (.aload_n 0, 1) := by decide +kernel
theorem dX7_bridge_59 : decode cX7_bridge 59 = .ok (.getfield 22, 3) := by decide +kernel
theorem dX7_bridge_62 : decode cX7_bridge 62 = .ok (.aload_n 0, 1) := by decide +kernel
theorem dX7_bridge_63 : decode cX7_bridge 63 = .ok (.getfield 10, 3) := by decide +kernel
theorem dX7_bridge_66 : decode cX7_bridge 66 = .ok (.invokevirtual 49, 3) := by decide +kernel
theorem dX7_bridge_69 : decode cX7_bridge 69 = .ok (.aload_n 0, 1) := by decide +kernel
theorem dX7_bridge_70 : decode cX7_bridge 70 = .ok (.getfield 10, 3) := by decide +kernel
theorem dX7_bridge_73 : decode cX7_bridge 73 = .ok (.getfield 76, 3) := by decide +kernel
theorem dX7_bridge_76 : decode cX7_bridge 76 = .ok (.aload_n 0, 1) := by decide +kernel
theorem dX7_bridge_77 : decode cX7_bridge 77 = .ok (.getfield 10, 3) := by decide +kernel
theorem dX7_bridge_80 : decode cX7_bridge 80 = .ok (.getfield 73, 3) := by decide +kernel
theorem dX7_bridge_83 : decode cX7_bridge 83 = .ok (.aaload, 1) := by decide +kernel
theorem dX7_bridge_84 : decode cX7_bridge 84 = .ok (.astore 6, 2) := by decide +kernel
theorem dX7_bridge_86 : decode cX7_bridge 86 = .ok (.aload 6, 2) := by decide +kernel
theorem dX7_bridge_88 : decode cX7_bridge 88 = .ok (.iload_n 1, 1) := by decide +kernel
theorem dX7_bridge_89 : decode cX7_bridge 89 = .ok (.putfield 80, 3) := by decide +kernel
theorem dX7_bridge_92 : decode cX7_bridge 92 = .ok (.aload 6, 2) := by decide +kernel
theorem dX7_bridge_94 : decode cX7_bridge 94 = .ok (.iload_n 2, 1) := by decide +kernel
theorem dX7_bridge_95 : decode cX7_bridge 95 = .ok (.putfield 85, 3) := by decide +kernel
theorem dX7_bridge_98 : decode cX7_bridge 98 = .ok (.aload 6, 2) := by decide +kernel
theorem dX7_bridge_100 : decode cX7_bridge 100 = .ok (.iload_n 3, 1) := by decide +kernel
theorem dX7_bridge_101 : decode cX7_bridge 101 = .ok (.putfield 88, 3) := by decide +kernel
theorem dX7_bridge_104 : decode cX7_bridge 104 = .ok (.aload 6, 2) := by decide +kernel
theorem dX7_bridge_106 : decode cX7_bridge 106 = .ok (.iload 4, 2) := by decide +kernel
theorem dX7_bridge_108 : decode cX7_bridge 108 = .ok (.putfield 91, 3) := by decide +kernel
theorem dX7_bridge_111 : decode cX7_bridge 111 = .ok (.aload 6, 2) := by decide +kernel
theorem dX7_bridge_113 : decode cX7_bridge 113 = .ok (.iload 5, 2) := by decide +kernel
theorem dX7_bridge_115 : decode cX7_bridge 115 = .ok (.putfield 94, 3) := by decide +kernel
theorem dX7_bridge_118 : decode cX7_bridge 118 = .ok (.aload_n 0, 1) := by decide +kernel
theorem dX7_bridge_119 : decode cX7_bridge 119 = .ok (.getfield 10, 3) := by decide +kernel
theorem dX7_bridge_122 : decode cX7_bridge 122 = .ok (.dup, 1) := by decide +kernel
theorem dX7_bridge_123 : decode cX7_bridge 123 = .ok (.getfield 73, 3) := by decide +kernel
theorem dX7_bridge_126 : decode cX7_bridge 126 = .ok (.iconst 1, 1) := by decide +kernel
theorem dX7_bridge_127 : decode cX7_bridge 127 = .ok (.iadd, 1) := by decide +kernel
theorem dX7_bridge_128 : decode cX7_bridge 128 = .ok (.putfield 73, 3) := by decide +kernel
theorem dX7_bridge_131 : decode cX7_bridge 131 = .ok (.aload_n 0, 1) := by decide +kernel
theorem dX7_bridge_132 : decode cX7_bridge 132 = .ok (.getfield 10, 3) := by decide +kernel
theorem dX7_bridge_135 : decode cX7_bridge 135 = .ok (.getfield 73, 3) := by decide +kernel
theorem dX7_bridge_138 : decode cX7_bridge 138 = .ok (.iconst 1, 1) := by decide +kernel
theorem dX7_bridge_139 : decode cX7_bridge 139 = .ok (.isub, 1) := by decide +kernel
theorem dX7_bridge_140 : decode cX7_bridge 140 = .ok (.ireturn, 1) := by decide +kernel
theorem dX7_mend_0 : decode cX7_mend 0 = .ok (.aload_n 0, 1) := by decide +kernel
theorem dX7_mend_1 : decode cX7_mend 1 = .ok (.getfield 10, 3) := by decide +kernel
theorem dX7_mend_4 : decode cX7_mend 4 = .ok (.iload_n 1, 1) := by decide +kernel
theorem dX7_mend_5 : decode cX7_mend 5 = .ok (.invokevirtual 97, 3) := by decide +kernel
theorem dX7_mend_8 : decode cX7_mend 8 = .ok (.astore 4, 2) := by decide +kernel
theorem dX7_mend_10 : decode cX7_mend 10 = .ok (.aload 4, 2) := by decide +kernel
theorem dX7_mend_12 : decode cX7_mend 12 = .ok (.ifnonnull 5, 3) := by decide +kernel
theorem dX7_mend_15 : decode cX7_mend 15 = .ok (.iconst (-1), 1) := by decide +kernel
theorem dX7_mend_16 : decode cX7_mend 16 = .ok (.ireturn, 1) := by decide +kernel
theorem dX7_mend_17 : decode cX7_mend 17 = .ok (.iload_n 2, 1) := by decide +kernel
theorem dX7_mend_18 : decode cX7_mend 18 = .ok (.invokestatic 69, 3) := by decide +kernel
theorem dX7_mend_21 : decode cX7_mend 21 = .ok (.ifCond .eq 13, 3) := by decide +kernel
theorem dX7_mend_24 : decode cX7_mend 24 = .ok (.iload_n 3, 1) := by decide +kernel
theorem dX7_mend_25 : decode cX7_mend 25 = .ok (.iconst 0, 1) := by decide +kernel
theorem dX7_mend_26 : decode cX7_mend 26 = .ok (.bipush 99, 2) := by decide +kernel
theorem dX7_mend_28 : decode cX7_mend 28 = .ok (.invokestatic 45, 3) := by decide +kernel
theorem dX7_mend_31 : decode cX7_mend 31 = .ok (.ifCond .ne 6, 3) := by decide +kernel
theorem dX7_mend_34 : decode cX7_mend 34 = .ok (.bipush (-2), 2) := by decide +kernel
theorem dX7_mend_36 : decode cX7_mend 36 = .ok (.ireturn, 1) := by decide +kernel
theorem dX7_mend_37 : decode cX7_mend 37 = .ok (.aload_n 0, 1) := by decide +kernel
theorem dX7_mend_38 : decode cX7_mend 38 = .ok (.getfield 22, 3) := by decide +kernel
theorem dX7_mend_41 : decode cX7_mend 41 = .ok (.aload_n 0, 1) := by decide +kernel
theorem dX7_mend_42 : decode cX7_mend 42 = .ok (.getfield 10, 3) := by decide +kernel
theorem dX7_mend_45 : decode cX7_mend 45 = .ok (.invokevirtual 49, 3) := by decide +kernel
theorem dX7_mend_48 : decode cX7_mend 48 = .ok (.aload 4, 2) := by decide +kernel
theorem dX7_mend_50 : decode cX7_mend 50 = .ok (.getfield 88, 3) := by decide +kernel
theorem dX7_mend_53 : decode cX7_mend 53 = .ok (.istore 5, 2) := by decide +kernel
theorem dX7_mend_55 : decode cX7_mend 55 = .ok (.aload 4, 2) := by decide +kernel
theorem dX7_mend_57 : decode cX7_mend 57 = .ok (.iload_n 2, 1) := by decide +kernel
theorem dX7_mend_58 : decode cX7_mend 58 = .ok (.putfield 88, 3) := by decide +kernel
theorem dX7_mend_61 : decode cX7_mend 61 = .ok (.aload 4, 2) := by decide +kernel
theorem dX7_mend_63 : decode cX7_mend 63 = .ok (.iload_n 3, 1) := by decide +kernel
theorem dX7_mend_64 : decode cX7_mend 64 = .ok (.putfield 101, 3) := by decide +kernel
theorem dX7_mend_67 : decode cX7_mend 67 = .ok (.aload 4, 2) := by decide +kernel
theorem dX7_mend_69 : decode cX7_mend 69 = .ok (.iconst 0, 1) := by decide +kernel
theorem dX7_mend_70 : decode cX7_mend 70 = .ok (.putfield 104, 3) := by decide +kernel
theorem dX7_mend_73 : decode cX7_mend 73 = .ok (.iload 5, 2) := by decide +kernel
theorem dX7_mend_75 : decode cX7_mend 75 = .ok (.ireturn, 1) := by decide +kernel
theorem dX7_route_0 : decode cX7_route 0 = .ok (.aload_n 0, 1) := by decide +kernel
theorem dX7_route_1 : decode cX7_route 1 = .ok (.getfield 10, 3) := by decide +kernel
theorem dX7_route_4 : decode cX7_route 4 = .ok (.iload_n 1, 1) := by decide +kernel
theorem dX7_route_5 : decode cX7_route 5 = .ok (.invokevirtual 41, 3) := by decide +kernel
theorem dX7_route_8 : decode cX7_route 8 = .ok (.astore 4, 2) := by decide +kernel
theorem dX7_route_10 : decode cX7_route 10 = .ok (.aload 4, 2) := by decide +kernel
theorem dX7_route_12 : decode cX7_route 12 = .ok (.ifnull 11, 3) := by decide +kernel
theorem dX7_route_15 : decode cX7_route 15 = .ok (.iload_n 1, 1) := by decide +kernel
theorem dX7_route_16 : decode cX7_route 16 = .ok (.iload_n 2, 1) := by decide +kernel
theorem dX7_route_17 : decode cX7_route 17 = .ok (.invokestatic 65, 3) := by decide +kernel
theorem dX7_route_20 : decode cX7_route 20 = .ok (.ifCond .ne 5, 3) := by decide +kernel
theorem dX7_route_23 : decode cX7_route 23 = .ok (.iconst (-1), 1) := by decide +kernel
theorem dX7_route_24 : decode cX7_route 24 = .ok (.ireturn, 1) := by decide +kernel
theorem dX7_route_25 : decode cX7_route 25 = .ok (.aload_n 0, 1) := by decide +kernel
theorem dX7_route_26 : decode cX7_route 26 = .ok (.getfield 10, 3) := by decide +kernel
theorem dX7_route_29 : decode cX7_route 29 = .ok (.iload_n 3, 1) := by decide +kernel
theorem dX7_route_30 : decode cX7_route 30 = .ok (.invokevirtual 97, 3) := by decide +kernel
theorem dX7_route_33 : decode cX7_route 33 = .ok (.astore 5, 2) := by decide +kernel
theorem dX7_route_35 : decode cX7_route 35 = .ok (.aload 5, 2) := by decide +kernel
theorem dX7_route_37 : decode cX7_route 37 = .ok (.ifnonnull 11, 3) := by decide +kernel
theorem dX7_route_40 : decode cX7_route 40 = .ok (.iload_n 3, 1) := by decide +kernel
theorem dX7_route_41 : decode cX7_route 41 = .ok (.bipush (-6), 2) := by decide +kernel
theorem dX7_route_43 : decode cX7_route 43 = .ok (.if_icmp .eq 5, 3) := by decide +kernel
theorem dX7_route_46 : decode cX7_route 46 = .ok (.iconst (-1), 1) := by decide +kernel
theorem dX7_route_47 : decode cX7_route 47 = .ok (.ireturn, 1) := by decide +kernel
theorem dX7_route_48 : decode cX7_route 48 = .ok (.aload 5, 2) := by decide +kernel
theorem dX7_route_50 : decode cX7_route 50 = .ok (.ifnull 15, 3) := by decide +kernel
theorem dX7_route_53 : decode cX7_route 53 = .ok (.aload 5, 2) := by decide +kernel
theorem dX7_route_55 : decode cX7_route 55 = .ok (.getfield 80, 3) := by decide +kernel
theorem dX7_route_58 : decode cX7_route 58 = .ok (.iload_n 1, 1) := by decide +kernel
theorem dX7_route_59 : decode cX7_route 59 = .ok (.if_icmp .eq 6, 3) := by decide +kernel
theorem dX7_route_62 : decode cX7_route 62 = .ok (.bipush (-5), 2) := by decide +kernel
theorem dX7_route_64 : decode cX7_route 64 = .ok (.ireturn, 1) := by decide +kernel
theorem dX7_route_65 : decode cX7_route 65 = .ok (.aload_n 0, 1) := by decide +kernel
theorem dX7_route_66 : decode cX7_route 66 = .ok (.getfield 22, 3) := by decide +kernel
theorem dX7_route_69 : decode cX7_route 69 = .ok (.aload_n 0, 1) := by decide +kernel
theorem dX7_route_70 : decode cX7_route 70 = .ok (.getfield 10, 3) := by decide +kernel
theorem dX7_route_73 : decode cX7_route 73 = .ok (.invokevirtual 49, 3) := by decide +kernel
theorem dX7_route_76 : decode cX7_route 76 = .ok (.aload 4, 2) := by decide +kernel
theorem dX7_route_78 : decode cX7_route 78 = .ok (.getfield 107, 3) := by decide +kernel
theorem dX7_route_81 : decode cX7_route 81 = .ok (.iload_n 2, 1) := by decide +kernel
theorem dX7_route_82 : decode cX7_route 82 = .ok (.iaload, 1) := by decide +kernel
theorem dX7_route_83 : decode cX7_route 83 = .ok (.istore 6, 2) := by decide +kernel
theorem dX7_route_85 : decode cX7_route 85 = .ok (.aload 4, 2) := by decide +kernel
theorem dX7_route_87 : decode cX7_route 87 = .ok (.getfield 107, 3) := by decide +kernel
theorem dX7_route_90 : decode cX7_route 90 = .ok (.iload_n 2, 1) := by decide +kernel
theorem dX7_route_91 : decode cX7_route 91 = .ok (.iload_n 3, 1) := by decide +kernel
theorem dX7_route_92 : decode cX7_route 92 = .ok (.iastore, 1) := by decide +kernel
theorem dX7_route_93 : decode cX7_route 93 = .ok (.iload 6, 2) := by decide +kernel
theorem dX7_route_95 : decode cX7_route 95 = .ok (.ireturn, 1) := by decide +kernel
theorem dX7_send_0 : decode cX7_send 0 = .ok (.aload_n 0, 1) := by decide +kernel
theorem dX7_send_1 : decode cX7_send 1 = .ok (.getfield 10, 3) := by decide +kernel
theorem dX7_send_4 : decode cX7_send 4 = .ok (.iload_n 1, 1) := by decide +kernel
theorem dX7_send_5 : decode cX7_send 5 = .ok (.iload_n 2, 1) := by decide +kernel
theorem dX7_send_6 : decode cX7_send 6 = .ok (.iload_n 3, 1) := by decide +kernel
theorem dX7_send_7 : decode cX7_send 7 = .ok (.iload 4, 2) := by decide +kernel
theorem dX7_send_9 : decode cX7_send 9 = .ok (.iload 5, 2) := by decide +kernel
theorem dX7_send_11 : decode cX7_send 11 = .ok (.aload_n 0, 1) := by decide +kernel
theorem dX7_send_12 : decode cX7_send 12 = .ok (.getfield 22, 3) := by decide +kernel
theorem dX7_send_15 : decode cX7_send 15 = .ok (.invokevirtual 111, 3) := by decide +kernel
theorem dX7_send_18 : decode cX7_send 18 = .ok (.ireturn, 1) := by decide +kernel
theorem dX7_resend_0 : decode cX7_resend 0 = .ok (.aload_n 0, 1) := by decide +kernel
theorem dX7_resend_1 : decode cX7_resend 1 = .ok (.getfield 10, 3) := by decide +kernel
theorem dX7_resend_4 : decode cX7_resend 4 = .ok (.iload_n 1, 1) := by decide +kernel
theorem dX7_resend_5 : decode cX7_resend 5 = .ok (.aload_n 0, 1) := by decide +kernel
theorem dX7_resend_6 : decode cX7_resend 6 = .ok (.getfield 22, 3) := by decide +kernel
theorem dX7_resend_9 : decode cX7_resend 9 = .ok (.invokevirtual 115, 3) := by decide +kernel
theorem dX7_resend_12 : decode cX7_resend 12 = .ok (.ireturn, 1) := by decide +kernel
theorem dX7_forge_0 : decode cX7_forge 0 = .ok (.aload_n 0, 1) := by decide +kernel
theorem dX7_forge_1 : decode cX7_forge 1 = .ok (.getfield 10, 3) := by decide +kernel
theorem dX7_forge_4 : decode cX7_forge 4 = .ok (.iload_n 1, 1) := by decide +kernel
theorem dX7_forge_5 : decode cX7_forge 5 = .ok (.iload_n 2, 1) := by decide +kernel
theorem dX7_forge_6 : decode cX7_forge 6 = .ok (.iload_n 3, 1) := by decide +kernel
theorem dX7_forge_7 : decode cX7_forge 7 = .ok (.iload 4, 2) := by decide +kernel
theorem dX7_forge_9 : decode cX7_forge 9 = .ok (.iload 5, 2) := by decide +kernel
theorem dX7_forge_11 : decode cX7_forge 11 = .ok (.aload_n 0, 1) := by decide +kernel
theorem dX7_forge_12 : decode cX7_forge 12 = .ok (.getfield 22, 3) := by decide +kernel
theorem dX7_forge_15 : decode cX7_forge 15 = .ok (.invokevirtual 119, 3) := by decide +kernel
theorem dX7_forge_18 : decode cX7_forge 18 = .ok (.ireturn, 1) := by decide +kernel
theorem dX7_ticks_0 : decode cX7_ticks 0 = .ok (.iload_n 1, 1) := by decide +kernel
theorem dX7_ticks_1 : decode cX7_ticks 1 = .ok (.invokestatic 122, 3) := by decide +kernel
theorem dX7_ticks_4 : decode cX7_ticks 4 = .ok (.ifCond .ne 6, 3) := by decide +kernel
theorem dX7_ticks_7 : decode cX7_ticks 7 = .ok (.bipush (-2), 2) := by decide +kernel
theorem dX7_ticks_9 : decode cX7_ticks 9 = .ok (.ireturn, 1) := by decide +kernel
theorem dX7_ticks_10 : decode cX7_ticks 10 = .ok (.aload_n 0, 1) := by decide +kernel
theorem dX7_ticks_11 : decode cX7_ticks 11 = .ok (.getfield 22, 3) := by decide +kernel
theorem dX7_ticks_14 : decode cX7_ticks 14 = .ok (.aload_n 0, 1) := by decide +kernel
theorem dX7_ticks_15 : decode cX7_ticks 15 = .ok (.getfield 10, 3) := by decide +kernel
theorem dX7_ticks_18 : decode cX7_ticks 18 = .ok (.invokevirtual 49, 3) := by decide +kernel
theorem dX7_ticks_21 : decode cX7_ticks 21 = .ok (.aload_n 0, 1) := by decide +kernel
theorem dX7_ticks_22 : decode cX7_ticks 22 = .ok (.getfield 10, 3) := by decide +kernel
theorem dX7_ticks_25 : decode cX7_ticks 25 = .ok (.iload_n 1, 1) := by decide +kernel
theorem dX7_ticks_26 : decode cX7_ticks 26 = .ok (.invokevirtual 125, 3) := by decide +kernel
theorem dX7_ticks_29 : decode cX7_ticks 29 = .ok (.aload_n 0, 1) := by decide +kernel
theorem dX7_ticks_30 : decode cX7_ticks 30 = .ok (.getfield 10, 3) := by decide +kernel
theorem dX7_ticks_33 : decode cX7_ticks 33 = .ok (.getfield 129, 3) := by decide +kernel
theorem dX7_ticks_36 : decode cX7_ticks 36 = .ok (.ireturn, 1) := by decide +kernel
theorem dX7_ofNode_0 : decode cX7_ofNode 0 = .ok (.aload_n 0, 1) := by decide +kernel
theorem dX7_ofNode_1 : decode cX7_ofNode 1 = .ok (.getfield 10, 3) := by decide +kernel
theorem dX7_ofNode_4 : decode cX7_ofNode 4 = .ok (.iload_n 1, 1) := by decide +kernel
theorem dX7_ofNode_5 : decode cX7_ofNode 5 = .ok (.invokevirtual 41, 3) := by decide +kernel
theorem dX7_ofNode_8 : decode cX7_ofNode 8 = .ok (.astore_n 3, 1) := by decide +kernel
theorem dX7_ofNode_9 : decode cX7_ofNode 9 = .ok (.aload_n 3, 1) := by decide +kernel
theorem dX7_ofNode_10 : decode cX7_ofNode 10 = .ok (.ifnonnull 5, 3) := by decide +kernel
theorem dX7_ofNode_13 : decode cX7_ofNode 13 = .ok (.iconst (-1), 1) := by decide +kernel
theorem dX7_ofNode_14 : decode cX7_ofNode 14 = .ok (.ireturn, 1) := by decide +kernel
theorem dX7_ofNode_15 : decode cX7_ofNode 15 = .ok (.iload_n 2, 1) := by decide +kernel
theorem dX7_ofNode_16 : decode cX7_ofNode 16 = .ok (.iconst 3, 1) := by decide +kernel
theorem dX7_ofNode_17 : decode cX7_ofNode 17 = .ok (.if_icmp .ne 12, 3) := by decide +kernel
theorem dX7_ofNode_20 : decode cX7_ofNode 20 = .ok (.aload_n 0, 1) := by decide +kernel
theorem dX7_ofNode_21 : decode cX7_ofNode 21 = .ok (.getfield 10, 3) := by decide +kernel
theorem dX7_ofNode_24 : decode cX7_ofNode 24 = .ok (.iload_n 1, 1) := by decide +kernel
theorem dX7_ofNode_25 : decode cX7_ofNode 25 = .ok (.invokevirtual 132, 3) := by decide +kernel
theorem dX7_ofNode_28 : decode cX7_ofNode 28 = .ok (.ireturn, 1) := by decide +kernel
theorem dX7_ofNode_29 : decode cX7_ofNode 29 = .ok (.iload_n 2, 1) := by decide +kernel
theorem dX7_ofNode_30 : decode cX7_ofNode 30 = .ok (.iconst 4, 1) := by decide +kernel
theorem dX7_ofNode_31 : decode cX7_ofNode 31 = .ok (.if_icmp .ne 12, 3) := by decide +kernel
theorem dX7_ofNode_34 : decode cX7_ofNode 34 = .ok (.aload_n 0, 1) := by decide +kernel
theorem dX7_ofNode_35 : decode cX7_ofNode 35 = .ok (.getfield 10, 3) := by decide +kernel
theorem dX7_ofNode_38 : decode cX7_ofNode 38 = .ok (.iload_n 1, 1) := by decide +kernel
theorem dX7_ofNode_39 : decode cX7_ofNode 39 = .ok (.invokevirtual 136, 3) := by decide +kernel
theorem dX7_ofNode_42 : decode cX7_ofNode 42 = .ok (.ireturn, 1) := by decide +kernel
theorem dX7_ofNode_43 : decode cX7_ofNode 43 = .ok (.aload_n 3, 1) := by decide +kernel
theorem dX7_ofNode_44 : decode cX7_ofNode 44 = .ok (.iload_n 2, 1) := by decide +kernel
theorem dX7_ofNode_45 : decode cX7_ofNode 45 = .ok (.invokevirtual 139, 3) := by decide +kernel
theorem dX7_ofNode_48 : decode cX7_ofNode 48 = .ok (.ireturn, 1) := by decide +kernel
theorem dX7_ofBridge_0 : decode cX7_ofBridge 0 = .ok (.aload_n 0, 1) := by decide +kernel
theorem dX7_ofBridge_1 : decode cX7_ofBridge 1 = .ok (.getfield 10, 3) := by decide +kernel
theorem dX7_ofBridge_4 : decode cX7_ofBridge 4 = .ok (.iload_n 1, 1) := by decide +kernel
theorem dX7_ofBridge_5 : decode cX7_ofBridge 5 = .ok (.invokevirtual 97, 3) := by decide +kernel
theorem dX7_ofBridge_8 : decode cX7_ofBridge 8 = .ok (.astore_n 3, 1) := by decide +kernel
theorem dX7_ofBridge_9 : decode cX7_ofBridge 9 = .ok (.aload_n 3, 1) := by decide +kernel
theorem dX7_ofBridge_10 : decode cX7_ofBridge 10 = .ok (.ifnonnull 7, 3) := by decide +kernel
theorem dX7_ofBridge_13 : decode cX7_ofBridge 13 = .ok (.iconst (-1), 1) := by decide +kernel
theorem dX7_ofBridge_14 : decode cX7_ofBridge 14 = .ok (.goto 8, 3) := by decide +kernel
theorem dX7_ofBridge_17 : decode cX7_ofBridge 17 = .ok (.aload_n 3, 1) := by decide +kernel
theorem dX7_ofBridge_18 : decode cX7_ofBridge 18 = .ok (.iload_n 2, 1) := by decide +kernel
theorem dX7_ofBridge_19 : decode cX7_ofBridge 19 = .ok (.invokevirtual 142, 3) := by decide +kernel
theorem dX7_ofBridge_22 : decode cX7_ofBridge 22 = .ok (.ireturn, 1) := by decide +kernel
theorem dX7_ofParcel_0 : decode cX7_ofParcel 0 = .ok (.aload_n 0, 1) := by decide +kernel
theorem dX7_ofParcel_1 : decode cX7_ofParcel 1 = .ok (.getfield 10, 3) := by decide +kernel
theorem dX7_ofParcel_4 : decode cX7_ofParcel 4 = .ok (.iload_n 1, 1) := by decide +kernel
theorem dX7_ofParcel_5 : decode cX7_ofParcel 5 = .ok (.invokevirtual 143, 3) := by decide +kernel
theorem dX7_ofParcel_8 : decode cX7_ofParcel 8 = .ok (.astore_n 3, 1) := by decide +kernel
theorem dX7_ofParcel_9 : decode cX7_ofParcel 9 = .ok (.aload_n 3, 1) := by decide +kernel
theorem dX7_ofParcel_10 : decode cX7_ofParcel 10 = .ok (.ifnonnull 5, 3) := by decide +kernel
theorem dX7_ofParcel_13 : decode cX7_ofParcel 13 = .ok (.iconst (-1), 1) := by decide +kernel
theorem dX7_ofParcel_14 : decode cX7_ofParcel 14 = .ok (.ireturn, 1) := by decide +kernel
theorem dX7_ofParcel_15 : decode cX7_ofParcel 15 = .ok (.iload_n 2, 1) := by decide +kernel
theorem dX7_ofParcel_16 : decode cX7_ofParcel 16 = .ok (.bipush 7, 2) := by decide +kernel
theorem dX7_ofParcel_18 : decode cX7_ofParcel 18 = .ok (.if_icmp .ne 14, 3) := by decide +kernel
theorem dX7_ofParcel_21 : decode cX7_ofParcel 21 = .ok (.aload_n 0, 1) := by decide +kernel
theorem dX7_ofParcel_22 : decode cX7_ofParcel 22 = .ok (.getfield 10, 3) := by decide +kernel
theorem dX7_ofParcel_25 : decode cX7_ofParcel 25 = .ok (.iload_n 1, 1) := by decide +kernel
theorem dX7_ofParcel_26 : decode cX7_ofParcel 26 = .ok (.invokevirtual 147, 3) := by decide +kernel
theorem dX7_ofParcel_29 : decode cX7_ofParcel 29 = .ok (.goto 8, 3) := by decide +kernel
theorem dX7_ofParcel_32 : decode cX7_ofParcel 32 = .ok (.aload_n 3, 1) := by decide +kernel
theorem dX7_ofParcel_33 : decode cX7_ofParcel 33 = .ok (.iload_n 2, 1) := by decide +kernel
theorem dX7_ofParcel_34 : decode cX7_ofParcel 34 = .ok (.invokevirtual 150, 3) := by decide +kernel
theorem dX7_ofParcel_37 : decode cX7_ofParcel 37 = .ok (.ireturn, 1) := by decide +kernel
theorem dX7_byteAt_0 : decode cX7_byteAt 0 = .ok (.aload_n 0, 1) := by decide +kernel
theorem dX7_byteAt_1 : decode cX7_byteAt 1 = .ok (.getfield 10, 3) := by decide +kernel
theorem dX7_byteAt_4 : decode cX7_byteAt 4 = .ok (.iload_n 1, 1) := by decide +kernel
theorem dX7_byteAt_5 : decode cX7_byteAt 5 = .ok (.invokevirtual 143, 3) := by decide +kernel
theorem dX7_byteAt_8 : decode cX7_byteAt 8 = .ok (.astore_n 3, 1) := by decide +kernel
theorem dX7_byteAt_9 : decode cX7_byteAt 9 = .ok (.aload_n 3, 1) := by decide +kernel
theorem dX7_byteAt_10 : decode cX7_byteAt 10 = .ok (.ifnonnull 5, 3) := by decide +kernel
theorem dX7_byteAt_13 : decode cX7_byteAt 13 = .ok (.iconst (-1), 1) := by decide +kernel
theorem dX7_byteAt_14 : decode cX7_byteAt 14 = .ok (.ireturn, 1) := by decide +kernel
theorem dX7_byteAt_15 : decode cX7_byteAt 15 = .ok (.iload_n 2, 1) := by decide +kernel
theorem dX7_byteAt_16 : decode cX7_byteAt 16 = .ok (.iconst 0, 1) := by decide +kernel
theorem dX7_byteAt_17 : decode cX7_byteAt 17 = .ok (.sipush 3999, 3) := by decide +kernel
theorem dX7_byteAt_20 : decode cX7_byteAt 20 = .ok (.invokestatic 45, 3) := by decide +kernel
theorem dX7_byteAt_23 : decode cX7_byteAt 23 = .ok (.ifCond .ne 6, 3) := by decide +kernel
theorem dX7_byteAt_26 : decode cX7_byteAt 26 = .ok (.bipush (-2), 2) := by decide +kernel
theorem dX7_byteAt_28 : decode cX7_byteAt 28 = .ok (.ireturn, 1) := by decide +kernel
theorem dX7_byteAt_29 : decode cX7_byteAt 29 = .ok (.aload_n 3, 1) := by decide +kernel
theorem dX7_byteAt_30 : decode cX7_byteAt 30 = .ok (.iload_n 2, 1) := by decide +kernel
theorem dX7_byteAt_31 : decode cX7_byteAt 31 = .ok (.invokevirtual 153, 3) := by decide +kernel
theorem dX7_byteAt_34 : decode cX7_byteAt 34 = .ok (.ifCond .eq 13, 3) := by decide +kernel
theorem dX7_byteAt_37 : decode cX7_byteAt 37 = .ok (.aload_n 3, 1) := by decide +kernel
theorem dX7_byteAt_38 : decode cX7_byteAt 38 = .ok (.iload_n 2, 1) := by decide +kernel
theorem dX7_byteAt_39 : decode cX7_byteAt 39 = .ok (.invokevirtual 156, 3) := by decide +kernel
theorem dX7_byteAt_42 : decode cX7_byteAt 42 = .ok (.iconst 1, 1) := by decide +kernel
theorem dX7_byteAt_43 : decode cX7_byteAt 43 = .ok (.isub, 1) := by decide +kernel
theorem dX7_byteAt_44 : decode cX7_byteAt 44 = .ok (.goto 5, 3) := by decide +kernel
theorem dX7_byteAt_47 : decode cX7_byteAt 47 = .ok (.bipush (-6), 2) := by decide +kernel
theorem dX7_byteAt_49 : decode cX7_byteAt 49 = .ok (.ireturn, 1) := by decide +kernel
theorem dX7_count_0 : decode cX7_count 0 = .ok (.iload_n 1, 1) := by decide +kernel
theorem dX7_count_1 : decode cX7_count 1 = .ok (.bipush 7, 2) := by decide +kernel
theorem dX7_count_3 : decode cX7_count 3 = .ok (.if_icmp .ne 11, 3) := by decide +kernel
theorem dX7_count_6 : decode cX7_count 6 = .ok (.aload_n 0, 1) := by decide +kernel
theorem dX7_count_7 : decode cX7_count 7 = .ok (.getfield 37, 3) := by decide +kernel
theorem dX7_count_10 : decode cX7_count 10 = .ok (.getfield 159, 3) := by decide +kernel
theorem dX7_count_13 : decode cX7_count 13 = .ok (.ireturn, 1) := by decide +kernel
theorem dX7_count_14 : decode cX7_count 14 = .ok (.iload_n 1, 1) := by decide +kernel
theorem dX7_count_15 : decode cX7_count 15 = .ok (.bipush 8, 2) := by decide +kernel
theorem dX7_count_17 : decode cX7_count 17 = .ok (.if_icmp .ne 11, 3) := by decide +kernel
theorem dX7_count_20 : decode cX7_count 20 = .ok (.aload_n 0, 1) := by decide +kernel
theorem dX7_count_21 : decode cX7_count 21 = .ok (.getfield 22, 3) := by decide +kernel
theorem dX7_count_24 : decode cX7_count 24 = .ok (.getfield 162, 3) := by decide +kernel
theorem dX7_count_27 : decode cX7_count 27 = .ok (.ireturn, 1) := by decide +kernel
theorem dX7_count_28 : decode cX7_count 28 = .ok (.aload_n 0, 1) := by decide +kernel
theorem dX7_count_29 : decode cX7_count 29 = .ok (.getfield 10, 3) := by decide +kernel
theorem dX7_count_32 : decode cX7_count 32 = .ok (.iload_n 1, 1) := by decide +kernel
theorem dX7_count_33 : decode cX7_count 33 = .ok (.invokevirtual 165, 3) := by decide +kernel
theorem dX7_count_36 : decode cX7_count 36 = .ok (.ireturn, 1) := by decide +kernel
theorem dX7_leastRoom_0 : decode cX7_leastRoom 0 = .ok (.iload_n 1, 1) := by decide +kernel
theorem dX7_leastRoom_1 : decode cX7_leastRoom 1 = .ok (.iload_n 2, 1) := by decide +kernel
theorem dX7_leastRoom_2 : decode cX7_leastRoom 2 = .ok (.invokestatic 65, 3) := by decide +kernel
theorem dX7_leastRoom_5 : decode cX7_leastRoom 5 = .ok (.ifCond .ne 5, 3) := by decide +kernel
theorem dX7_leastRoom_8 : decode cX7_leastRoom 8 = .ok (.iconst (-1), 1) := by decide +kernel
theorem dX7_leastRoom_9 : decode cX7_leastRoom 9 = .ok (.ireturn, 1) := by decide +kernel
theorem dX7_leastRoom_10 : decode cX7_leastRoom 10 = .ok (.aload_n 0, 1) := by decide +kernel
theorem dX7_leastRoom_11 : decode cX7_leastRoom 11 = .ok (.getfield 10, 3) := by decide +kernel
theorem dX7_leastRoom_14 : decode cX7_leastRoom 14 = .ok (.iload_n 1, 1) := by decide +kernel
theorem dX7_leastRoom_15 : decode cX7_leastRoom 15 = .ok (.iload_n 2, 1) := by decide +kernel
theorem dX7_leastRoom_16 : decode cX7_leastRoom 16 = .ok (.invokevirtual 166, 3) := by decide +kernel
theorem dX7_leastRoom_19 : decode cX7_leastRoom 19 = .ok (.istore_n 3, 1) := by decide +kernel
theorem dX7_leastRoom_20 : decode cX7_leastRoom 20 = .ok (.iload_n 3, 1) := by decide +kernel
theorem dX7_leastRoom_21 : decode cX7_leastRoom 21 = .ok (.bipush (-6), 2) := by decide +kernel
theorem dX7_leastRoom_23 : decode cX7_leastRoom 23 = .ok (.if_icmp .ne 6, 3) := by decide +kernel
theorem dX7_leastRoom_26 : decode cX7_leastRoom 26 = .ok (.bipush (-6), 2) := by decide +kernel
theorem dX7_leastRoom_28 : decode cX7_leastRoom 28 = .ok (.ireturn, 1) := by decide +kernel
theorem dX7_leastRoom_29 : decode cX7_leastRoom 29 = .ok (.sipush 1500, 3) := by decide +kernel
theorem dX7_leastRoom_32 : decode cX7_leastRoom 32 = .ok (.istore 4, 2) := by decide +kernel
theorem dX7_leastRoom_34 : decode cX7_leastRoom 34 = .ok (.iconst 0, 1) := by decide +kernel
theorem dX7_leastRoom_35 : decode cX7_leastRoom 35 = .ok (.istore 5, 2) := by decide +kernel
theorem dX7_leastRoom_37 : decode cX7_leastRoom 37 = .ok (.iload 5, 2) := by decide +kernel
theorem dX7_leastRoom_39 : decode cX7_leastRoom 39 = .ok (.iload_n 3, 1) := by decide +kernel
theorem dX7_leastRoom_40 : decode cX7_leastRoom 40 = .ok (.if_icmp .ge 51, 3) := by decide +kernel
theorem dX7_leastRoom_43 : decode cX7_leastRoom 43 = .ok (.iload 5, 2) := by decide +kernel
theorem dX7_leastRoom_45 : decode cX7_leastRoom 45 = .ok (.aload_n 0, 1) := by decide +kernel
theorem dX7_leastRoom_46 : decode cX7_leastRoom 46 = .ok (.getfield 10, 3) := by decide +kernel
theorem dX7_leastRoom_49 : decode cX7_leastRoom 49 = .ok (.getfield 170, 3) := by decide +kernel
theorem dX7_leastRoom_52 : decode cX7_leastRoom 52 = .ok (.arraylength, 1) := by decide +kernel
theorem dX7_leastRoom_53 : decode cX7_leastRoom 53 = .ok (.if_icmp .ge 38, 3) := by decide +kernel
theorem dX7_leastRoom_56 : decode cX7_leastRoom 56 = .ok (.aload_n 0, 1) := by decide +kernel
theorem dX7_leastRoom_57 : decode cX7_leastRoom 57 = .ok (.getfield 10, 3) := by decide +kernel
theorem dX7_leastRoom_60 : decode cX7_leastRoom 60 = .ok (.getfield 170, 3) := by decide +kernel
theorem dX7_leastRoom_63 : decode cX7_leastRoom 63 = .ok (.iload 5, 2) := by decide +kernel
theorem dX7_leastRoom_65 : decode cX7_leastRoom 65 = .ok (.aaload, 1) := by decide +kernel
theorem dX7_leastRoom_66 : decode cX7_leastRoom 66 = .ok (.astore 6, 2) := by decide +kernel
theorem dX7_leastRoom_68 : decode cX7_leastRoom 68 = .ok (.aload 6, 2) := by decide +kernel
theorem dX7_leastRoom_70 : decode cX7_leastRoom 70 = .ok (.ifnull 15, 3) := by decide +kernel
theorem dX7_leastRoom_73 : decode cX7_leastRoom 73 = .ok (.iload 4, 2) := by decide +kernel
theorem dX7_leastRoom_75 : decode cX7_leastRoom 75 = .ok (.aload 6, 2) := by decide +kernel
theorem dX7_leastRoom_77 : decode cX7_leastRoom 77 = .ok (.getfield 88, 3) := by decide +kernel
theorem dX7_leastRoom_80 : decode cX7_leastRoom 80 = .ok (.invokestatic 173, 3) := by decide +kernel
theorem dX7_leastRoom_83 : decode cX7_leastRoom 83 = .ok (.istore 4, 2) := by decide +kernel
theorem dX7_leastRoom_85 : decode cX7_leastRoom 85 = .ok (.iinc 5 1, 3) := by decide +kernel
theorem dX7_leastRoom_88 : decode cX7_leastRoom 88 = .ok (.goto (-51), 3) := by decide +kernel
theorem dX7_leastRoom_91 : decode cX7_leastRoom 91 = .ok (.iload 4, 2) := by decide +kernel
theorem dX7_leastRoom_93 : decode cX7_leastRoom 93 = .ok (.ireturn, 1) := by decide +kernel
theorem dX7_slices_0 : decode cX7_slices 0 = .ok (.iload_n 1, 1) := by decide +kernel
theorem dX7_slices_1 : decode cX7_slices 1 = .ok (.iload_n 2, 1) := by decide +kernel
theorem dX7_slices_2 : decode cX7_slices 2 = .ok (.invokestatic 65, 3) := by decide +kernel
theorem dX7_slices_5 : decode cX7_slices 5 = .ok (.ifCond .ne 5, 3) := by decide +kernel
theorem dX7_slices_8 : decode cX7_slices 8 = .ok (.iconst (-1), 1) := by decide +kernel
theorem dX7_slices_9 : decode cX7_slices 9 = .ok (.ireturn, 1) := by decide +kernel
theorem dX7_slices_10 : decode cX7_slices 10 = .ok (.iload_n 3, 1) := by decide +kernel
theorem dX7_slices_11 : decode cX7_slices 11 = .ok (.iconst 1, 1) := by decide +kernel
theorem dX7_slices_12 : decode cX7_slices 12 = .ok (.sipush 4000, 3) := by decide +kernel
theorem dX7_slices_15 : decode cX7_slices 15 = .ok (.invokestatic 45, 3) := by decide +kernel
theorem dX7_slices_18 : decode cX7_slices 18 = .ok (.ifCond .ne 6, 3) := by decide +kernel
theorem dX7_slices_21 : decode cX7_slices 21 = .ok (.bipush (-2), 2) := by decide +kernel
theorem dX7_slices_23 : decode cX7_slices 23 = .ok (.ireturn, 1) := by decide +kernel
theorem dX7_slices_24 : decode cX7_slices 24 = .ok (.aload_n 0, 1) := by decide +kernel
theorem dX7_slices_25 : decode cX7_slices 25 = .ok (.getfield 10, 3) := by decide +kernel
theorem dX7_slices_28 : decode cX7_slices 28 = .ok (.iload_n 1, 1) := by decide +kernel
theorem dX7_slices_29 : decode cX7_slices 29 = .ok (.iload_n 2, 1) := by decide +kernel
theorem dX7_slices_30 : decode cX7_slices 30 = .ok (.invokevirtual 166, 3) := by decide +kernel
theorem dX7_slices_33 : decode cX7_slices 33 = .ok (.istore 4, 2) := by decide +kernel
theorem dX7_slices_35 : decode cX7_slices 35 = .ok (.iload 4, 2) := by decide +kernel
theorem dX7_slices_37 : decode cX7_slices 37 = .ok (.bipush (-6), 2) := by decide +kernel
theorem dX7_slices_39 : decode cX7_slices 39 = .ok (.if_icmp .ne 8, 3) := by decide +kernel
theorem dX7_slices_42 : decode cX7_slices 42 = .ok (.bipush (-6), 2) := by decide +kernel
theorem dX7_slices_44 : decode cX7_slices 44 = .ok (.goto 17, 3) := by decide +kernel
theorem dX7_slices_47 : decode cX7_slices 47 = .ok (.aload_n 0, 1) := by decide +kernel
theorem dX7_slices_48 : decode cX7_slices 48 = .ok (.getfield 10, 3) := by decide +kernel
theorem dX7_slices_51 : decode cX7_slices 51 = .ok (.getfield 170, 3) := by decide +kernel
theorem dX7_slices_54 : decode cX7_slices 54 = .ok (.iconst 0, 1) := by decide +kernel
theorem dX7_slices_55 : decode cX7_slices 55 = .ok (.iload 4, 2) := by decide +kernel
theorem dX7_slices_57 : decode cX7_slices 57 = .ok (.iload_n 3, 1) := by decide +kernel
theorem dX7_slices_58 : decode cX7_slices 58 = .ok (.invokestatic 178, 3) := by decide +kernel
theorem dX7_slices_61 : decode cX7_slices 61 = .ok (.ireturn, 1) := by decide +kernel
theorem dX7_time_0 : decode cX7_time 0 = .ok (.iload_n 1, 1) := by decide +kernel
theorem dX7_time_1 : decode cX7_time 1 = .ok (.iload_n 2, 1) := by decide +kernel
theorem dX7_time_2 : decode cX7_time 2 = .ok (.invokestatic 65, 3) := by decide +kernel
theorem dX7_time_5 : decode cX7_time 5 = .ok (.ifCond .ne 5, 3) := by decide +kernel
theorem dX7_time_8 : decode cX7_time 8 = .ok (.iconst (-1), 1) := by decide +kernel
theorem dX7_time_9 : decode cX7_time 9 = .ok (.ireturn, 1) := by decide +kernel
theorem dX7_time_10 : decode cX7_time 10 = .ok (.iload_n 3, 1) := by decide +kernel
theorem dX7_time_11 : decode cX7_time 11 = .ok (.iconst 1, 1) := by decide +kernel
theorem dX7_time_12 : decode cX7_time 12 = .ok (.sipush 4000, 3) := by decide +kernel
theorem dX7_time_15 : decode cX7_time 15 = .ok (.invokestatic 45, 3) := by decide +kernel
theorem dX7_time_18 : decode cX7_time 18 = .ok (.ifCond .ne 6, 3) := by decide +kernel
theorem dX7_time_21 : decode cX7_time 21 = .ok (.bipush (-2), 2) := by decide +kernel
theorem dX7_time_23 : decode cX7_time 23 = .ok (.ireturn, 1) := by decide +kernel
theorem dX7_time_24 : decode cX7_time 24 = .ok (.aload_n 0, 1) := by decide +kernel
theorem dX7_time_25 : decode cX7_time 25 = .ok (.getfield 10, 3) := by decide +kernel
theorem dX7_time_28 : decode cX7_time 28 = .ok (.iload_n 1, 1) := by decide +kernel
theorem dX7_time_29 : decode cX7_time 29 = .ok (.iload_n 2, 1) := by decide +kernel
theorem dX7_time_30 : decode cX7_time 30 = .ok (.invokevirtual 166, 3) := by decide +kernel
theorem dX7_time_33 : decode cX7_time 33 = .ok (.istore 4, 2) := by decide +kernel
theorem dX7_time_35 : decode cX7_time 35 = .ok (.iload 4, 2) := by decide +kernel
theorem dX7_time_37 : decode cX7_time 37 = .ok (.bipush (-6), 2) := by decide +kernel
theorem dX7_time_39 : decode cX7_time 39 = .ok (.if_icmp .ne 8, 3) := by decide +kernel
theorem dX7_time_42 : decode cX7_time 42 = .ok (.bipush (-6), 2) := by decide +kernel
theorem dX7_time_44 : decode cX7_time 44 = .ok (.goto 17, 3) := by decide +kernel
theorem dX7_time_47 : decode cX7_time 47 = .ok (.aload_n 0, 1) := by decide +kernel
theorem dX7_time_48 : decode cX7_time 48 = .ok (.getfield 10, 3) := by decide +kernel
theorem dX7_time_51 : decode cX7_time 51 = .ok (.getfield 170, 3) := by decide +kernel
theorem dX7_time_54 : decode cX7_time 54 = .ok (.iconst 0, 1) := by decide +kernel
theorem dX7_time_55 : decode cX7_time 55 = .ok (.iload 4, 2) := by decide +kernel
theorem dX7_time_57 : decode cX7_time 57 = .ok (.iload_n 3, 1) := by decide +kernel
theorem dX7_time_58 : decode cX7_time 58 = .ok (.invokestatic 182, 3) := by decide +kernel
theorem dX7_time_61 : decode cX7_time 61 = .ok (.ireturn, 1) := by decide +kernel
theorem dX7_stateIn_0 : decode cX7_stateIn 0 = .ok (.aload_n 0, 1) := by decide +kernel
theorem dX7_stateIn_1 : decode cX7_stateIn 1 = .ok (.getfield 10, 3) := by decide +kernel
theorem dX7_stateIn_4 : decode cX7_stateIn 4 = .ok (.iload_n 1, 1) := by decide +kernel
theorem dX7_stateIn_5 : decode cX7_stateIn 5 = .ok (.invokevirtual 143, 3) := by decide +kernel
theorem dX7_stateIn_8 : decode cX7_stateIn 8 = .ok (.astore_n 3, 1) := by decide +kernel
theorem dX7_stateIn_9 : decode cX7_stateIn 9 = .ok (.aload_n 3, 1) := by decide +kernel
theorem dX7_stateIn_10 : decode cX7_stateIn 10 = .ok (.ifnonnull 5, 3) := by decide +kernel
theorem dX7_stateIn_13 : decode cX7_stateIn 13 = .ok (.iconst (-1), 1) := by decide +kernel
theorem dX7_stateIn_14 : decode cX7_stateIn 14 = .ok (.ireturn, 1) := by decide +kernel
theorem dX7_stateIn_15 : decode cX7_stateIn 15 = .ok (.iload_n 2, 1) := by decide +kernel
theorem dX7_stateIn_16 : decode cX7_stateIn 16 = .ok (.invokestatic 122, 3) := by decide +kernel
theorem dX7_stateIn_19 : decode cX7_stateIn 19 = .ok (.ifCond .ne 6, 3) := by decide +kernel
theorem dX7_stateIn_22 : decode cX7_stateIn 22 = .ok (.bipush (-2), 2) := by decide +kernel
theorem dX7_stateIn_24 : decode cX7_stateIn 24 = .ok (.ireturn, 1) := by decide +kernel
theorem dX7_stateIn_25 : decode cX7_stateIn 25 = .ok (.aload_n 3, 1) := by decide +kernel
theorem dX7_stateIn_26 : decode cX7_stateIn 26 = .ok (.getfield 185, 3) := by decide +kernel
theorem dX7_stateIn_29 : decode cX7_stateIn 29 = .ok (.ifCond .eq 8, 3) := by decide +kernel
theorem dX7_stateIn_32 : decode cX7_stateIn 32 = .ok (.aload_n 3, 1) := by decide +kernel
theorem dX7_stateIn_33 : decode cX7_stateIn 33 = .ok (.getfield 185, 3) := by decide +kernel
theorem dX7_stateIn_36 : decode cX7_stateIn 36 = .ok (.ireturn, 1) := by decide +kernel
theorem dX7_stateIn_37 : decode cX7_stateIn 37 = .ok (.aload_n 0, 1) := by decide +kernel
theorem dX7_stateIn_38 : decode cX7_stateIn 38 = .ok (.iload_n 1, 1) := by decide +kernel
theorem dX7_stateIn_39 : decode cX7_stateIn 39 = .ok (.iload_n 2, 1) := by decide +kernel
theorem dX7_stateIn_40 : decode cX7_stateIn 40 = .ok (.invokevirtual 188, 3) := by decide +kernel
theorem dX7_stateIn_43 : decode cX7_stateIn 43 = .ok (.astore 4, 2) := by decide +kernel
theorem dX7_stateIn_45 : decode cX7_stateIn 45 = .ok (.aload 4, 2) := by decide +kernel
theorem dX7_stateIn_47 : decode cX7_stateIn 47 = .ok (.ifnonnull 7, 3) := by decide +kernel
theorem dX7_stateIn_50 : decode cX7_stateIn 50 = .ok (.iconst (-1), 1) := by decide +kernel
theorem dX7_stateIn_51 : decode cX7_stateIn 51 = .ok (.goto 8, 3) := by decide +kernel
theorem dX7_stateIn_54 : decode cX7_stateIn 54 = .ok (.aload 4, 2) := by decide +kernel
theorem dX7_stateIn_56 : decode cX7_stateIn 56 = .ok (.getfield 185, 3) := by decide +kernel
theorem dX7_stateIn_59 : decode cX7_stateIn 59 = .ok (.ireturn, 1) := by decide +kernel
theorem dX7_doneIn_0 : decode cX7_doneIn 0 = .ok (.aload_n 0, 1) := by decide +kernel
theorem dX7_doneIn_1 : decode cX7_doneIn 1 = .ok (.getfield 10, 3) := by decide +kernel
theorem dX7_doneIn_4 : decode cX7_doneIn 4 = .ok (.iload_n 1, 1) := by decide +kernel
theorem dX7_doneIn_5 : decode cX7_doneIn 5 = .ok (.invokevirtual 143, 3) := by decide +kernel
theorem dX7_doneIn_8 : decode cX7_doneIn 8 = .ok (.astore_n 2, 1) := by decide +kernel
theorem dX7_doneIn_9 : decode cX7_doneIn 9 = .ok (.aload_n 2, 1) := by decide +kernel
theorem dX7_doneIn_10 : decode cX7_doneIn 10 = .ok (.ifnonnull 5, 3) := by decide +kernel
theorem dX7_doneIn_13 : decode cX7_doneIn 13 = .ok (.iconst (-1), 1) := by decide +kernel
theorem dX7_doneIn_14 : decode cX7_doneIn 14 = .ok (.ireturn, 1) := by decide +kernel
theorem dX7_doneIn_15 : decode cX7_doneIn 15 = .ok (.aload_n 2, 1) := by decide +kernel
theorem dX7_doneIn_16 : decode cX7_doneIn 16 = .ok (.getfield 185, 3) := by decide +kernel
theorem dX7_doneIn_19 : decode cX7_doneIn 19 = .ok (.ifCond .eq 5, 3) := by decide +kernel
theorem dX7_doneIn_22 : decode cX7_doneIn 22 = .ok (.iconst 0, 1) := by decide +kernel
theorem dX7_doneIn_23 : decode cX7_doneIn 23 = .ok (.ireturn, 1) := by decide +kernel
theorem dX7_doneIn_24 : decode cX7_doneIn 24 = .ok (.aload_n 0, 1) := by decide +kernel
theorem dX7_doneIn_25 : decode cX7_doneIn 25 = .ok (.iload_n 1, 1) := by decide +kernel
theorem dX7_doneIn_26 : decode cX7_doneIn 26 = .ok (.sipush 1000, 3) := by decide +kernel
theorem dX7_doneIn_29 : decode cX7_doneIn 29 = .ok (.invokevirtual 188, 3) := by decide +kernel
theorem dX7_doneIn_32 : decode cX7_doneIn 32 = .ok (.astore_n 3, 1) := by decide +kernel
theorem dX7_doneIn_33 : decode cX7_doneIn 33 = .ok (.aload_n 3, 1) := by decide +kernel
theorem dX7_doneIn_34 : decode cX7_doneIn 34 = .ok (.ifnull 10, 3) := by decide +kernel
theorem dX7_doneIn_37 : decode cX7_doneIn 37 = .ok (.aload_n 3, 1) := by decide +kernel
theorem dX7_doneIn_38 : decode cX7_doneIn 38 = .ok (.getfield 185, 3) := by decide +kernel
theorem dX7_doneIn_41 : decode cX7_doneIn 41 = .ok (.ifCond .ne 8, 3) := by decide +kernel
theorem dX7_doneIn_44 : decode cX7_doneIn 44 = .ok (.bipush (-6), 2) := by decide +kernel
theorem dX7_doneIn_46 : decode cX7_doneIn 46 = .ok (.goto 17, 3) := by decide +kernel
theorem dX7_doneIn_49 : decode cX7_doneIn 49 = .ok (.aload_n 3, 1) := by decide +kernel
theorem dX7_doneIn_50 : decode cX7_doneIn 50 = .ok (.getfield 192, 3) := by decide +kernel
theorem dX7_doneIn_53 : decode cX7_doneIn 53 = .ok (.aload_n 0, 1) := by decide +kernel
theorem dX7_doneIn_54 : decode cX7_doneIn 54 = .ok (.getfield 10, 3) := by decide +kernel
theorem dX7_doneIn_57 : decode cX7_doneIn 57 = .ok (.getfield 129, 3) := by decide +kernel
theorem dX7_doneIn_60 : decode cX7_doneIn 60 = .ok (.isub, 1) := by decide +kernel
theorem dX7_doneIn_61 : decode cX7_doneIn 61 = .ok (.iconst 1, 1) := by decide +kernel
theorem dX7_doneIn_62 : decode cX7_doneIn 62 = .ok (.iadd, 1) := by decide +kernel
theorem dX7_doneIn_63 : decode cX7_doneIn 63 = .ok (.ireturn, 1) := by decide +kernel
theorem dX7_gap_0 : decode cX7_gap 0 = .ok (.aload_n 0, 1) := by decide +kernel
theorem dX7_gap_1 : decode cX7_gap 1 = .ok (.getfield 10, 3) := by decide +kernel
theorem dX7_gap_4 : decode cX7_gap 4 = .ok (.iload_n 1, 1) := by decide +kernel
theorem dX7_gap_5 : decode cX7_gap 5 = .ok (.invokevirtual 143, 3) := by decide +kernel
theorem dX7_gap_8 : decode cX7_gap 8 = .ok (.astore_n 3, 1) := by decide +kernel
theorem dX7_gap_9 : decode cX7_gap 9 = .ok (.aload_n 3, 1) := by decide +kernel
theorem dX7_gap_10 : decode cX7_gap 10 = .ok (.ifnonnull 5, 3) := by decide +kernel
theorem dX7_gap_13 : decode cX7_gap 13 = .ok (.iconst (-1), 1) := by decide +kernel
theorem dX7_gap_14 : decode cX7_gap 14 = .ok (.ireturn, 1) := by decide +kernel
theorem dX7_gap_15 : decode cX7_gap 15 = .ok (.iload_n 2, 1) := by decide +kernel
theorem dX7_gap_16 : decode cX7_gap 16 = .ok (.iconst 0, 1) := by decide +kernel
theorem dX7_gap_17 : decode cX7_gap 17 = .ok (.iconst 1, 1) := by decide +kernel
theorem dX7_gap_18 : decode cX7_gap 18 = .ok (.invokestatic 45, 3) := by decide +kernel
theorem dX7_gap_21 : decode cX7_gap 21 = .ok (.ifCond .ne 6, 3) := by decide +kernel
theorem dX7_gap_24 : decode cX7_gap 24 = .ok (.bipush (-2), 2) := by decide +kernel
theorem dX7_gap_26 : decode cX7_gap 26 = .ok (.ireturn, 1) := by decide +kernel
theorem dX7_gap_27 : decode cX7_gap 27 = .ok (.aload_n 3, 1) := by decide +kernel
theorem dX7_gap_28 : decode cX7_gap 28 = .ok (.getfield 195, 3) := by decide +kernel
theorem dX7_gap_31 : decode cX7_gap 31 = .ok (.ifCond .ne 6, 3) := by decide +kernel
theorem dX7_gap_34 : decode cX7_gap 34 = .ok (.bipush (-6), 2) := by decide +kernel
theorem dX7_gap_36 : decode cX7_gap 36 = .ok (.ireturn, 1) := by decide +kernel
theorem dX7_gap_37 : decode cX7_gap 37 = .ok (.iload_n 2, 1) := by decide +kernel
theorem dX7_gap_38 : decode cX7_gap 38 = .ok (.ifCond .ne 10, 3) := by decide +kernel
theorem dX7_gap_41 : decode cX7_gap 41 = .ok (.aload_n 3, 1) := by decide +kernel
theorem dX7_gap_42 : decode cX7_gap 42 = .ok (.invokevirtual 198, 3) := by decide +kernel
theorem dX7_gap_45 : decode cX7_gap 45 = .ok (.goto 7, 3) := by decide +kernel
theorem dX7_gap_48 : decode cX7_gap 48 = .ok (.aload_n 3, 1) := by decide +kernel
theorem dX7_gap_49 : decode cX7_gap 49 = .ok (.invokevirtual 202, 3) := by decide +kernel
theorem dX7_gap_52 : decode cX7_gap 52 = .ok (.ireturn, 1) := by decide +kernel
theorem dX7_put_0 : decode cX7_put 0 = .ok (.aload_n 0, 1) := by decide +kernel
theorem dX7_put_1 : decode cX7_put 1 = .ok (.getfield 37, 3) := by decide +kernel
theorem dX7_put_4 : decode cX7_put 4 = .ok (.lload_n 1, 1) := by decide +kernel
theorem dX7_put_5 : decode cX7_put 5 = .ok (.invokevirtual 205, 3) := by decide +kernel
theorem dX7_put_8 : decode cX7_put 8 = .ok (.ireturn, 1) := by decide +kernel
theorem dX7_wipe_0 : decode cX7_wipe 0 = .ok (.aload_n 0, 1) := by decide +kernel
theorem dX7_wipe_1 : decode cX7_wipe 1 = .ok (.getfield 37, 3) := by decide +kernel
theorem dX7_wipe_4 : decode cX7_wipe 4 = .ok (.getfield 159, 3) := by decide +kernel
theorem dX7_wipe_7 : decode cX7_wipe 7 = .ok (.istore_n 1, 1) := by decide +kernel
theorem dX7_wipe_8 : decode cX7_wipe 8 = .ok (.aload_n 0, 1) := by decide +kernel
theorem dX7_wipe_9 : decode cX7_wipe 9 = .ok (.getfield 37, 3) := by decide +kernel
theorem dX7_wipe_12 : decode cX7_wipe 12 = .ok (.iconst 0, 1) := by decide +kernel
theorem dX7_wipe_13 : decode cX7_wipe 13 = .ok (.putfield 159, 3) := by decide +kernel
theorem dX7_wipe_16 : decode cX7_wipe 16 = .ok (.iload_n 1, 1) := by decide +kernel
theorem dX7_wipe_17 : decode cX7_wipe 17 = .ok (.ireturn, 1) := by decide +kernel
theorem dX7_fault_0 : decode cX7_fault 0 = .ok (.aload_n 0, 1) := by decide +kernel
theorem dX7_fault_1 : decode cX7_fault 1 = .ok (.getfield 37, 3) := by decide +kernel
theorem dX7_fault_4 : decode cX7_fault 4 = .ok (.invokevirtual 209, 3) := by decide +kernel
theorem dX7_fault_7 : decode cX7_fault 7 = .ok (.ireturn, 1) := by decide +kernel
theorem dX7_carryOut_0 : decode cX7_carryOut 0 = .ok (.aload_n 0, 1) := by decide +kernel
theorem dX7_carryOut_1 : decode cX7_carryOut 1 = .ok (.getfield 37, 3) := by decide +kernel
theorem dX7_carryOut_4 : decode cX7_carryOut 4 = .ok (.invokevirtual 209, 3) := by decide +kernel
theorem dX7_carryOut_7 : decode cX7_carryOut 7 = .ok (.bipush (-6), 2) := by decide +kernel
theorem dX7_carryOut_9 : decode cX7_carryOut 9 = .ok (.if_icmp .eq 6, 3) := by decide +kernel
theorem dX7_carryOut_12 : decode cX7_carryOut 12 = .ok (.bipush (-3), 2) := by decide +kernel
theorem dX7_carryOut_14 : decode cX7_carryOut 14 = .ok (.ireturn, 1) := by decide +kernel
theorem dX7_carryOut_15 : decode cX7_carryOut 15 = .ok (.aload_n 0, 1) := by decide +kernel
theorem dX7_carryOut_16 : decode cX7_carryOut 16 = .ok (.getfield 22, 3) := by decide +kernel
theorem dX7_carryOut_19 : decode cX7_carryOut 19 = .ok (.aload_n 0, 1) := by decide +kernel
theorem dX7_carryOut_20 : decode cX7_carryOut 20 = .ok (.getfield 10, 3) := by decide +kernel
theorem dX7_carryOut_23 : decode cX7_carryOut 23 = .ok (.invokevirtual 49, 3) := by decide +kernel
theorem dX7_carryOut_26 : decode cX7_carryOut 26 = .ok (.iconst 0, 1) := by decide +kernel
theorem dX7_carryOut_27 : decode cX7_carryOut 27 = .ok (.istore_n 1, 1) := by decide +kernel
theorem dX7_carryOut_28 : decode cX7_carryOut 28 = .ok (.aload_n 0, 1) := by decide +kernel
theorem dX7_carryOut_29 : decode cX7_carryOut 29 = .ok (.getfield 37, 3) := by decide +kernel
theorem dX7_carryOut_32 : decode cX7_carryOut 32 = .ok (.iconst 0, 1) := by decide +kernel
theorem dX7_carryOut_33 : decode cX7_carryOut 33 = .ok (.putfield 212, 3) := by decide +kernel
theorem dX7_carryOut_36 : decode cX7_carryOut 36 = .ok (.iconst 0, 1) := by decide +kernel
theorem dX7_carryOut_37 : decode cX7_carryOut 37 = .ok (.istore_n 2, 1) := by decide +kernel
theorem dX7_carryOut_38 : decode cX7_carryOut 38 = .ok (.iload_n 2, 1) := by decide +kernel
theorem dX7_carryOut_39 : decode cX7_carryOut 39 = .ok (.aload_n 0, 1) := by decide +kernel
theorem dX7_carryOut_40 : decode cX7_carryOut 40 = .ok (.getfield 37, 3) := by decide +kernel
theorem dX7_carryOut_43 : decode cX7_carryOut 43 = .ok (.getfield 159, 3) := by decide +kernel
theorem dX7_carryOut_46 : decode cX7_carryOut 46 = .ok (.if_icmp .ge 56, 3) := by decide +kernel
theorem dX7_carryOut_49 : decode cX7_carryOut 49 = .ok (.aload_n 0, 1) := by decide +kernel
theorem dX7_carryOut_50 : decode cX7_carryOut 50 = .ok (.getfield 37, 3) := by decide +kernel
theorem dX7_carryOut_53 : decode cX7_carryOut 53 = .ok (.getfield 212, 3) := by decide +kernel
theorem dX7_carryOut_56 : decode cX7_carryOut 56 = .ok (.aload_n 0, 1) := by decide +kernel
theorem dX7_carryOut_57 : decode cX7_carryOut 57 = .ok (.getfield 37, 3) := by decide +kernel
theorem dX7_carryOut_60 : decode cX7_carryOut 60 = .ok (.getfield 159, 3) := by decide +kernel
theorem dX7_carryOut_63 : decode cX7_carryOut 63 = .ok (.if_icmp .ge 39, 3) := by decide +kernel
theorem dX7_carryOut_66 : decode cX7_carryOut 66 = .ok (.aload_n 0, 1) := by decide +kernel
theorem dX7_carryOut_67 : decode cX7_carryOut 67 = .ok (.getfield 37, 3) := by decide +kernel
theorem dX7_carryOut_70 : decode cX7_carryOut 70 = .ok (.invokevirtual 215, 3) := by decide +kernel
theorem dX7_carryOut_73 : decode cX7_carryOut 73 = .ok (.ifCond .eq 29, 3) := by decide +kernel
theorem dX7_carryOut_76 : decode cX7_carryOut 76 = .ok (.aload_n 0, 1) := by decide +kernel
theorem dX7_carryOut_77 : decode cX7_carryOut 77 = .ok (.getfield 10, 3) := by decide +kernel
theorem dX7_carryOut_80 : decode cX7_carryOut 80 = .ok (.aload_n 0, 1) := by decide +kernel
theorem dX7_carryOut_81 : decode cX7_carryOut 81 = .ok (.getfield 37, 3) := by decide +kernel
theorem dX7_carryOut_84 : decode cX7_carryOut 84 = .ok (.invokevirtual 219, 3) := by decide +kernel
theorem dX7_carryOut_87 : decode cX7_carryOut 87 = .ok (.ifCond .ne 6, 3) := by decide +kernel
theorem dX7_carryOut_90 : decode cX7_carryOut 90 = .ok (.goto 12, 3) := by decide +kernel
theorem dX7_carryOut_93 : decode cX7_carryOut 93 = .ok (.iinc 1 1, 3) := by decide +kernel
theorem dX7_carryOut_96 : decode cX7_carryOut 96 = .ok (.iinc 2 1, 3) := by decide +kernel
theorem dX7_carryOut_99 : decode cX7_carryOut 99 = .ok (.goto (-61), 3) := by decide +kernel
theorem dX7_carryOut_102 : decode cX7_carryOut 102 = .ok (.aload_n 0, 1) := by decide +kernel
theorem dX7_carryOut_103 : decode cX7_carryOut 103 = .ok (.getfield 37, 3) := by decide +kernel
theorem dX7_carryOut_106 : decode cX7_carryOut 106 = .ok (.iconst 0, 1) := by decide +kernel
theorem dX7_carryOut_107 : decode cX7_carryOut 107 = .ok (.putfield 159, 3) := by decide +kernel
theorem dX7_carryOut_110 : decode cX7_carryOut 110 = .ok (.iload_n 1, 1) := by decide +kernel
theorem dX7_carryOut_111 : decode cX7_carryOut 111 = .ok (.ireturn, 1) := by decide +kernel
theorem dX7_undo_0 : decode cX7_undo 0 = .ok (.aload_n 0, 1) := by decide +kernel
theorem dX7_undo_1 : decode cX7_undo 1 = .ok (.getfield 22, 3) := by decide +kernel
theorem dX7_undo_4 : decode cX7_undo 4 = .ok (.aload_n 0, 1) := by decide +kernel
theorem dX7_undo_5 : decode cX7_undo 5 = .ok (.getfield 10, 3) := by decide +kernel
theorem dX7_undo_8 : decode cX7_undo 8 = .ok (.invokevirtual 223, 3) := by decide +kernel
theorem dX7_undo_11 : decode cX7_undo 11 = .ok (.ifCond .eq 13, 3) := by decide +kernel
theorem dX7_undo_14 : decode cX7_undo 14 = .ok (.aload_n 0, 1) := by decide +kernel
theorem dX7_undo_15 : decode cX7_undo 15 = .ok (.getfield 22, 3) := by decide +kernel
theorem dX7_undo_18 : decode cX7_undo 18 = .ok (.getfield 162, 3) := by decide +kernel
theorem dX7_undo_21 : decode cX7_undo 21 = .ok (.goto 5, 3) := by decide +kernel
theorem dX7_undo_24 : decode cX7_undo 24 = .ok (.bipush (-5), 2) := by decide +kernel
theorem dX7_undo_26 : decode cX7_undo 26 = .ok (.ireturn, 1) := by decide +kernel
theorem dX7_save_0 : decode cX7_save 0 = .ok (.iload_n 1, 1) := by decide +kernel
theorem dX7_save_1 : decode cX7_save 1 = .ok (.iconst 0, 1) := by decide +kernel
theorem dX7_save_2 : decode cX7_save 2 = .ok (.iconst 1, 1) := by decide +kernel
theorem dX7_save_3 : decode cX7_save 3 = .ok (.invokestatic 45, 3) := by decide +kernel
theorem dX7_save_6 : decode cX7_save 6 = .ok (.ifCond .ne 6, 3) := by decide +kernel
theorem dX7_save_9 : decode cX7_save 9 = .ok (.bipush (-2), 2) := by decide +kernel
theorem dX7_save_11 : decode cX7_save 11 = .ok (.ireturn, 1) := by decide +kernel
theorem dX7_save_12 : decode cX7_save 12 = .ok (.aload_n 0, 1) := by decide +kernel
theorem dX7_save_13 : decode cX7_save 13 = .ok (.getfield 26, 3) := by decide +kernel
theorem dX7_save_16 : decode cX7_save 16 = .ok (.iload_n 1, 1) := by decide +kernel
theorem dX7_save_17 : decode cX7_save 17 = .ok (.aaload, 1) := by decide +kernel
theorem dX7_save_18 : decode cX7_save 18 = .ok (.aload_n 0, 1) := by decide +kernel
theorem dX7_save_19 : decode cX7_save 19 = .ok (.getfield 10, 3) := by decide +kernel
theorem dX7_save_22 : decode cX7_save 22 = .ok (.invokevirtual 227, 3) := by decide +kernel
theorem dX7_save_25 : decode cX7_save 25 = .ok (.aload_n 0, 1) := by decide +kernel
theorem dX7_save_26 : decode cX7_save 26 = .ok (.getfield 30, 3) := by decide +kernel
theorem dX7_save_29 : decode cX7_save 29 = .ok (.iload_n 1, 1) := by decide +kernel
theorem dX7_save_30 : decode cX7_save 30 = .ok (.iconst 1, 1) := by decide +kernel
theorem dX7_save_31 : decode cX7_save 31 = .ok (.bastore, 1) := by decide +kernel
theorem dX7_save_32 : decode cX7_save 32 = .ok (.aload_n 0, 1) := by decide +kernel
theorem dX7_save_33 : decode cX7_save 33 = .ok (.getfield 10, 3) := by decide +kernel
theorem dX7_save_36 : decode cX7_save 36 = .ok (.getfield 129, 3) := by decide +kernel
theorem dX7_save_39 : decode cX7_save 39 = .ok (.ireturn, 1) := by decide +kernel
theorem dX7_restore_0 : decode cX7_restore 0 = .ok (.iload_n 1, 1) := by decide +kernel
theorem dX7_restore_1 : decode cX7_restore 1 = .ok (.iconst 0, 1) := by decide +kernel
theorem dX7_restore_2 : decode cX7_restore 2 = .ok (.iconst 1, 1) := by decide +kernel
theorem dX7_restore_3 : decode cX7_restore 3 = .ok (.invokestatic 45, 3) := by decide +kernel
theorem dX7_restore_6 : decode cX7_restore 6 = .ok (.ifCond .ne 6, 3) := by decide +kernel
theorem dX7_restore_9 : decode cX7_restore 9 = .ok (.bipush (-2), 2) := by decide +kernel
theorem dX7_restore_11 : decode cX7_restore 11 = .ok (.ireturn, 1) := by decide +kernel
theorem dX7_restore_12 : decode cX7_restore 12 = .ok (.aload_n 0, 1) := by decide +kernel
theorem dX7_restore_13 : decode cX7_restore 13 = .ok (.getfield 30, 3) := by decide +kernel
theorem dX7_restore_16 : decode cX7_restore 16 = .ok (.iload_n 1, 1) := by decide +kernel
theorem dX7_restore_17 : decode cX7_restore 17 = .ok (.baload, 1) := by decide +kernel
theorem dX7_restore_18 : decode cX7_restore 18 = .ok (.ifCond .ne 6, 3) := by decide +kernel
theorem dX7_restore_21 : decode cX7_restore 21 = .ok (.bipush (-5), 2) := by decide +kernel
theorem dX7_restore_23 : decode cX7_restore 23 = .ok (.ireturn, 1) := by decide +kernel
theorem dX7_restore_24 : decode cX7_restore 24 = .ok (.aload_n 0, 1) := by decide +kernel
theorem dX7_restore_25 : decode cX7_restore 25 = .ok (.getfield 22, 3) := by decide +kernel
theorem dX7_restore_28 : decode cX7_restore 28 = .ok (.aload_n 0, 1) := by decide +kernel
theorem dX7_restore_29 : decode cX7_restore 29 = .ok (.getfield 10, 3) := by decide +kernel
theorem dX7_restore_32 : decode cX7_restore 32 = .ok (.invokevirtual 49, 3) := by decide +kernel
theorem dX7_restore_35 : decode cX7_restore 35 = .ok (.aload_n 0, 1) := by decide +kernel
theorem dX7_restore_36 : decode cX7_restore 36 = .ok (.getfield 10, 3) := by decide +kernel
theorem dX7_restore_39 : decode cX7_restore 39 = .ok (.aload_n 0, 1) := by decide +kernel
theorem dX7_restore_40 : decode cX7_restore 40 = .ok (.getfield 26, 3) := by decide +kernel
theorem dX7_restore_43 : decode cX7_restore 43 = .ok (.iload_n 1, 1) := by decide +kernel
theorem dX7_restore_44 : decode cX7_restore 44 = .ok (.aaload, 1) := by decide +kernel
theorem dX7_restore_45 : decode cX7_restore 45 = .ok (.invokevirtual 227, 3) := by decide +kernel
theorem dX7_restore_48 : decode cX7_restore 48 = .ok (.aload_n 0, 1) := by decide +kernel
theorem dX7_restore_49 : decode cX7_restore 49 = .ok (.getfield 10, 3) := by decide +kernel
theorem dX7_restore_52 : decode cX7_restore 52 = .ok (.getfield 129, 3) := by decide +kernel
theorem dX7_restore_55 : decode cX7_restore 55 = .ok (.ireturn, 1) := by decide +kernel
theorem dX7_isWithin_0 : decode cX7_isWithin 0 = .ok (.iload_n 0, 1) := by decide +kernel
theorem dX7_isWithin_1 : decode cX7_isWithin 1 = .ok (.iload_n 1, 1) := by decide +kernel
theorem dX7_isWithin_2 : decode cX7_isWithin 2 = .ok (.if_icmp .lt 12, 3) := by decide +kernel
theorem dX7_isWithin_5 : decode cX7_isWithin 5 = .ok (.iload_n 0, 1) := by decide +kernel
theorem dX7_isWithin_6 : decode cX7_isWithin 6 = .ok (.iload_n 2, 1) := by decide +kernel
theorem dX7_isWithin_7 : decode cX7_isWithin 7 = .ok (.if_icmp .gt 7, 3) := by decide +kernel
theorem dX7_isWithin_10 : decode cX7_isWithin 10 = .ok (.iconst 1, 1) := by decide +kernel
theorem dX7_isWithin_11 : decode cX7_isWithin 11 = .ok (.goto 4, 3) := by decide +kernel
theorem dX7_isWithin_14 : decode cX7_isWithin 14 = .ok (.iconst 0, 1) := by decide +kernel
theorem dX7_isWithin_15 : decode cX7_isWithin 15 = .ok (.ireturn, 1) := by decide +kernel
theorem dX7_isPair_0 : decode cX7_isPair 0 = .ok (.iload_n 0, 1) := by decide +kernel
theorem dX7_isPair_1 : decode cX7_isPair 1 = .ok (.iconst 0, 1) := by decide +kernel
theorem dX7_isPair_2 : decode cX7_isPair 2 = .ok (.bipush 7, 2) := by decide +kernel
theorem dX7_isPair_4 : decode cX7_isPair 4 = .ok (.invokestatic 45, 3) := by decide +kernel
theorem dX7_isPair_7 : decode cX7_isPair 7 = .ok (.ifCond .eq 22, 3) := by decide +kernel
theorem dX7_isPair_10 : decode cX7_isPair 10 = .ok (.iload_n 1, 1) := by decide +kernel
theorem dX7_isPair_11 : decode cX7_isPair 11 = .ok (.iconst 0, 1) := by decide +kernel
theorem dX7_isPair_12 : decode cX7_isPair 12 = .ok (.bipush 7, 2) := by decide +kernel
theorem dX7_isPair_14 : decode cX7_isPair 14 = .ok (.invokestatic 45, 3) := by decide +kernel
theorem dX7_isPair_17 : decode cX7_isPair 17 = .ok (.ifCond .eq 12, 3) := by decide +kernel
theorem dX7_isPair_20 : decode cX7_isPair 20 = .ok (.iload_n 0, 1) := by decide +kernel
theorem dX7_isPair_21 : decode cX7_isPair 21 = .ok (.iload_n 1, 1) := by decide +kernel
theorem dX7_isPair_22 : decode cX7_isPair 22 = .ok (.if_icmp .eq 7, 3) := by decide +kernel
theorem dX7_isPair_25 : decode cX7_isPair 25 = .ok (.iconst 1, 1) := by decide +kernel
theorem dX7_isPair_26 : decode cX7_isPair 26 = .ok (.goto 4, 3) := by decide +kernel
theorem dX7_isPair_29 : decode cX7_isPair 29 = .ok (.iconst 0, 1) := by decide +kernel
theorem dX7_isPair_30 : decode cX7_isPair 30 = .ok (.ireturn, 1) := by decide +kernel
theorem dX7_isRoom_0 : decode cX7_isRoom 0 = .ok (.iload_n 0, 1) := by decide +kernel
theorem dX7_isRoom_1 : decode cX7_isRoom 1 = .ok (.bipush 16, 2) := by decide +kernel
theorem dX7_isRoom_3 : decode cX7_isRoom 3 = .ok (.sipush 1500, 3) := by decide +kernel
theorem dX7_isRoom_6 : decode cX7_isRoom 6 = .ok (.invokestatic 45, 3) := by decide +kernel
theorem dX7_isRoom_9 : decode cX7_isRoom 9 = .ok (.ireturn, 1) := by decide +kernel
theorem dX7_isTicks_0 : decode cX7_isTicks 0 = .ok (.iload_n 0, 1) := by decide +kernel
theorem dX7_isTicks_1 : decode cX7_isTicks 1 = .ok (.iconst 1, 1) := by decide +kernel
theorem dX7_isTicks_2 : decode cX7_isTicks 2 = .ok (.sipush 500, 3) := by decide +kernel
theorem dX7_isTicks_5 : decode cX7_isTicks 5 = .ok (.invokestatic 45, 3) := by decide +kernel
theorem dX7_isTicks_8 : decode cX7_isTicks 8 = .ok (.ireturn, 1) := by decide +kernel
theorem dX7_byteOf_0 : decode cX7_byteOf 0 = .ok (.iload_n 0, 1) := by decide +kernel
theorem dX7_byteOf_1 : decode cX7_byteOf 1 = .ok (.bipush 31, 2) := by decide +kernel
theorem dX7_byteOf_3 : decode cX7_byteOf 3 = .ok (.imul, 1) := by decide +kernel
theorem dX7_byteOf_4 : decode cX7_byteOf 4 = .ok (.iload_n 1, 1) := by decide +kernel
theorem dX7_byteOf_5 : decode cX7_byteOf 5 = .ok (.bipush 7, 2) := by decide +kernel
theorem dX7_byteOf_7 : decode cX7_byteOf 7 = .ok (.imul, 1) := by decide +kernel
theorem dX7_byteOf_8 : decode cX7_byteOf 8 = .ok (.iadd, 1) := by decide +kernel
theorem dX7_byteOf_9 : decode cX7_byteOf 9 = .ok (.iload_n 1, 1) := by decide +kernel
theorem dX7_byteOf_10 : decode cX7_byteOf 10 = .ok (.sipush 256, 3) := by decide +kernel
theorem dX7_byteOf_13 : decode cX7_byteOf 13 = .ok (.idiv, 1) := by decide +kernel
theorem dX7_byteOf_14 : decode cX7_byteOf 14 = .ok (.iadd, 1) := by decide +kernel
theorem dX7_byteOf_15 : decode cX7_byteOf 15 = .ok (.sipush 255, 3) := by decide +kernel
theorem dX7_byteOf_18 : decode cX7_byteOf 18 = .ok (.iand, 1) := by decide +kernel
theorem dX7_byteOf_19 : decode cX7_byteOf 19 = .ok (.ireturn, 1) := by decide +kernel
theorem dX7_foresee_0 : decode cX7_foresee 0 = .ok (.aload_n 0, 1) := by decide +kernel
theorem dX7_foresee_1 : decode cX7_foresee 1 = .ok (.getfield 16, 3) := by decide +kernel
theorem dX7_foresee_4 : decode cX7_foresee 4 = .ok (.aload_n 0, 1) := by decide +kernel
theorem dX7_foresee_5 : decode cX7_foresee 5 = .ok (.getfield 10, 3) := by decide +kernel
theorem dX7_foresee_8 : decode cX7_foresee 8 = .ok (.invokevirtual 227, 3) := by decide +kernel
theorem dX7_foresee_11 : decode cX7_foresee 11 = .ok (.aload_n 0, 1) := by decide +kernel
theorem dX7_foresee_12 : decode cX7_foresee 12 = .ok (.getfield 16, 3) := by decide +kernel
theorem dX7_foresee_15 : decode cX7_foresee 15 = .ok (.iload_n 2, 1) := by decide +kernel
theorem dX7_foresee_16 : decode cX7_foresee 16 = .ok (.invokevirtual 125, 3) := by decide +kernel
theorem dX7_foresee_19 : decode cX7_foresee 19 = .ok (.aload_n 0, 1) := by decide +kernel
theorem dX7_foresee_20 : decode cX7_foresee 20 = .ok (.getfield 16, 3) := by decide +kernel
theorem dX7_foresee_23 : decode cX7_foresee 23 = .ok (.iload_n 1, 1) := by decide +kernel
theorem dX7_foresee_24 : decode cX7_foresee 24 = .ok (.invokevirtual 143, 3) := by decide +kernel
theorem dX7_foresee_27 : decode cX7_foresee 27 = .ok (.areturn, 1) := by decide +kernel
theorem dX7_slicesBehind_0 : decode cX7_slicesBehind 0 = .ok (.iload_n 1, 1) := by decide +kernel
theorem dX7_slicesBehind_1 : decode cX7_slicesBehind 1 = .ok (.iload_n 2, 1) := by decide +kernel
theorem dX7_slicesBehind_2 : decode cX7_slicesBehind 2 = .ok (.if_icmp .ge 15, 3) := by decide +kernel
theorem dX7_slicesBehind_5 : decode cX7_slicesBehind 5 = .ok (.iload_n 1, 1) := by decide +kernel
theorem dX7_slicesBehind_6 : decode cX7_slicesBehind 6 = .ok (.aload_n 0, 1) := by decide +kernel
theorem dX7_slicesBehind_7 : decode cX7_slicesBehind 7 = .ok (.arraylength, 1) := by decide +kernel
theorem dX7_slicesBehind_8 : decode cX7_slicesBehind 8 = .ok (.if_icmp .ge 9, 3) := by decide +kernel
theorem dX7_slicesBehind_11 : decode cX7_slicesBehind 11 = .ok (.aload_n 0, 1) := by decide +kernel
theorem dX7_slicesBehind_12 : decode cX7_slicesBehind 12 = .ok (.iload_n 1, 1) := by decide +kernel
theorem dX7_slicesBehind_13 : decode cX7_slicesBehind 13 = .ok (.aaload, 1) := by decide +kernel
theorem dX7_slicesBehind_14 : decode cX7_slicesBehind 14 = .ok (.goto 4, 3) := by decide +kernel
theorem dX7_slicesBehind_17 : decode cX7_slicesBehind 17 = .ok (.aconst_null, 1) := by decide +kernel
theorem dX7_slicesBehind_18 : decode cX7_slicesBehind 18 = .ok (.astore 4, 2) := by decide +kernel
theorem dX7_slicesBehind_20 : decode cX7_slicesBehind 20 = .ok (.aload 4, 2) := by decide +kernel
theorem dX7_slicesBehind_22 : decode cX7_slicesBehind 22 = .ok (.ifnonnull 5, 3) := by decide +kernel
theorem dX7_slicesBehind_25 : decode cX7_slicesBehind 25 = .ok (.iconst 1, 1) := by decide +kernel
theorem dX7_slicesBehind_26 : decode cX7_slicesBehind 26 = .ok (.ireturn, 1) := by decide +kernel
theorem dX7_slicesBehind_27 : decode cX7_slicesBehind 27 = .ok (.aload 4, 2) := by decide +kernel
theorem dX7_slicesBehind_29 : decode cX7_slicesBehind 29 = .ok (.iload_n 3, 1) := by decide +kernel
theorem dX7_slicesBehind_30 : decode cX7_slicesBehind 30 = .ok (.invokevirtual 230, 3) := by decide +kernel
theorem dX7_slicesBehind_33 : decode cX7_slicesBehind 33 = .ok (.istore 5, 2) := by decide +kernel
theorem dX7_slicesBehind_35 : decode cX7_slicesBehind 35 = .ok (.iload 5, 2) := by decide +kernel
theorem dX7_slicesBehind_37 : decode cX7_slicesBehind 37 = .ok (.ifCond .ne 13, 3) := by decide +kernel
theorem dX7_slicesBehind_40 : decode cX7_slicesBehind 40 = .ok (.aload_n 0, 1) := by decide +kernel
theorem dX7_slicesBehind_41 : decode cX7_slicesBehind 41 = .ok (.iload_n 1, 1) := by decide +kernel
theorem dX7_slicesBehind_42 : decode cX7_slicesBehind 42 = .ok (.iconst 1, 1) := by decide +kernel
theorem dX7_slicesBehind_43 : decode cX7_slicesBehind 43 = .ok (.iadd, 1) := by decide +kernel
theorem dX7_slicesBehind_44 : decode cX7_slicesBehind 44 = .ok (.iload_n 2, 1) := by decide +kernel
theorem dX7_slicesBehind_45 : decode cX7_slicesBehind 45 = .ok (.iload_n 3, 1) := by decide +kernel
theorem dX7_slicesBehind_46 : decode cX7_slicesBehind 46 = .ok (.invokestatic 178, 3) := by decide +kernel
theorem dX7_slicesBehind_49 : decode cX7_slicesBehind 49 = .ok (.ireturn, 1) := by decide +kernel
theorem dX7_slicesBehind_50 : decode cX7_slicesBehind 50 = .ok (.aload 4, 2) := by decide +kernel
theorem dX7_slicesBehind_52 : decode cX7_slicesBehind 52 = .ok (.invokevirtual 233, 3) := by decide +kernel
theorem dX7_slicesBehind_55 : decode cX7_slicesBehind 55 = .ok (.istore 6, 2) := by decide +kernel
theorem dX7_slicesBehind_57 : decode cX7_slicesBehind 57 = .ok (.aload_n 0, 1) := by decide +kernel
theorem dX7_slicesBehind_58 : decode cX7_slicesBehind 58 = .ok (.iload_n 1, 1) := by decide +kernel
theorem dX7_slicesBehind_59 : decode cX7_slicesBehind 59 = .ok (.iconst 1, 1) := by decide +kernel
theorem dX7_slicesBehind_60 : decode cX7_slicesBehind 60 = .ok (.iadd, 1) := by decide +kernel
theorem dX7_slicesBehind_61 : decode cX7_slicesBehind 61 = .ok (.iload_n 2, 1) := by decide +kernel
theorem dX7_slicesBehind_62 : decode cX7_slicesBehind 62 = .ok (.iload_n 3, 1) := by decide +kernel
theorem dX7_slicesBehind_63 : decode cX7_slicesBehind 63 = .ok (.iload 5, 2) := by decide +kernel
theorem dX7_slicesBehind_65 : decode cX7_slicesBehind 65 = .ok (.iload 6, 2) := by decide +kernel
theorem dX7_slicesBehind_67 : decode cX7_slicesBehind 67 = .ok (.imul, 1) := by decide +kernel
theorem dX7_slicesBehind_68 : decode cX7_slicesBehind 68 = .ok (.isub, 1) := by decide +kernel
theorem dX7_slicesBehind_69 : decode cX7_slicesBehind 69 = .ok (.invokestatic 178, 3) := by decide +kernel
theorem dX7_slicesBehind_72 : decode cX7_slicesBehind 72 = .ok (.istore 7, 2) := by decide +kernel
theorem dX7_slicesBehind_74 : decode cX7_slicesBehind 74 = .ok (.iload 5, 2) := by decide +kernel
theorem dX7_slicesBehind_76 : decode cX7_slicesBehind 76 = .ok (.aload_n 0, 1) := by decide +kernel
theorem dX7_slicesBehind_77 : decode cX7_slicesBehind 77 = .ok (.iload_n 1, 1) := by decide +kernel
theorem dX7_slicesBehind_78 : decode cX7_slicesBehind 78 = .ok (.iconst 1, 1) := by decide +kernel
theorem dX7_slicesBehind_79 : decode cX7_slicesBehind 79 = .ok (.iadd, 1) := by decide +kernel
theorem dX7_slicesBehind_80 : decode cX7_slicesBehind 80 = .ok (.iload_n 2, 1) := by decide +kernel
theorem dX7_slicesBehind_81 : decode cX7_slicesBehind 81 = .ok (.iload 6, 2) := by decide +kernel
theorem dX7_slicesBehind_83 : decode cX7_slicesBehind 83 = .ok (.invokestatic 178, 3) := by decide +kernel
theorem dX7_slicesBehind_86 : decode cX7_slicesBehind 86 = .ok (.imul, 1) := by decide +kernel
theorem dX7_slicesBehind_87 : decode cX7_slicesBehind 87 = .ok (.iload 7, 2) := by decide +kernel
theorem dX7_slicesBehind_89 : decode cX7_slicesBehind 89 = .ok (.iadd, 1) := by decide +kernel
theorem dX7_slicesBehind_90 : decode cX7_slicesBehind 90 = .ok (.ireturn, 1) := by decide +kernel
theorem dX7_ticksBehind_0 : decode cX7_ticksBehind 0 = .ok (.iload_n 1, 1) := by decide +kernel
theorem dX7_ticksBehind_1 : decode cX7_ticksBehind 1 = .ok (.iload_n 2, 1) := by decide +kernel
theorem dX7_ticksBehind_2 : decode cX7_ticksBehind 2 = .ok (.if_icmp .ge 15, 3) := by decide +kernel
theorem dX7_ticksBehind_5 : decode cX7_ticksBehind 5 = .ok (.iload_n 1, 1) := by decide +kernel
theorem dX7_ticksBehind_6 : decode cX7_ticksBehind 6 = .ok (.aload_n 0, 1) := by decide +kernel
theorem dX7_ticksBehind_7 : decode cX7_ticksBehind 7 = .ok (.arraylength, 1) := by decide +kernel
theorem dX7_ticksBehind_8 : decode cX7_ticksBehind 8 = .ok (.if_icmp .ge 9, 3) := by decide +kernel
theorem dX7_ticksBehind_11 : decode cX7_ticksBehind 11 = .ok (.aload_n 0, 1) := by decide +kernel
theorem dX7_ticksBehind_12 : decode cX7_ticksBehind 12 = .ok (.iload_n 1, 1) := by decide +kernel
theorem dX7_ticksBehind_13 : decode cX7_ticksBehind 13 = .ok (.aaload, 1) := by decide +kernel
theorem dX7_ticksBehind_14 : decode cX7_ticksBehind 14 = .ok (.goto 4, 3) := by decide +kernel
theorem dX7_ticksBehind_17 : decode cX7_ticksBehind 17 = .ok (.aconst_null, 1) := by decide +kernel
theorem dX7_ticksBehind_18 : decode cX7_ticksBehind 18 = .ok (.astore 4, 2) := by decide +kernel
theorem dX7_ticksBehind_20 : decode cX7_ticksBehind 20 = .ok (.aload 4, 2) := by decide +kernel
theorem dX7_ticksBehind_22 : decode cX7_ticksBehind 22 = .ok (.ifnonnull 5, 3) := by decide +kernel
theorem dX7_ticksBehind_25 : decode cX7_ticksBehind 25 = .ok (.iconst 0, 1) := by decide +kernel
theorem dX7_ticksBehind_26 : decode cX7_ticksBehind 26 = .ok (.ireturn, 1) := by decide +kernel
theorem dX7_ticksBehind_27 : decode cX7_ticksBehind 27 = .ok (.aload 4, 2) := by decide +kernel
theorem dX7_ticksBehind_29 : decode cX7_ticksBehind 29 = .ok (.iload_n 3, 1) := by decide +kernel
theorem dX7_ticksBehind_30 : decode cX7_ticksBehind 30 = .ok (.invokevirtual 230, 3) := by decide +kernel
theorem dX7_ticksBehind_33 : decode cX7_ticksBehind 33 = .ok (.istore 5, 2) := by decide +kernel
theorem dX7_ticksBehind_35 : decode cX7_ticksBehind 35 = .ok (.aload 4, 2) := by decide +kernel
theorem dX7_ticksBehind_37 : decode cX7_ticksBehind 37 = .ok (.invokevirtual 233, 3) := by decide +kernel
theorem dX7_ticksBehind_40 : decode cX7_ticksBehind 40 = .ok (.istore 6, 2) := by decide +kernel
theorem dX7_ticksBehind_42 : decode cX7_ticksBehind 42 = .ok (.iload_n 3, 1) := by decide +kernel
theorem dX7_ticksBehind_43 : decode cX7_ticksBehind 43 = .ok (.iload 5, 2) := by decide +kernel
theorem dX7_ticksBehind_45 : decode cX7_ticksBehind 45 = .ok (.iload 6, 2) := by decide +kernel
theorem dX7_ticksBehind_47 : decode cX7_ticksBehind 47 = .ok (.imul, 1) := by decide +kernel
theorem dX7_ticksBehind_48 : decode cX7_ticksBehind 48 = .ok (.isub, 1) := by decide +kernel
theorem dX7_ticksBehind_49 : decode cX7_ticksBehind 49 = .ok (.istore 7, 2) := by decide +kernel
theorem dX7_ticksBehind_51 : decode cX7_ticksBehind 51 = .ok (.aload 4, 2) := by decide +kernel
theorem dX7_ticksBehind_53 : decode cX7_ticksBehind 53 = .ok (.iload 7, 2) := by decide +kernel
theorem dX7_ticksBehind_55 : decode cX7_ticksBehind 55 = .ok (.invokevirtual 236, 3) := by decide +kernel
theorem dX7_ticksBehind_58 : decode cX7_ticksBehind 58 = .ok (.aload_n 0, 1) := by decide +kernel
theorem dX7_ticksBehind_59 : decode cX7_ticksBehind 59 = .ok (.iload_n 1, 1) := by decide +kernel
theorem dX7_ticksBehind_60 : decode cX7_ticksBehind 60 = .ok (.iconst 1, 1) := by decide +kernel
theorem dX7_ticksBehind_61 : decode cX7_ticksBehind 61 = .ok (.iadd, 1) := by decide +kernel
theorem dX7_ticksBehind_62 : decode cX7_ticksBehind 62 = .ok (.iload_n 2, 1) := by decide +kernel
theorem dX7_ticksBehind_63 : decode cX7_ticksBehind 63 = .ok (.iload 7, 2) := by decide +kernel
theorem dX7_ticksBehind_65 : decode cX7_ticksBehind 65 = .ok (.invokestatic 182, 3) := by decide +kernel
theorem dX7_ticksBehind_68 : decode cX7_ticksBehind 68 = .ok (.iadd, 1) := by decide +kernel
theorem dX7_ticksBehind_69 : decode cX7_ticksBehind 69 = .ok (.istore 8, 2) := by decide +kernel
theorem dX7_ticksBehind_71 : decode cX7_ticksBehind 71 = .ok (.iload 5, 2) := by decide +kernel
theorem dX7_ticksBehind_73 : decode cX7_ticksBehind 73 = .ok (.ifCond .ne 6, 3) := by decide +kernel
theorem dX7_ticksBehind_76 : decode cX7_ticksBehind 76 = .ok (.iload 8, 2) := by decide +kernel
theorem dX7_ticksBehind_78 : decode cX7_ticksBehind 78 = .ok (.ireturn, 1) := by decide +kernel
theorem dX7_ticksBehind_79 : decode cX7_ticksBehind 79 = .ok (.iload 8, 2) := by decide +kernel
theorem dX7_ticksBehind_81 : decode cX7_ticksBehind 81 = .ok (.aload 4, 2) := by decide +kernel
theorem dX7_ticksBehind_83 : decode cX7_ticksBehind 83 = .ok (.iload 6, 2) := by decide +kernel
theorem dX7_ticksBehind_85 : decode cX7_ticksBehind 85 = .ok (.invokevirtual 236, 3) := by decide +kernel
theorem dX7_ticksBehind_88 : decode cX7_ticksBehind 88 = .ok (.aload_n 0, 1) := by decide +kernel
theorem dX7_ticksBehind_89 : decode cX7_ticksBehind 89 = .ok (.iload_n 1, 1) := by decide +kernel
theorem dX7_ticksBehind_90 : decode cX7_ticksBehind 90 = .ok (.iconst 1, 1) := by decide +kernel
theorem dX7_ticksBehind_91 : decode cX7_ticksBehind 91 = .ok (.iadd, 1) := by decide +kernel
theorem dX7_ticksBehind_92 : decode cX7_ticksBehind 92 = .ok (.iload_n 2, 1) := by decide +kernel
theorem dX7_ticksBehind_93 : decode cX7_ticksBehind 93 = .ok (.iload 6, 2) := by decide +kernel
theorem dX7_ticksBehind_95 : decode cX7_ticksBehind 95 = .ok (.invokestatic 182, 3) := by decide +kernel
theorem dX7_ticksBehind_98 : decode cX7_ticksBehind 98 = .ok (.iadd, 1) := by decide +kernel
theorem dX7_ticksBehind_99 : decode cX7_ticksBehind 99 = .ok (.invokestatic 239, 3) := by decide +kernel
theorem dX7_ticksBehind_102 : decode cX7_ticksBehind 102 = .ok (.ireturn, 1) := by decide +kernel
theorem dX8_init_0 : decode cX8_init 0 = .ok (.aload_n 0, 1) := by decide +kernel
theorem dX8_init_1 : decode cX8_init 1 = .ok (.invokespecial 1, 3) := by decide +kernel
theorem dX8_init_4 : decode cX8_init 4 = .ok (.aload_n 0, 1) := by decide +kernel
theorem dX8_init_5 : decode cX8_init 5 = .ok (.sipush 3506, 3) := by decide +kernel
theorem dX8_init_8 : decode cX8_init 8 = .ok (.newarray .int, 2) := by decide +kernel
theorem dX8_init_10 : decode cX8_init 10 = .ok (.putfield 7, 3) := by decide +kernel
theorem dX8_init_13 : decode cX8_init 13 = .ok (.aload_n 0, 1) := by decide +kernel
theorem dX8_init_14 : decode cX8_init 14 = .ok (.ldc 13, 2) := by decide +kernel
theorem dX8_init_16 : decode cX8_init 16 = .ok (.newarray .int, 2) := by decide +kernel
theorem dX8_init_18 : decode cX8_init 18 = .ok (.putfield 14, 3) := by decide +kernel
theorem dX8_init_21 : decode cX8_init 21 = .ok (.aload_n 0, 1) := by decide +kernel
theorem dX8_init_22 : decode cX8_init 22 = .ok (.sipush 21036, 3) := by decide +kernel
theorem dX8_init_25 : decode cX8_init 25 = .ok (.newarray .int, 2) := by decide +kernel
theorem dX8_init_27 : decode cX8_init 27 = .ok (.putfield 17, 3) := by decide +kernel
theorem dX8_init_30 : decode cX8_init 30 = .ok (.aload_n 0, 1) := by decide +kernel
theorem dX8_init_31 : decode cX8_init 31 = .ok (.ldc 20, 2) := by decide +kernel
theorem dX8_init_33 : decode cX8_init 33 = .ok (.newarray .int, 2) := by decide +kernel
theorem dX8_init_35 : decode cX8_init 35 = .ok (.putfield 21, 3) := by decide +kernel
theorem dX8_init_38 : decode cX8_init 38 = .ok (.aload_n 0, 1) := by decide +kernel
theorem dX8_init_39 : decode cX8_init 39 = .ok (.sipush 7012, 3) := by decide +kernel
theorem dX8_init_42 : decode cX8_init 42 = .ok (.newarray .int, 2) := by decide +kernel
theorem dX8_init_44 : decode cX8_init 44 = .ok (.putfield 24, 3) := by decide +kernel
theorem dX8_init_47 : decode cX8_init 47 = .ok (.aload_n 0, 1) := by decide +kernel
theorem dX8_init_48 : decode cX8_init 48 = .ok (.ldc 27, 2) := by decide +kernel
theorem dX8_init_50 : decode cX8_init 50 = .ok (.newarray .int, 2) := by decide +kernel
theorem dX8_init_52 : decode cX8_init 52 = .ok (.putfield 28, 3) := by decide +kernel
theorem dX8_init_55 : decode cX8_init 55 = .ok (.aload_n 0, 1) := by decide +kernel
theorem dX8_init_56 : decode cX8_init 56 = .ok (.iconst 2, 1) := by decide +kernel
theorem dX8_init_57 : decode cX8_init 57 = .ok (.newarray .boolean, 2) := by decide +kernel
theorem dX8_init_59 : decode cX8_init 59 = .ok (.putfield 31, 3) := by decide +kernel
theorem dX8_init_62 : decode cX8_init 62 = .ok (.aload_n 0, 1) := by decide +kernel
theorem dX8_init_63 : decode cX8_init 63 = .ok (.sipush 3506, 3) := by decide +kernel
theorem dX8_init_66 : decode cX8_init 66 = .ok (.newarray .int, 2) := by decide +kernel
theorem dX8_init_68 : decode cX8_init 68 = .ok (.putfield 35, 3) := by decide +kernel
theorem dX8_init_71 : decode cX8_init 71 = .ok (.aload_n 0, 1) := by decide +kernel
theorem dX8_init_72 : decode cX8_init 72 = .ok (.ldc 13, 2) := by decide +kernel
theorem dX8_init_74 : decode cX8_init 74 = .ok (.newarray .int, 2) := by decide +kernel
theorem dX8_init_76 : decode cX8_init 76 = .ok (.putfield 38, 3) := by decide +kernel
theorem dX8_init_79 : decode cX8_init 79 = .ok (.aload_n 0, 1) := by decide +kernel
theorem dX8_init_80 : decode cX8_init 80 = .ok (.bipush 80, 2) := by decide +kernel
theorem dX8_init_82 : decode cX8_init 82 = .ok (.newarray .int, 2) := by decide +kernel
theorem dX8_init_84 : decode cX8_init 84 = .ok (.putfield 41, 3) := by decide +kernel
theorem dX8_init_87 : decode cX8_init 87 = .ok (.aload_n 0, 1) := by decide +kernel
theorem dX8_init_88 : decode cX8_init 88 = .ok (.bipush 8, 2) := by decide +kernel
theorem dX8_init_90 : decode cX8_init 90 = .ok (.newarray .int, 2) := by decide +kernel
theorem dX8_init_92 : decode cX8_init 92 = .ok (.putfield 44, 3) := by decide +kernel
theorem dX8_init_95 : decode cX8_init 95 = .ok (.aload_n 0, 1) := by decide +kernel
theorem dX8_init_96 : decode cX8_init 96 = .ok (.sipush 1000, 3) := by decide +kernel
theorem dX8_init_99 : decode cX8_init 99 = .ok (.newarray .int, 2) := by decide +kernel
theorem dX8_init_101 : decode cX8_init 101 = .ok (.putfield 47, 3) := by decide +kernel
theorem dX8_init_104 : decode cX8_init 104 = .ok (.aload_n 0, 1) := by decide +kernel
theorem dX8_init_105 : decode cX8_init 105 = .ok (.sipush 1000, 3) := by decide +kernel
theorem dX8_init_108 : decode cX8_init 108 = .ok (.newarray .int, 2) := by decide +kernel
theorem dX8_init_110 : decode cX8_init 110 = .ok (.putfield 50, 3) := by decide +kernel
theorem dX8_init_113 : decode cX8_init 113 = .ok (.aload_n 0, 1) := by decide +kernel
theorem dX8_init_114 : decode cX8_init 114 = .ok (.sipush 1000, 3) := by decide +kernel
theorem dX8_init_117 : decode cX8_init 117 = .ok (.newarray .int, 2) := by decide +kernel
theorem dX8_init_119 : decode cX8_init 119 = .ok (.putfield 53, 3) := by decide +kernel
theorem dX8_init_122 : decode cX8_init 122 = .ok (.aload_n 0, 1) := by decide +kernel
theorem dX8_init_123 : decode cX8_init 123 = .ok (.sipush 1000, 3) := by decide +kernel
theorem dX8_init_126 : decode cX8_init 126 = .ok (.newarray .int, 2) := by decide +kernel
theorem dX8_init_128 : decode cX8_init 128 = .ok (.putfield 56, 3) := by decide +kernel
theorem dX8_init_131 : decode cX8_init 131 = .ok (.aload_n 0, 1) := by decide +kernel
theorem dX8_init_132 : decode cX8_init 132 = .ok (.bipush 29, 2) := by decide +kernel
theorem dX8_init_134 : decode cX8_init 134 = .ok (.newarray .int, 2) := by decide +kernel
theorem dX8_init_136 : decode cX8_init 136 = .ok (.putfield 59, 3) := by decide +kernel
theorem dX8_init_139 : decode cX8_init 139 = .ok (.aload_n 0, 1) := by decide +kernel
theorem dX8_init_140 : decode cX8_init 140 = .ok (.bipush 116, 2) := by decide +kernel
theorem dX8_init_142 : decode cX8_init 142 = .ok (.newarray .int, 2) := by decide +kernel
theorem dX8_init_144 : decode cX8_init 144 = .ok (.putfield 62, 3) := by decide +kernel
theorem dX8_init_147 : decode cX8_init 147 = .ok (.iconst 0, 1) := by decide +kernel
theorem dX8_init_148 : decode cX8_init 148 = .ok (.istore_n 1, 1) := by decide +kernel
theorem dX8_init_149 : decode cX8_init 149 = .ok (.iload_n 1, 1) := by decide +kernel
theorem dX8_init_150 : decode cX8_init 150 = .ok (.bipush 8, 2) := by decide +kernel
theorem dX8_init_152 : decode cX8_init 152 = .ok (.if_icmp .ge 74, 3) := by decide +kernel
theorem dX8_init_155 : decode cX8_init 155 = .ok (.aload_n 0, 1) := by decide +kernel
theorem dX8_init_156 : decode cX8_init 156 = .ok (.getfield 7, 3) := by decide +kernel
theorem dX8_init_159 : decode cX8_init 159 = .ok (.bipush 14, 2) := by decide +kernel
theorem dX8_init_161 : decode cX8_init 161 = .ok (.bipush 11, 2) := by decide +kernel
theorem dX8_init_163 : decode cX8_init 163 = .ok (.iload_n 1, 1) := by decide +kernel
theorem dX8_init_164 : decode cX8_init 164 = .ok (.imul, 1) := by decide +kernel
theorem dX8_init_165 : decode cX8_init 165 = .ok (.iadd, 1) := by decide +kernel
theorem dX8_init_166 : decode cX8_init 166 = .ok (.iconst 1, 1) := by decide +kernel
theorem dX8_init_167 : decode cX8_init 167 = .ok (.iadd, 1) := by decide +kernel
theorem dX8_init_168 : decode cX8_init 168 = .ok (.bipush 60, 2) := by decide +kernel
theorem dX8_init_170 : decode cX8_init 170 = .ok (.iastore, 1) := by decide +kernel
theorem dX8_init_171 : decode cX8_init 171 = .ok (.aload_n 0, 1) := by decide +kernel
theorem dX8_init_172 : decode cX8_init 172 = .ok (.getfield 7, 3) := by decide +kernel
theorem dX8_init_175 : decode cX8_init 175 = .ok (.bipush 14, 2) := by decide +kernel
theorem dX8_init_177 : decode cX8_init 177 = .ok (.bipush 11, 2) := by decide +kernel
theorem dX8_init_179 : decode cX8_init 179 = .ok (.iload_n 1, 1) := by decide +kernel
theorem dX8_init_180 : decode cX8_init 180 = .ok (.imul, 1) := by decide +kernel
theorem dX8_init_181 : decode cX8_init 181 = .ok (.iadd, 1) := by decide +kernel
theorem dX8_init_182 : decode cX8_init 182 = .ok (.iconst 2, 1) := by decide +kernel
theorem dX8_init_183 : decode cX8_init 183 = .ok (.iadd, 1) := by decide +kernel
theorem dX8_init_184 : decode cX8_init 184 = .ok (.sipush 8000, 3) := by decide +kernel
theorem dX8_init_187 : decode cX8_init 187 = .ok (.iastore, 1) := by decide +kernel
theorem dX8_init_188 : decode cX8_init 188 = .ok (.iconst 0, 1) := by decide +kernel
theorem dX8_init_189 : decode cX8_init 189 = .ok (.istore_n 2, 1) := by decide +kernel
theorem dX8_init_190 : decode cX8_init 190 = .ok (.iload_n 2, 1) := by decide +kernel
theorem dX8_init_191 : decode cX8_init 191 = .ok (.bipush 8, 2) := by decide +kernel
theorem dX8_init_193 : decode cX8_init 193 = .ok (.if_icmp .ge 27, 3) := by decide +kernel
theorem dX8_init_196 : decode cX8_init 196 = .ok (.aload_n 0, 1) := by decide +kernel
theorem dX8_init_197 : decode cX8_init 197 = .ok (.getfield 7, 3) := by decide +kernel
theorem dX8_init_200 : decode cX8_init 200 = .ok (.bipush 14, 2) := by decide +kernel
theorem dX8_init_202 : decode cX8_init 202 = .ok (.bipush 11, 2) := by decide +kernel
theorem dX8_init_204 : decode cX8_init 204 = .ok (.iload_n 1, 1) := by decide +kernel
theorem dX8_init_205 : decode cX8_init 205 = .ok (.imul, 1) := by decide +kernel
theorem dX8_init_206 : decode cX8_init 206 = .ok (.iadd, 1) := by decide +kernel
theorem dX8_init_207 : decode cX8_init 207 = .ok (.iconst 3, 1) := by decide +kernel
theorem dX8_init_208 : decode cX8_init 208 = .ok (.iadd, 1) := by decide +kernel
theorem dX8_init_209 : decode cX8_init 209 = .ok (.iload_n 2, 1) := by decide +kernel
theorem dX8_init_210 : decode cX8_init 210 = .ok (.iadd, 1) := by decide +kernel
theorem dX8_init_211 : decode cX8_init 211 = .ok (.bipush (-6), 2) := by decide +kernel
theorem dX8_init_213 : decode cX8_init 213 = .ok (.iastore, 1) := by decide +kernel
theorem dX8_init_214 : decode cX8_init 214 = .ok (.iinc 2 1, 3) := by decide +kernel
theorem dX8_init_217 : decode cX8_init 217 = .ok (.goto (-27), 3) := by decide +kernel
theorem dX8_init_220 : decode cX8_init 220 = .ok (.iinc 1 1, 3) := by decide +kernel
theorem dX8_init_223 : decode cX8_init 223 = .ok (.goto (-74), 3) := by decide +kernel
theorem dX8_init_226 : decode cX8_init 226 = .ok (.iconst 0, 1) := by decide +kernel
theorem dX8_init_227 : decode cX8_init 227 = .ok (.istore_n 1, 1) := by decide +kernel
theorem dX8_init_228 : decode cX8_init 228 = .ok (.iload_n 1, 1) := by decide +kernel
theorem dX8_init_229 : decode cX8_init 229 = .ok (.ldc 13, 2) := by decide +kernel
theorem dX8_init_231 : decode cX8_init 231 = .ok (.if_icmp .ge 17, 3) := by decide +kernel
theorem dX8_init_234 : decode cX8_init 234 = .ok (.aload_n 0, 1) := by decide +kernel
theorem dX8_init_235 : decode cX8_init 235 = .ok (.getfield 14, 3) := by decide +kernel
theorem dX8_init_238 : decode cX8_init 238 = .ok (.iload_n 1, 1) := by decide +kernel
theorem dX8_init_239 : decode cX8_init 239 = .ok (.bipush (-6), 2) := by decide +kernel
theorem dX8_init_241 : decode cX8_init 241 = .ok (.iastore, 1) := by decide +kernel
theorem dX8_init_242 : decode cX8_init 242 = .ok (.iinc 1 1, 3) := by decide +kernel
theorem dX8_init_245 : decode cX8_init 245 = .ok (.goto (-17), 3) := by decide +kernel
theorem dX8_init_248 : decode cX8_init 248 = .ok (.return_, 1) := by decide +kernel
theorem dX8_in_0 : decode cX8_in 0 = .ok (.iload_n 0, 1) := by decide +kernel
theorem dX8_in_1 : decode cX8_in 1 = .ok (.iload_n 1, 1) := by decide +kernel
theorem dX8_in_2 : decode cX8_in 2 = .ok (.if_icmp .lt 12, 3) := by decide +kernel
theorem dX8_in_5 : decode cX8_in 5 = .ok (.iload_n 0, 1) := by decide +kernel
theorem dX8_in_6 : decode cX8_in 6 = .ok (.iload_n 2, 1) := by decide +kernel
theorem dX8_in_7 : decode cX8_in 7 = .ok (.if_icmp .gt 7, 3) := by decide +kernel
theorem dX8_in_10 : decode cX8_in 10 = .ok (.iconst 1, 1) := by decide +kernel
theorem dX8_in_11 : decode cX8_in 11 = .ok (.goto 4, 3) := by decide +kernel
theorem dX8_in_14 : decode cX8_in 14 = .ok (.iconst 0, 1) := by decide +kernel
theorem dX8_in_15 : decode cX8_in 15 = .ok (.ireturn, 1) := by decide +kernel
theorem dX8_ofN_0 : decode cX8_ofN 0 = .ok (.aload_n 0, 1) := by decide +kernel
theorem dX8_ofN_1 : decode cX8_ofN 1 = .ok (.getfield 7, 3) := by decide +kernel
theorem dX8_ofN_4 : decode cX8_ofN 4 = .ok (.bipush 14, 2) := by decide +kernel
theorem dX8_ofN_6 : decode cX8_ofN 6 = .ok (.bipush 11, 2) := by decide +kernel
theorem dX8_ofN_8 : decode cX8_ofN 8 = .ok (.iload_n 1, 1) := by decide +kernel
theorem dX8_ofN_9 : decode cX8_ofN 9 = .ok (.imul, 1) := by decide +kernel
theorem dX8_ofN_10 : decode cX8_ofN 10 = .ok (.iadd, 1) := by decide +kernel
theorem dX8_ofN_11 : decode cX8_ofN 11 = .ok (.iload_n 2, 1) := by decide +kernel
theorem dX8_ofN_12 : decode cX8_ofN 12 = .ok (.iadd, 1) := by decide +kernel
theorem dX8_ofN_13 : decode cX8_ofN 13 = .ok (.iaload, 1) := by decide +kernel
theorem dX8_ofN_14 : decode cX8_ofN 14 = .ok (.ireturn, 1) := by decide +kernel
theorem dX8_ofB_0 : decode cX8_ofB 0 = .ok (.aload_n 0, 1) := by decide +kernel
theorem dX8_ofB_1 : decode cX8_ofB 1 = .ok (.getfield 7, 3) := by decide +kernel
theorem dX8_ofB_4 : decode cX8_ofB 4 = .ok (.bipush 102, 2) := by decide +kernel
theorem dX8_ofB_6 : decode cX8_ofB 6 = .ok (.bipush 9, 2) := by decide +kernel
theorem dX8_ofB_8 : decode cX8_ofB 8 = .ok (.iload_n 1, 1) := by decide +kernel
theorem dX8_ofB_9 : decode cX8_ofB 9 = .ok (.imul, 1) := by decide +kernel
theorem dX8_ofB_10 : decode cX8_ofB 10 = .ok (.iadd, 1) := by decide +kernel
theorem dX8_ofB_11 : decode cX8_ofB 11 = .ok (.iload_n 2, 1) := by decide +kernel
theorem dX8_ofB_12 : decode cX8_ofB 12 = .ok (.iadd, 1) := by decide +kernel
theorem dX8_ofB_13 : decode cX8_ofB 13 = .ok (.iaload, 1) := by decide +kernel
theorem dX8_ofB_14 : decode cX8_ofB 14 = .ok (.ireturn, 1) := by decide +kernel
theorem dX8_ofP_0 : decode cX8_ofP 0 = .ok (.aload_n 0, 1) := by decide +kernel
theorem dX8_ofP_1 : decode cX8_ofP 1 = .ok (.getfield 7, 3) := by decide +kernel
theorem dX8_ofP_4 : decode cX8_ofP 4 = .ok (.sipush 246, 3) := by decide +kernel
theorem dX8_ofP_7 : decode cX8_ofP 7 = .ok (.bipush 14, 2) := by decide +kernel
theorem dX8_ofP_9 : decode cX8_ofP 9 = .ok (.iload_n 1, 1) := by decide +kernel
theorem dX8_ofP_10 : decode cX8_ofP 10 = .ok (.imul, 1) := by decide +kernel
theorem dX8_ofP_11 : decode cX8_ofP 11 = .ok (.iadd, 1) := by decide +kernel
theorem dX8_ofP_12 : decode cX8_ofP 12 = .ok (.iload_n 2, 1) := by decide +kernel
theorem dX8_ofP_13 : decode cX8_ofP 13 = .ok (.iadd, 1) := by decide +kernel
theorem dX8_ofP_14 : decode cX8_ofP 14 = .ok (.iaload, 1) := by decide +kernel
theorem dX8_ofP_15 : decode cX8_ofP 15 = .ok (.ireturn, 1) := by decide +kernel
theorem dX8_layP_0 : decode cX8_layP 0 = .ok (.aload_n 0, 1) := by decide +kernel
theorem dX8_layP_1 : decode cX8_layP 1 = .ok (.getfield 7, 3) := by decide +kernel
theorem dX8_layP_4 : decode cX8_layP 4 = .ok (.sipush 246, 3) := by decide +kernel
theorem dX8_layP_7 : decode cX8_layP 7 = .ok (.bipush 14, 2) := by decide +kernel
theorem dX8_layP_9 : decode cX8_layP 9 = .ok (.iload_n 1, 1) := by decide +kernel
theorem dX8_layP_10 : decode cX8_layP 10 = .ok (.imul, 1) := by decide +kernel
theorem dX8_layP_11 : decode cX8_layP 11 = .ok (.iadd, 1) := by decide +kernel
theorem dX8_layP_12 : decode cX8_layP 12 = .ok (.iload_n 2, 1) := by decide +kernel
theorem dX8_layP_13 : decode cX8_layP 13 = .ok (.iadd, 1) := by decide +kernel
theorem dX8_layP_14 : decode cX8_layP 14 = .ok (.iload_n 3, 1) := by decide +kernel
theorem dX8_layP_15 : decode cX8_layP 15 = .ok (.iastore, 1) := by decide +kernel
theorem dX8_layP_16 : decode cX8_layP 16 = .ok (.return_, 1) := by decide +kernel
theorem dX8_ofS_0 : decode cX8_ofS 0 = .ok (.aload_n 0, 1) := by decide +kernel
theorem dX8_ofS_1 : decode cX8_ofS 1 = .ok (.getfield 7, 3) := by decide +kernel
theorem dX8_ofS_4 : decode cX8_ofS 4 = .ok (.sipush 806, 3) := by decide +kernel
theorem dX8_ofS_7 : decode cX8_ofS 7 = .ok (.bipush 9, 2) := by decide +kernel
theorem dX8_ofS_9 : decode cX8_ofS 9 = .ok (.iload_n 1, 1) := by decide +kernel
theorem dX8_ofS_10 : decode cX8_ofS 10 = .ok (.imul, 1) := by decide +kernel
theorem dX8_ofS_11 : decode cX8_ofS 11 = .ok (.iadd, 1) := by decide +kernel
theorem dX8_ofS_12 : decode cX8_ofS 12 = .ok (.iload_n 2, 1) := by decide +kernel
theorem dX8_ofS_13 : decode cX8_ofS 13 = .ok (.iadd, 1) := by decide +kernel
theorem dX8_ofS_14 : decode cX8_ofS 14 = .ok (.iaload, 1) := by decide +kernel
theorem dX8_ofS_15 : decode cX8_ofS 15 = .ok (.ireturn, 1) := by decide +kernel
theorem dX8_layS_0 : decode cX8_layS 0 = .ok (.aload_n 0, 1) := by decide +kernel
theorem dX8_layS_1 : decode cX8_layS 1 = .ok (.getfield 7, 3) := by decide +kernel
theorem dX8_layS_4 : decode cX8_layS 4 = .ok (.sipush 806, 3) := by decide +kernel
theorem dX8_layS_7 : decode cX8_layS 7 = .ok (.bipush 9, 2) := by decide +kernel
theorem dX8_layS_9 : decode cX8_layS 9 = .ok (.iload_n 1, 1) := by decide +kernel
theorem dX8_layS_10 : decode cX8_layS 10 = .ok (.imul, 1) := by decide +kernel
theorem dX8_layS_11 : decode cX8_layS 11 = .ok (.iadd, 1) := by decide +kernel
theorem dX8_layS_12 : decode cX8_layS 12 = .ok (.iload_n 2, 1) := by decide +kernel
theorem dX8_layS_13 : decode cX8_layS 13 = .ok (.iadd, 1) := by decide +kernel
theorem dX8_layS_14 : decode cX8_layS 14 = .ok (.iload_n 3, 1) := by decide +kernel
theorem dX8_layS_15 : decode cX8_layS 15 = .ok (.iastore, 1) := by decide +kernel
theorem dX8_layS_16 : decode cX8_layS 16 = .ok (.return_, 1) := by decide +kernel
theorem dX8_isNode_0 : decode cX8_isNode 0 = .ok (.iload_n 0, 1) := by decide +kernel
theorem dX8_isNode_1 : decode cX8_isNode 1 = .ok (.iconst 0, 1) := by decide +kernel
theorem dX8_isNode_2 : decode cX8_isNode 2 = .ok (.bipush 7, 2) := by decide +kernel
theorem dX8_isNode_4 : decode cX8_isNode 4 = .ok (.invokestatic 65, 3) := by decide +kernel
theorem dX8_isNode_7 : decode cX8_isNode 7 = .ok (.ireturn, 1) := by decide +kernel
theorem dX8_isBridge_0 : decode cX8_isBridge 0 = .ok (.iload_n 1, 1) := by decide +kernel
theorem dX8_isBridge_1 : decode cX8_isBridge 1 = .ok (.iconst 0, 1) := by decide +kernel
theorem dX8_isBridge_2 : decode cX8_isBridge 2 = .ok (.aload_n 0, 1) := by decide +kernel
theorem dX8_isBridge_3 : decode cX8_isBridge 3 = .ok (.getfield 7, 3) := by decide +kernel
theorem dX8_isBridge_6 : decode cX8_isBridge 6 = .ok (.iconst 1, 1) := by decide +kernel
theorem dX8_isBridge_7 : decode cX8_isBridge 7 = .ok (.iaload, 1) := by decide +kernel
theorem dX8_isBridge_8 : decode cX8_isBridge 8 = .ok (.iconst 1, 1) := by decide +kernel
theorem dX8_isBridge_9 : decode cX8_isBridge 9 = .ok (.isub, 1) := by decide +kernel
theorem dX8_isBridge_10 : decode cX8_isBridge 10 = .ok (.invokestatic 65, 3) := by decide +kernel
theorem dX8_isBridge_13 : decode cX8_isBridge 13 = .ok (.ireturn, 1) := by decide +kernel
theorem dX8_isParcel_0 : decode cX8_isParcel 0 = .ok (.iload_n 1, 1) := by decide +kernel
theorem dX8_isParcel_1 : decode cX8_isParcel 1 = .ok (.iconst 0, 1) := by decide +kernel
theorem dX8_isParcel_2 : decode cX8_isParcel 2 = .ok (.aload_n 0, 1) := by decide +kernel
theorem dX8_isParcel_3 : decode cX8_isParcel 3 = .ok (.getfield 7, 3) := by decide +kernel
theorem dX8_isParcel_6 : decode cX8_isParcel 6 = .ok (.iconst 2, 1) := by decide +kernel
theorem dX8_isParcel_7 : decode cX8_isParcel 7 = .ok (.iaload, 1) := by decide +kernel
theorem dX8_isParcel_8 : decode cX8_isParcel 8 = .ok (.iconst 1, 1) := by decide +kernel
theorem dX8_isParcel_9 : decode cX8_isParcel 9 = .ok (.isub, 1) := by decide +kernel
theorem dX8_isParcel_10 : decode cX8_isParcel 10 = .ok (.invokestatic 65, 3) := by decide +kernel
theorem dX8_isParcel_13 : decode cX8_isParcel 13 = .ok (.ireturn, 1) := by decide +kernel
theorem dX8_areNodes_0 : decode cX8_areNodes 0 = .ok (.iload_n 0, 1) := by decide +kernel
theorem dX8_areNodes_1 : decode cX8_areNodes 1 = .ok (.invokestatic 69, 3) := by decide +kernel
theorem dX8_areNodes_4 : decode cX8_areNodes 4 = .ok (.ifCond .eq 19, 3) := by decide +kernel
theorem dX8_areNodes_7 : decode cX8_areNodes 7 = .ok (.iload_n 1, 1) := by decide +kernel
theorem dX8_areNodes_8 : decode cX8_areNodes 8 = .ok (.invokestatic 69, 3) := by decide +kernel
theorem dX8_areNodes_11 : decode cX8_areNodes 11 = .ok (.ifCond .eq 12, 3) := by decide +kernel
theorem dX8_areNodes_14 : decode cX8_areNodes 14 = .ok (.iload_n 0, 1) := by decide +kernel
theorem dX8_areNodes_15 : decode cX8_areNodes 15 = .ok (.iload_n 1, 1) := by decide +kernel
theorem dX8_areNodes_16 : decode cX8_areNodes 16 = .ok (.if_icmp .eq 7, 3) := by decide +kernel
theorem dX8_areNodes_19 : decode cX8_areNodes 19 = .ok (.iconst 1, 1) := by decide +kernel
theorem dX8_areNodes_20 : decode cX8_areNodes 20 = .ok (.goto 4, 3) := by decide +kernel
theorem dX8_areNodes_23 : decode cX8_areNodes 23 = .ok (.iconst 0, 1) := by decide +kernel
theorem dX8_areNodes_24 : decode cX8_areNodes 24 = .ok (.ireturn, 1) := by decide +kernel
theorem dX8_bytesNow_0 : decode cX8_bytesNow 0 = .ok (.sipush 4000, 3) := by decide +kernel
theorem dX8_bytesNow_3 : decode cX8_bytesNow 3 = .ok (.aload_n 0, 1) := by decide +kernel
theorem dX8_bytesNow_4 : decode cX8_bytesNow 4 = .ok (.getfield 7, 3) := by decide +kernel
theorem dX8_bytesNow_7 : decode cX8_bytesNow 7 = .ok (.iconst 2, 1) := by decide +kernel
theorem dX8_bytesNow_8 : decode cX8_bytesNow 8 = .ok (.iaload, 1) := by decide +kernel
theorem dX8_bytesNow_9 : decode cX8_bytesNow 9 = .ok (.imul, 1) := by decide +kernel
theorem dX8_bytesNow_10 : decode cX8_bytesNow 10 = .ok (.ireturn, 1) := by decide +kernel
theorem dX8_keep_0 : decode cX8_keep 0 = .ok (.aload_n 0, 1) := by decide +kernel
theorem dX8_keep_1 : decode cX8_keep 1 = .ok (.getfield 73, 3) := by decide +kernel
theorem dX8_keep_4 : decode cX8_keep 4 = .ok (.bipush 6, 2) := by decide +kernel
theorem dX8_keep_6 : decode cX8_keep 6 = .ok (.if_icmp .ne 26, 3) := by decide +kernel
theorem dX8_keep_9 : decode cX8_keep 9 = .ok (.aload_n 0, 1) := by decide +kernel
theorem dX8_keep_10 : decode cX8_keep 10 = .ok (.aload_n 0, 1) := by decide +kernel
theorem dX8_keep_11 : decode cX8_keep 11 = .ok (.getfield 77, 3) := by decide +kernel
theorem dX8_keep_14 : decode cX8_keep 14 = .ok (.iconst 1, 1) := by decide +kernel
theorem dX8_keep_15 : decode cX8_keep 15 = .ok (.iadd, 1) := by decide +kernel
theorem dX8_keep_16 : decode cX8_keep 16 = .ok (.bipush 6, 2) := by decide +kernel
theorem dX8_keep_18 : decode cX8_keep 18 = .ok (.irem, 1) := by decide +kernel
theorem dX8_keep_19 : decode cX8_keep 19 = .ok (.putfield 77, 3) := by decide +kernel
theorem dX8_keep_22 : decode cX8_keep 22 = .ok (.aload_n 0, 1) := by decide +kernel
theorem dX8_keep_23 : decode cX8_keep 23 = .ok (.dup, 1) := by decide +kernel
theorem dX8_keep_24 : decode cX8_keep 24 = .ok (.getfield 73, 3) := by decide +kernel
theorem dX8_keep_27 : decode cX8_keep 27 = .ok (.iconst 1, 1) := by decide +kernel
theorem dX8_keep_28 : decode cX8_keep 28 = .ok (.isub, 1) := by decide +kernel
theorem dX8_keep_29 : decode cX8_keep 29 = .ok (.putfield 73, 3) := by decide +kernel
theorem dX8_keep_32 : decode cX8_keep 32 = .ok (.aload_n 0, 1) := by decide +kernel
theorem dX8_keep_33 : decode cX8_keep 33 = .ok (.getfield 77, 3) := by decide +kernel
theorem dX8_keep_36 : decode cX8_keep 36 = .ok (.aload_n 0, 1) := by decide +kernel
theorem dX8_keep_37 : decode cX8_keep 37 = .ok (.getfield 73, 3) := by decide +kernel
theorem dX8_keep_40 : decode cX8_keep 40 = .ok (.iadd, 1) := by decide +kernel
theorem dX8_keep_41 : decode cX8_keep 41 = .ok (.bipush 6, 2) := by decide +kernel
theorem dX8_keep_43 : decode cX8_keep 43 = .ok (.irem, 1) := by decide +kernel
theorem dX8_keep_44 : decode cX8_keep 44 = .ok (.istore_n 1, 1) := by decide +kernel
theorem dX8_keep_45 : decode cX8_keep 45 = .ok (.iconst 0, 1) := by decide +kernel
theorem dX8_keep_46 : decode cX8_keep 46 = .ok (.istore_n 2, 1) := by decide +kernel
theorem dX8_keep_47 : decode cX8_keep 47 = .ok (.iload_n 2, 1) := by decide +kernel
theorem dX8_keep_48 : decode cX8_keep 48 = .ok (.sipush 3506, 3) := by decide +kernel
theorem dX8_keep_51 : decode cX8_keep 51 = .ok (.if_icmp .ge 27, 3) := by decide +kernel
theorem dX8_keep_54 : decode cX8_keep 54 = .ok (.aload_n 0, 1) := by decide +kernel
theorem dX8_keep_55 : decode cX8_keep 55 = .ok (.getfield 17, 3) := by decide +kernel
theorem dX8_keep_58 : decode cX8_keep 58 = .ok (.sipush 3506, 3) := by decide +kernel
theorem dX8_keep_61 : decode cX8_keep 61 = .ok (.iload_n 1, 1) := by decide +kernel
theorem dX8_keep_62 : decode cX8_keep 62 = .ok (.imul, 1) := by decide +kernel
theorem dX8_keep_63 : decode cX8_keep 63 = .ok (.iload_n 2, 1) := by decide +kernel
theorem dX8_keep_64 : decode cX8_keep 64 = .ok (.iadd, 1) := by decide +kernel
theorem dX8_keep_65 : decode cX8_keep 65 = .ok (.aload_n 0, 1) := by decide +kernel
theorem dX8_keep_66 : decode cX8_keep 66 = .ok (.getfield 7, 3) := by decide +kernel
theorem dX8_keep_69 : decode cX8_keep 69 = .ok (.iload_n 2, 1) := by decide +kernel
theorem dX8_keep_70 : decode cX8_keep 70 = .ok (.iaload, 1) := by decide +kernel
theorem dX8_keep_71 : decode cX8_keep 71 = .ok (.iastore, 1) := by decide +kernel
theorem dX8_keep_72 : decode cX8_keep 72 = .ok (.iinc 2 1, 3) := by decide +kernel
theorem dX8_keep_75 : decode cX8_keep 75 = .ok (.goto (-28), 3) := by decide +kernel
theorem dX8_keep_78 : decode cX8_keep 78 = .ok (.iconst 0, 1) := by decide +kernel
theorem dX8_keep_79 : decode cX8_keep 79 = .ok (.istore_n 2, 1) := by decide +kernel
theorem dX8_keep_80 : decode cX8_keep 80 = .ok (.iload_n 2, 1) := by decide +kernel
theorem dX8_keep_81 : decode cX8_keep 81 = .ok (.aload_n 0, 1) := by decide +kernel
theorem dX8_keep_82 : decode cX8_keep 82 = .ok (.invokevirtual 80, 3) := by decide +kernel
theorem dX8_keep_85 : decode cX8_keep 85 = .ok (.if_icmp .ge 26, 3) := by decide +kernel
theorem dX8_keep_88 : decode cX8_keep 88 = .ok (.aload_n 0, 1) := by decide +kernel
theorem dX8_keep_89 : decode cX8_keep 89 = .ok (.getfield 21, 3) := by decide +kernel
theorem dX8_keep_92 : decode cX8_keep 92 = .ok (.ldc 13, 2) := by decide +kernel
theorem dX8_keep_94 : decode cX8_keep 94 = .ok (.iload_n 1, 1) := by decide +kernel
theorem dX8_keep_95 : decode cX8_keep 95 = .ok (.imul, 1) := by decide +kernel
theorem dX8_keep_96 : decode cX8_keep 96 = .ok (.iload_n 2, 1) := by decide +kernel
theorem dX8_keep_97 : decode cX8_keep 97 = .ok (.iadd, 1) := by decide +kernel
theorem dX8_keep_98 : decode cX8_keep 98 = .ok (.aload_n 0, 1) := by decide +kernel
theorem dX8_keep_99 : decode cX8_keep 99 = .ok (.getfield 14, 3) := by decide +kernel
theorem dX8_keep_102 : decode cX8_keep 102 = .ok (.iload_n 2, 1) := by decide +kernel
theorem dX8_keep_103 : decode cX8_keep 103 = .ok (.iaload, 1) := by decide +kernel
theorem dX8_keep_104 : decode cX8_keep 104 = .ok (.iastore, 1) := by decide +kernel
theorem dX8_keep_105 : decode cX8_keep 105 = .ok (.iinc 2 1, 3) := by decide +kernel
theorem dX8_keep_108 : decode cX8_keep 108 = .ok (.goto (-28), 3) := by decide +kernel
theorem dX8_keep_111 : decode cX8_keep 111 = .ok (.aload_n 0, 1) := by decide +kernel
theorem dX8_keep_112 : decode cX8_keep 112 = .ok (.dup, 1) := by decide +kernel
theorem dX8_keep_113 : decode cX8_keep 113 = .ok (.getfield 73, 3) := by decide +kernel
theorem dX8_keep_116 : decode cX8_keep 116 = .ok (.iconst 1, 1) := by decide +kernel
theorem dX8_keep_117 : decode cX8_keep 117 = .ok (.iadd, 1) := by decide +kernel
theorem dX8_keep_118 : decode cX8_keep 118 = .ok (.putfield 73, 3) := by decide +kernel
theorem dX8_keep_121 : decode cX8_keep 121 = .ok (.return_, 1) := by decide +kernel
theorem dX8_keepIf_0 : decode cX8_keepIf 0 = .ok (.iload_n 1, 1) := by decide +kernel
theorem dX8_keepIf_1 : decode cX8_keepIf 1 = .ok (.ifCond .eq 7, 3) := by decide +kernel
theorem dX8_keepIf_4 : decode cX8_keepIf 4 = .ok (.aload_n 0, 1) := by decide +kernel
theorem dX8_keepIf_5 : decode cX8_keepIf 5 = .ok (.invokevirtual 84, 3) := by decide +kernel
theorem dX8_keepIf_8 : decode cX8_keepIf 8 = .ok (.return_, 1) := by decide +kernel
theorem dX8_layAside_0 : decode cX8_layAside 0 = .ok (.iconst 0, 1) := by decide +kernel
theorem dX8_layAside_1 : decode cX8_layAside 1 = .ok (.istore_n 1, 1) := by decide +kernel
theorem dX8_layAside_2 : decode cX8_layAside 2 = .ok (.iload_n 1, 1) := by decide +kernel
theorem dX8_layAside_3 : decode cX8_layAside 3 = .ok (.sipush 3506, 3) := by decide +kernel
theorem dX8_layAside_6 : decode cX8_layAside 6 = .ok (.if_icmp .ge 21, 3) := by decide +kernel
theorem dX8_layAside_9 : decode cX8_layAside 9 = .ok (.aload_n 0, 1) := by decide +kernel
theorem dX8_layAside_10 : decode cX8_layAside 10 = .ok (.getfield 35, 3) := by decide +kernel
theorem dX8_layAside_13 : decode cX8_layAside 13 = .ok (.iload_n 1, 1) := by decide +kernel
theorem dX8_layAside_14 : decode cX8_layAside 14 = .ok (.aload_n 0, 1) := by decide +kernel
theorem dX8_layAside_15 : decode cX8_layAside 15 = .ok (.getfield 7, 3) := by decide +kernel
theorem dX8_layAside_18 : decode cX8_layAside 18 = .ok (.iload_n 1, 1) := by decide +kernel
theorem dX8_layAside_19 : decode cX8_layAside 19 = .ok (.iaload, 1) := by decide +kernel
theorem dX8_layAside_20 : decode cX8_layAside 20 = .ok (.iastore, 1) := by decide +kernel
theorem dX8_layAside_21 : decode cX8_layAside 21 = .ok (.iinc 1 1, 3) := by decide +kernel
theorem dX8_layAside_24 : decode cX8_layAside 24 = .ok (.goto (-22), 3) := by decide +kernel
theorem dX8_layAside_27 : decode cX8_layAside 27 = .ok (.iconst 0, 1) := by decide +kernel
theorem dX8_layAside_28 : decode cX8_layAside 28 = .ok (.istore_n 1, 1) := by decide +kernel
theorem dX8_layAside_29 : decode cX8_layAside 29 = .ok (.iload_n 1, 1) := by decide +kernel
theorem dX8_layAside_30 : decode cX8_layAside 30 = .ok (.aload_n 0, 1) := by decide +kernel
theorem dX8_layAside_31 : decode cX8_layAside 31 = .ok (.invokevirtual 80, 3) := by decide +kernel
theorem dX8_layAside_34 : decode cX8_layAside 34 = .ok (.if_icmp .ge 21, 3) := by decide +kernel
theorem dX8_layAside_37 : decode cX8_layAside 37 = .ok (.aload_n 0, 1) := by decide +kernel
theorem dX8_layAside_38 : decode cX8_layAside 38 = .ok (.getfield 38, 3) := by decide +kernel
theorem dX8_layAside_41 : decode cX8_layAside 41 = .ok (.iload_n 1, 1) := by decide +kernel
theorem dX8_layAside_42 : decode cX8_layAside 42 = .ok (.aload_n 0, 1) := by decide +kernel
theorem dX8_layAside_43 : decode cX8_layAside 43 = .ok (.getfield 14, 3) := by decide +kernel
theorem dX8_layAside_46 : decode cX8_layAside 46 = .ok (.iload_n 1, 1) := by decide +kernel
theorem dX8_layAside_47 : decode cX8_layAside 47 = .ok (.iaload, 1) := by decide +kernel
theorem dX8_layAside_48 : decode cX8_layAside 48 = .ok (.iastore, 1) := by decide +kernel
theorem dX8_layAside_49 : decode cX8_layAside 49 = .ok (.iinc 1 1, 3) := by decide +kernel
theorem dX8_layAside_52 : decode cX8_layAside 52 = .ok (.goto (-23), 3) := by decide +kernel
theorem dX8_layAside_55 : decode cX8_layAside 55 = .ok (.return_, 1) := by decide +kernel
theorem dX8_layBack_0 : decode cX8_layBack 0 = .ok (.iconst 0, 1) := by decide +kernel
theorem dX8_layBack_1 : decode cX8_layBack 1 = .ok (.istore_n 1, 1) := by decide +kernel
theorem dX8_layBack_2 : decode cX8_layBack 2 = .ok (.iload_n 1, 1) := by decide +kernel
theorem dX8_layBack_3 : decode cX8_layBack 3 = .ok (.sipush 3506, 3) := by decide +kernel
theorem dX8_layBack_6 : decode cX8_layBack 6 = .ok (.if_icmp .ge 21, 3) := by decide +kernel
theorem dX8_layBack_9 : decode cX8_layBack 9 = .ok (.aload_n 0, 1) := by decide +kernel
theorem dX8_layBack_10 : decode cX8_layBack 10 = .ok (.getfield 7, 3) := by decide +kernel
theorem dX8_layBack_13 : decode cX8_layBack 13 = .ok (.iload_n 1, 1) := by decide +kernel
theorem dX8_layBack_14 : decode cX8_layBack 14 = .ok (.aload_n 0, 1) := by decide +kernel
theorem dX8_layBack_15 : decode cX8_layBack 15 = .ok (.getfield 35, 3) := by decide +kernel
theorem dX8_layBack_18 : decode cX8_layBack 18 = .ok (.iload_n 1, 1) := by decide +kernel
theorem dX8_layBack_19 : decode cX8_layBack 19 = .ok (.iaload, 1) := by decide +kernel
theorem dX8_layBack_20 : decode cX8_layBack 20 = .ok (.iastore, 1) := by decide +kernel
theorem dX8_layBack_21 : decode cX8_layBack 21 = .ok (.iinc 1 1, 3) := by decide +kernel
theorem dX8_layBack_24 : decode cX8_layBack 24 = .ok (.goto (-22), 3) := by decide +kernel
theorem dX8_layBack_27 : decode cX8_layBack 27 = .ok (.iconst 0, 1) := by decide +kernel
theorem dX8_layBack_28 : decode cX8_layBack 28 = .ok (.istore_n 1, 1) := by decide +kernel
theorem dX8_layBack_29 : decode cX8_layBack 29 = .ok (.iload_n 1, 1) := by decide +kernel
theorem dX8_layBack_30 : decode cX8_layBack 30 = .ok (.aload_n 0, 1) := by decide +kernel
theorem dX8_layBack_31 : decode cX8_layBack 31 = .ok (.invokevirtual 80, 3) := by decide +kernel
theorem dX8_layBack_34 : decode cX8_layBack 34 = .ok (.if_icmp .ge 21, 3) := by decide +kernel
theorem dX8_layBack_37 : decode cX8_layBack 37 = .ok (.aload_n 0, 1) := by decide +kernel
theorem dX8_layBack_38 : decode cX8_layBack 38 = .ok (.getfield 14, 3) := by decide +kernel
theorem dX8_layBack_41 : decode cX8_layBack 41 = .ok (.iload_n 1, 1) := by decide +kernel
theorem dX8_layBack_42 : decode cX8_layBack 42 = .ok (.aload_n 0, 1) := by decide +kernel
theorem dX8_layBack_43 : decode cX8_layBack 43 = .ok (.getfield 38, 3) := by decide +kernel
theorem dX8_layBack_46 : decode cX8_layBack 46 = .ok (.iload_n 1, 1) := by decide +kernel
theorem dX8_layBack_47 : decode cX8_layBack 47 = .ok (.iaload, 1) := by decide +kernel
theorem dX8_layBack_48 : decode cX8_layBack 48 = .ok (.iastore, 1) := by decide +kernel
theorem dX8_layBack_49 : decode cX8_layBack 49 = .ok (.iinc 1 1, 3) := by decide +kernel
theorem dX8_layBack_52 : decode cX8_layBack 52 = .ok (.goto (-23), 3) := by decide +kernel
theorem dX8_layBack_55 : decode cX8_layBack 55 = .ok (.return_, 1) := by decide +kernel
theorem dX8_node_0 : decode cX8_node 0 = .ok (.iload_n 1, 1) := by decide +kernel
theorem dX8_node_1 : decode cX8_node 1 = .ok (.invokestatic 69, 3) := by decide +kernel
theorem dX8_node_4 : decode cX8_node 4 = .ok (.ifCond .ne 5, 3) := by decide +kernel
theorem dX8_node_7 : decode cX8_node 7 = .ok (.iconst (-1), 1) := by decide +kernel
theorem dX8_node_8 : decode cX8_node 8 = .ok (.ireturn, 1) := by decide +kernel
theorem dX8_node_9 : decode cX8_node 9 = .ok (.iload_n 2, 1) := by decide +kernel
theorem dX8_node_10 : decode cX8_node 10 = .ok (.iconst 0, 1) := by decide +kernel
theorem dX8_node_11 : decode cX8_node 11 = .ok (.iconst 2, 1) := by decide +kernel
theorem dX8_node_12 : decode cX8_node 12 = .ok (.invokestatic 65, 3) := by decide +kernel
theorem dX8_node_15 : decode cX8_node 15 = .ok (.ifCond .eq 27, 3) := by decide +kernel
theorem dX8_node_18 : decode cX8_node 18 = .ok (.iload_n 3, 1) := by decide +kernel
theorem dX8_node_19 : decode cX8_node 19 = .ok (.iconst 1, 1) := by decide +kernel
theorem dX8_node_20 : decode cX8_node 20 = .ok (.sipush 500, 3) := by decide +kernel
theorem dX8_node_23 : decode cX8_node 23 = .ok (.invokestatic 65, 3) := by decide +kernel
theorem dX8_node_26 : decode cX8_node 26 = .ok (.ifCond .eq 16, 3) := by decide +kernel
theorem dX8_node_29 : decode cX8_node 29 = .ok (.iload 4, 2) := by decide +kernel
theorem dX8_node_31 : decode cX8_node 31 = .ok (.bipush 64, 2) := by decide +kernel
theorem dX8_node_33 : decode cX8_node 33 = .ok (.sipush 20000, 3) := by decide +kernel
theorem dX8_node_36 : decode cX8_node 36 = .ok (.invokestatic 65, 3) := by decide +kernel
theorem dX8_node_39 : decode cX8_node 39 = .ok (.ifCond .ne 6, 3) := by decide +kernel
theorem dX8_node_42 : decode cX8_node 42 = .ok (.bipush (-2), 2) := by decide +kernel
theorem dX8_node_44 : decode cX8_node 44 = .ok (.ireturn, 1) := by decide +kernel
theorem dX8_node_45 : decode cX8_node 45 = .ok (.aload_n 0, 1) := by decide +kernel
theorem dX8_node_46 : decode cX8_node 46 = .ok (.invokevirtual 84, 3) := by decide +kernel
theorem dX8_node_49 : decode cX8_node 49 = .ok (.bipush 14, 2) := by decide +kernel
theorem dX8_node_51 : decode cX8_node 51 = .ok (.bipush 11, 2) := by decide +kernel
theorem dX8_node_53 : decode cX8_node 53 = .ok (.iload_n 1, 1) := by decide +kernel
theorem dX8_node_54 : decode cX8_node 54 = .ok (.imul, 1) := by decide +kernel
theorem dX8_node_55 : decode cX8_node 55 = .ok (.iadd, 1) := by decide +kernel
theorem dX8_node_56 : decode cX8_node 56 = .ok (.istore 5, 2) := by decide +kernel
theorem dX8_node_58 : decode cX8_node 58 = .ok (.aload_n 0, 1) := by decide +kernel
theorem dX8_node_59 : decode cX8_node 59 = .ok (.getfield 7, 3) := by decide +kernel
theorem dX8_node_62 : decode cX8_node 62 = .ok (.iload 5, 2) := by decide +kernel
theorem dX8_node_64 : decode cX8_node 64 = .ok (.iconst 0, 1) := by decide +kernel
theorem dX8_node_65 : decode cX8_node 65 = .ok (.iadd, 1) := by decide +kernel
theorem dX8_node_66 : decode cX8_node 66 = .ok (.iaload, 1) := by decide +kernel
theorem dX8_node_67 : decode cX8_node 67 = .ok (.istore 6, 2) := by decide +kernel
theorem dX8_node_69 : decode cX8_node 69 = .ok (.aload_n 0, 1) := by decide +kernel
theorem dX8_node_70 : decode cX8_node 70 = .ok (.getfield 7, 3) := by decide +kernel
theorem dX8_node_73 : decode cX8_node 73 = .ok (.iload 5, 2) := by decide +kernel
theorem dX8_node_75 : decode cX8_node 75 = .ok (.iconst 0, 1) := by decide +kernel
theorem dX8_node_76 : decode cX8_node 76 = .ok (.iadd, 1) := by decide +kernel
theorem dX8_node_77 : decode cX8_node 77 = .ok (.iload_n 2, 1) := by decide +kernel
theorem dX8_node_78 : decode cX8_node 78 = .ok (.iastore, 1) := by decide +kernel
theorem dX8_node_79 : decode cX8_node 79 = .ok (.aload_n 0, 1) := by decide +kernel
theorem dX8_node_80 : decode cX8_node 80 = .ok (.getfield 7, 3) := by decide +kernel
theorem dX8_node_83 : decode cX8_node 83 = .ok (.iload 5, 2) := by decide +kernel
theorem dX8_node_85 : decode cX8_node 85 = .ok (.iconst 1, 1) := by decide +kernel
theorem dX8_node_86 : decode cX8_node 86 = .ok (.iadd, 1) := by decide +kernel
theorem dX8_node_87 : decode cX8_node 87 = .ok (.iload_n 3, 1) := by decide +kernel
theorem dX8_node_88 : decode cX8_node 88 = .ok (.iastore, 1) := by decide +kernel
theorem dX8_node_89 : decode cX8_node 89 = .ok (.aload_n 0, 1) := by decide +kernel
theorem dX8_node_90 : decode cX8_node 90 = .ok (.getfield 7, 3) := by decide +kernel
theorem dX8_node_93 : decode cX8_node 93 = .ok (.iload 5, 2) := by decide +kernel
theorem dX8_node_95 : decode cX8_node 95 = .ok (.iconst 2, 1) := by decide +kernel
theorem dX8_node_96 : decode cX8_node 96 = .ok (.iadd, 1) := by decide +kernel
theorem dX8_node_97 : decode cX8_node 97 = .ok (.iload 4, 2) := by decide +kernel
theorem dX8_node_99 : decode cX8_node 99 = .ok (.iastore, 1) := by decide +kernel
theorem dX8_node_100 : decode cX8_node 100 = .ok (.iload 6, 2) := by decide +kernel
theorem dX8_node_102 : decode cX8_node 102 = .ok (.ireturn, 1) := by decide +kernel
theorem dX8_bridge_0 : decode cX8_bridge 0 = .ok (.iload_n 1, 1) := by decide +kernel
theorem dX8_bridge_1 : decode cX8_bridge 1 = .ok (.iload_n 2, 1) := by decide +kernel
theorem dX8_bridge_2 : decode cX8_bridge 2 = .ok (.invokestatic 87, 3) := by decide +kernel
theorem dX8_bridge_5 : decode cX8_bridge 5 = .ok (.ifCond .ne 5, 3) := by decide +kernel
theorem dX8_bridge_8 : decode cX8_bridge 8 = .ok (.iconst (-1), 1) := by decide +kernel
theorem dX8_bridge_9 : decode cX8_bridge 9 = .ok (.ireturn, 1) := by decide +kernel
theorem dX8_bridge_10 : decode cX8_bridge 10 = .ok (.iload_n 3, 1) := by decide +kernel
theorem dX8_bridge_11 : decode cX8_bridge 11 = .ok (.bipush 16, 2) := by decide +kernel
theorem dX8_bridge_13 : decode cX8_bridge 13 = .ok (.sipush 1500, 3) := by decide +kernel
theorem dX8_bridge_16 : decode cX8_bridge 16 = .ok (.invokestatic 65, 3) := by decide +kernel
theorem dX8_bridge_19 : decode cX8_bridge 19 = .ok (.ifCond .eq 26, 3) := by decide +kernel
theorem dX8_bridge_22 : decode cX8_bridge 22 = .ok (.iload 4, 2) := by decide +kernel
theorem dX8_bridge_24 : decode cX8_bridge 24 = .ok (.iconst 1, 1) := by decide +kernel
theorem dX8_bridge_25 : decode cX8_bridge 25 = .ok (.bipush 50, 2) := by decide +kernel
theorem dX8_bridge_27 : decode cX8_bridge 27 = .ok (.invokestatic 65, 3) := by decide +kernel
theorem dX8_bridge_30 : decode cX8_bridge 30 = .ok (.ifCond .eq 15, 3) := by decide +kernel
theorem dX8_bridge_33 : decode cX8_bridge 33 = .ok (.iload 5, 2) := by decide +kernel
theorem dX8_bridge_35 : decode cX8_bridge 35 = .ok (.iconst 1, 1) := by decide +kernel
theorem dX8_bridge_36 : decode cX8_bridge 36 = .ok (.sipush 1000, 3) := by decide +kernel
theorem dX8_bridge_39 : decode cX8_bridge 39 = .ok (.invokestatic 65, 3) := by decide +kernel
theorem dX8_bridge_42 : decode cX8_bridge 42 = .ok (.ifCond .ne 6, 3) := by decide +kernel
theorem dX8_bridge_45 : decode cX8_bridge 45 = .ok (.bipush (-2), 2) := by decide +kernel
theorem dX8_bridge_47 : decode cX8_bridge 47 = .ok (.ireturn, 1) := by decide +kernel
theorem dX8_bridge_48 : decode cX8_bridge 48 = .ok (.aload_n 0, 1) := by decide +kernel
theorem dX8_bridge_49 : decode cX8_bridge 49 = .ok (.getfield 7, 3) := by decide +kernel
theorem dX8_bridge_52 : decode cX8_bridge 52 = .ok (.iconst 1, 1) := by decide +kernel
theorem dX8_bridge_53 : decode cX8_bridge 53 = .ok (.iaload, 1) := by decide +kernel
theorem dX8_bridge_54 : decode cX8_bridge 54 = .ok (.bipush 16, 2) := by decide +kernel
theorem dX8_bridge_56 : decode cX8_bridge 56 = .ok (.if_icmp .ne 6, 3) := by decide +kernel
theorem dX8_bridge_59 : decode cX8_bridge 59 = .ok (.bipush (-4), 2) := by decide +kernel
theorem dX8_bridge_61 : decode cX8_bridge 61 = .ok (.ireturn, 1) := by decide +kernel
theorem dX8_bridge_62 : decode cX8_bridge 62 = .ok (.aload_n 0, 1) := by decide +kernel
theorem dX8_bridge_63 : decode cX8_bridge 63 = .ok (.invokevirtual 84, 3) := by decide +kernel
theorem dX8_bridge_66 : decode cX8_bridge 66 = .ok (.bipush 102, 2) := by decide +kernel
theorem dX8_bridge_68 : decode cX8_bridge 68 = .ok (.bipush 9, 2) := by decide +kernel
theorem dX8_bridge_70 : decode cX8_bridge 70 = .ok (.aload_n 0, 1) := by decide +kernel
theorem dX8_bridge_71 : decode cX8_bridge 71 = .ok (.getfield 7, 3) := by decide +kernel
theorem dX8_bridge_74 : decode cX8_bridge 74 = .ok (.iconst 1, 1) := by decide +kernel
theorem dX8_bridge_75 : decode cX8_bridge 75 = .ok (.iaload, 1) := by decide +kernel
theorem dX8_bridge_76 : decode cX8_bridge 76 = .ok (.imul, 1) := by decide +kernel
theorem dX8_bridge_77 : decode cX8_bridge 77 = .ok (.iadd, 1) := by decide +kernel
theorem dX8_bridge_78 : decode cX8_bridge 78 = .ok (.istore 6, 2) := by decide +kernel
theorem dX8_bridge_80 : decode cX8_bridge 80 = .ok (.aload_n 0, 1) := by decide +kernel
theorem dX8_bridge_81 : decode cX8_bridge 81 = .ok (.getfield 7, 3) := by decide +kernel
theorem dX8_bridge_84 : decode cX8_bridge 84 = .ok (.iload 6, 2) := by decide +kernel
theorem dX8_bridge_86 : decode cX8_bridge 86 = .ok (.iconst 0, 1) := by decide +kernel
theorem dX8_bridge_87 : decode cX8_bridge 87 = .ok (.iadd, 1) := by decide +kernel
theorem dX8_bridge_88 : decode cX8_bridge 88 = .ok (.iload_n 1, 1) := by decide +kernel
theorem dX8_bridge_89 : decode cX8_bridge 89 = .ok (.iastore, 1) := by decide +kernel
theorem dX8_bridge_90 : decode cX8_bridge 90 = .ok (.aload_n 0, 1) := by decide +kernel
theorem dX8_bridge_91 : decode cX8_bridge 91 = .ok (.getfield 7, 3) := by decide +kernel
theorem dX8_bridge_94 : decode cX8_bridge 94 = .ok (.iload 6, 2) := by decide +kernel
theorem dX8_bridge_96 : decode cX8_bridge 96 = .ok (.iconst 1, 1) := by decide +kernel
theorem dX8_bridge_97 : decode cX8_bridge 97 = .ok (.iadd, 1) := by decide +kernel
theorem dX8_bridge_98 : decode cX8_bridge 98 = .ok (.iload_n 2, 1) := by decide +kernel
theorem dX8_bridge_99 : decode cX8_bridge 99 = .ok (.iastore, 1) := by decide +kernel
theorem dX8_bridge_100 : decode cX8_bridge 100 = .ok (.aload_n 0, 1) := by decide +kernel
theorem dX8_bridge_101 : decode cX8_bridge 101 = .ok (.getfield 7, 3) := by decide +kernel
theorem dX8_bridge_104 : decode cX8_bridge 104 = .ok (.iload 6, 2) := by decide +kernel
theorem dX8_bridge_106 : decode cX8_bridge 106 = .ok (.iconst 2, 1) := by decide +kernel
theorem dX8_bridge_107 : decode cX8_bridge 107 = .ok (.iadd, 1) := by decide +kernel
theorem dX8_bridge_108 : decode cX8_bridge 108 = .ok (.iload_n 3, 1) := by decide +kernel
theorem dX8_bridge_109 : decode cX8_bridge 109 = .ok (.iastore, 1) := by decide +kernel
theorem dX8_bridge_110 : decode cX8_bridge 110 = .ok (.aload_n 0, 1) := by decide +kernel
theorem dX8_bridge_111 : decode cX8_bridge 111 = .ok (.getfield 7, 3) := by decide +kernel
theorem dX8_bridge_114 : decode cX8_bridge 114 = .ok (.iload 6, 2) := by decide +kernel
theorem dX8_bridge_116 : decode cX8_bridge 116 = .ok (.iconst 3, 1) := by decide +kernel
theorem dX8_bridge_117 : decode cX8_bridge 117 = .ok (.iadd, 1) := by decide +kernel
theorem dX8_bridge_118 : decode cX8_bridge 118 = .ok (.iload 4, 2) := by decide +kernel
theorem dX8_bridge_120 : decode cX8_bridge 120 = .ok (.iastore, 1) := by decide +kernel
theorem dX8_bridge_121 : decode cX8_bridge 121 = .ok (.aload_n 0, 1) := by decide +kernel
theorem dX8_bridge_122 : decode cX8_bridge 122 = .ok (.getfield 7, 3) := by decide +kernel
theorem dX8_bridge_125 : decode cX8_bridge 125 = .ok (.iload 6, 2) := by decide +kernel
theorem dX8_bridge_127 : decode cX8_bridge 127 = .ok (.iconst 4, 1) := by decide +kernel
theorem dX8_bridge_128 : decode cX8_bridge 128 = .ok (.iadd, 1) := by decide +kernel
theorem dX8_bridge_129 : decode cX8_bridge 129 = .ok (.iload 5, 2) := by decide +kernel
theorem dX8_bridge_131 : decode cX8_bridge 131 = .ok (.iastore, 1) := by decide +kernel
theorem dX8_bridge_132 : decode cX8_bridge 132 = .ok (.aload_n 0, 1) := by decide +kernel
theorem dX8_bridge_133 : decode cX8_bridge 133 = .ok (.getfield 7, 3) := by decide +kernel
theorem dX8_bridge_136 : decode cX8_bridge 136 = .ok (.iload 6, 2) := by decide +kernel
theorem dX8_bridge_138 : decode cX8_bridge 138 = .ok (.iconst 5, 1) := by decide +kernel
theorem dX8_bridge_139 : decode cX8_bridge 139 = .ok (.iadd, 1) := by decide +kernel
theorem dX8_bridge_140 : decode cX8_bridge 140 = .ok (.iconst 0, 1) := by decide +kernel
theorem dX8_bridge_141 : decode cX8_bridge 141 = .ok (.iastore, 1) := by decide +kernel
theorem dX8_bridge_142 : decode cX8_bridge 142 = .ok (.aload_n 0, 1) := by decide +kernel
theorem dX8_bridge_143 : decode cX8_bridge 143 = .ok (.getfield 7, 3) := by decide +kernel
theorem dX8_bridge_146 : decode cX8_bridge 146 = .ok (.iload 6, 2) := by decide +kernel
theorem dX8_bridge_148 : decode cX8_bridge 148 = .ok (.bipush 6, 2) := by decide +kernel
theorem dX8_bridge_150 : decode cX8_bridge 150 = .ok (.iadd, 1) := by decide +kernel
theorem dX8_bridge_151 : decode cX8_bridge 151 = .ok (.iconst 0, 1) := by decide +kernel
theorem dX8_bridge_152 : decode cX8_bridge 152 = .ok (.iastore, 1) := by decide +kernel
theorem dX8_bridge_153 : decode cX8_bridge 153 = .ok (.aload_n 0, 1) := by decide +kernel
theorem dX8_bridge_154 : decode cX8_bridge 154 = .ok (.getfield 7, 3) := by decide +kernel
theorem dX8_bridge_157 : decode cX8_bridge 157 = .ok (.iload 6, 2) := by decide +kernel
theorem dX8_bridge_159 : decode cX8_bridge 159 = .ok (.bipush 7, 2) := by decide +kernel
theorem dX8_bridge_161 : decode cX8_bridge 161 = .ok (.iadd, 1) := by decide +kernel
theorem dX8_bridge_162 : decode cX8_bridge 162 = .ok (.iconst 0, 1) := by decide +kernel
theorem dX8_bridge_163 : decode cX8_bridge 163 = .ok (.iastore, 1) := by decide +kernel
theorem dX8_bridge_164 : decode cX8_bridge 164 = .ok (.aload_n 0, 1) := by decide +kernel
theorem dX8_bridge_165 : decode cX8_bridge 165 = .ok (.getfield 7, 3) := by decide +kernel
theorem dX8_bridge_168 : decode cX8_bridge 168 = .ok (.iload 6, 2) := by decide +kernel
theorem dX8_bridge_170 : decode cX8_bridge 170 = .ok (.bipush 8, 2) := by decide +kernel
theorem dX8_bridge_172 : decode cX8_bridge 172 = .ok (.iadd, 1) := by decide +kernel
theorem dX8_bridge_173 : decode cX8_bridge 173 = .ok (.iconst 0, 1) := by decide +kernel
theorem dX8_bridge_174 : decode cX8_bridge 174 = .ok (.iastore, 1) := by decide +kernel
theorem dX8_bridge_175 : decode cX8_bridge 175 = .ok (.aload_n 0, 1) := by decide +kernel
theorem dX8_bridge_176 : decode cX8_bridge 176 = .ok (.getfield 7, 3) := by decide +kernel
theorem dX8_bridge_179 : decode cX8_bridge 179 = .ok (.iconst 1, 1) := by decide +kernel
theorem dX8_bridge_180 : decode cX8_bridge 180 = .ok (.dup2, 1) := by decide +kernel
theorem dX8_bridge_181 : decode cX8_bridge 181 = .ok (.iaload, 1) := by decide +kernel
theorem dX8_bridge_182 : decode cX8_bridge 182 = .ok (.iconst 1, 1) := by decide +kernel
theorem dX8_bridge_183 : decode cX8_bridge 183 = .ok (.iadd, 1) := by decide +kernel
theorem dX8_bridge_184 : decode cX8_bridge 184 = .ok (.iastore, 1) := by decide +kernel
theorem dX8_bridge_185 : decode cX8_bridge 185 = .ok (.aload_n 0, 1) := by decide +kernel
theorem dX8_bridge_186 : decode cX8_bridge 186 = .ok (.getfield 7, 3) := by decide +kernel
theorem dX8_bridge_189 : decode cX8_bridge 189 = .ok (.iconst 1, 1) := by decide +kernel
theorem dX8_bridge_190 : decode cX8_bridge 190 = .ok (.iaload, 1) := by decide +kernel
theorem dX8_bridge_191 : decode cX8_bridge 191 = .ok (.iconst 1, 1) := by decide +kernel
theorem dX8_bridge_192 : decode cX8_bridge 192 = .ok (.isub, 1) := by decide +kernel
theorem dX8_bridge_193 : decode cX8_bridge 193 = .ok (.ireturn, 1) := by decide +kernel
theorem dX8_mend_0 : decode cX8_mend 0 = .ok (.aload_n 0, 1) := by decide +kernel
theorem dX8_mend_1 : decode cX8_mend 1 = .ok (.iload_n 1, 1) := by decide +kernel
theorem dX8_mend_2 : decode cX8_mend 2 = .ok (.invokevirtual 91, 3) := by decide +kernel
theorem dX8_mend_5 : decode cX8_mend 5 = .ok (.ifCond .ne 5, 3) := by decide +kernel
theorem dX8_mend_8 : decode cX8_mend 8 = .ok (.iconst (-1), 1) := by decide +kernel
theorem dX8_mend_9 : decode cX8_mend 9 = .ok (.ireturn, 1) := by decide +kernel
theorem dX8_mend_10 : decode cX8_mend 10 = .ok (.iload_n 2, 1) := by decide +kernel
theorem dX8_mend_11 : decode cX8_mend 11 = .ok (.bipush 16, 2) := by decide +kernel
theorem dX8_mend_13 : decode cX8_mend 13 = .ok (.sipush 1500, 3) := by decide +kernel
theorem dX8_mend_16 : decode cX8_mend 16 = .ok (.invokestatic 65, 3) := by decide +kernel
theorem dX8_mend_19 : decode cX8_mend 19 = .ok (.ifCond .eq 13, 3) := by decide +kernel
theorem dX8_mend_22 : decode cX8_mend 22 = .ok (.iload_n 3, 1) := by decide +kernel
theorem dX8_mend_23 : decode cX8_mend 23 = .ok (.iconst 0, 1) := by decide +kernel
theorem dX8_mend_24 : decode cX8_mend 24 = .ok (.bipush 99, 2) := by decide +kernel
theorem dX8_mend_26 : decode cX8_mend 26 = .ok (.invokestatic 65, 3) := by decide +kernel
theorem dX8_mend_29 : decode cX8_mend 29 = .ok (.ifCond .ne 6, 3) := by decide +kernel
theorem dX8_mend_32 : decode cX8_mend 32 = .ok (.bipush (-2), 2) := by decide +kernel
theorem dX8_mend_34 : decode cX8_mend 34 = .ok (.ireturn, 1) := by decide +kernel
theorem dX8_mend_35 : decode cX8_mend 35 = .ok (.aload_n 0, 1) := by decide +kernel
theorem dX8_mend_36 : decode cX8_mend 36 = .ok (.invokevirtual 84, 3) := by decide +kernel
theorem dX8_mend_39 : decode cX8_mend 39 = .ok (.bipush 102, 2) := by decide +kernel
theorem dX8_mend_41 : decode cX8_mend 41 = .ok (.bipush 9, 2) := by decide +kernel
theorem dX8_mend_43 : decode cX8_mend 43 = .ok (.iload_n 1, 1) := by decide +kernel
theorem dX8_mend_44 : decode cX8_mend 44 = .ok (.imul, 1) := by decide +kernel
theorem dX8_mend_45 : decode cX8_mend 45 = .ok (.iadd, 1) := by decide +kernel
theorem dX8_mend_46 : decode cX8_mend 46 = .ok (.istore 4, 2) := by decide +kernel
theorem dX8_mend_48 : decode cX8_mend 48 = .ok (.aload_n 0, 1) := by decide +kernel
theorem dX8_mend_49 : decode cX8_mend 49 = .ok (.getfield 7, 3) := by decide +kernel
theorem dX8_mend_52 : decode cX8_mend 52 = .ok (.iload 4, 2) := by decide +kernel
theorem dX8_mend_54 : decode cX8_mend 54 = .ok (.iconst 2, 1) := by decide +kernel
theorem dX8_mend_55 : decode cX8_mend 55 = .ok (.iadd, 1) := by decide +kernel
theorem dX8_mend_56 : decode cX8_mend 56 = .ok (.iaload, 1) := by decide +kernel
theorem dX8_mend_57 : decode cX8_mend 57 = .ok (.istore 5, 2) := by decide +kernel
theorem dX8_mend_59 : decode cX8_mend 59 = .ok (.aload_n 0, 1) := by decide +kernel
theorem dX8_mend_60 : decode cX8_mend 60 = .ok (.getfield 7, 3) := by decide +kernel
theorem dX8_mend_63 : decode cX8_mend 63 = .ok (.iload 4, 2) := by decide +kernel
theorem dX8_mend_65 : decode cX8_mend 65 = .ok (.iconst 2, 1) := by decide +kernel
theorem dX8_mend_66 : decode cX8_mend 66 = .ok (.iadd, 1) := by decide +kernel
theorem dX8_mend_67 : decode cX8_mend 67 = .ok (.iload_n 2, 1) := by decide +kernel
theorem dX8_mend_68 : decode cX8_mend 68 = .ok (.iastore, 1) := by decide +kernel
theorem dX8_mend_69 : decode cX8_mend 69 = .ok (.aload_n 0, 1) := by decide +kernel
theorem dX8_mend_70 : decode cX8_mend 70 = .ok (.getfield 7, 3) := by decide +kernel
theorem dX8_mend_73 : decode cX8_mend 73 = .ok (.iload 4, 2) := by decide +kernel
theorem dX8_mend_75 : decode cX8_mend 75 = .ok (.iconst 5, 1) := by decide +kernel
theorem dX8_mend_76 : decode cX8_mend 76 = .ok (.iadd, 1) := by decide +kernel
theorem dX8_mend_77 : decode cX8_mend 77 = .ok (.iload_n 3, 1) := by decide +kernel
theorem dX8_mend_78 : decode cX8_mend 78 = .ok (.iastore, 1) := by decide +kernel
theorem dX8_mend_79 : decode cX8_mend 79 = .ok (.aload_n 0, 1) := by decide +kernel
theorem dX8_mend_80 : decode cX8_mend 80 = .ok (.getfield 7, 3) := by decide +kernel
theorem dX8_mend_83 : decode cX8_mend 83 = .ok (.iload 4, 2) := by decide +kernel
theorem dX8_mend_85 : decode cX8_mend 85 = .ok (.bipush 6, 2) := by decide +kernel
theorem dX8_mend_87 : decode cX8_mend 87 = .ok (.iadd, 1) := by decide +kernel
theorem dX8_mend_88 : decode cX8_mend 88 = .ok (.iconst 0, 1) := by decide +kernel
theorem dX8_mend_89 : decode cX8_mend 89 = .ok (.iastore, 1) := by decide +kernel
theorem dX8_mend_90 : decode cX8_mend 90 = .ok (.iload 5, 2) := by decide +kernel
theorem dX8_mend_92 : decode cX8_mend 92 = .ok (.ireturn, 1) := by decide +kernel
theorem dX8_route_0 : decode cX8_route 0 = .ok (.iload_n 1, 1) := by decide +kernel
theorem dX8_route_1 : decode cX8_route 1 = .ok (.iload_n 2, 1) := by decide +kernel
theorem dX8_route_2 : decode cX8_route 2 = .ok (.invokestatic 87, 3) := by decide +kernel
theorem dX8_route_5 : decode cX8_route 5 = .ok (.ifCond .eq 17, 3) := by decide +kernel
theorem dX8_route_8 : decode cX8_route 8 = .ok (.iload_n 3, 1) := by decide +kernel
theorem dX8_route_9 : decode cX8_route 9 = .ok (.bipush (-6), 2) := by decide +kernel
theorem dX8_route_11 : decode cX8_route 11 = .ok (.if_icmp .eq 13, 3) := by decide +kernel
theorem dX8_route_14 : decode cX8_route 14 = .ok (.aload_n 0, 1) := by decide +kernel
theorem dX8_route_15 : decode cX8_route 15 = .ok (.iload_n 3, 1) := by decide +kernel
theorem dX8_route_16 : decode cX8_route 16 = .ok (.invokevirtual 91, 3) := by decide +kernel
theorem dX8_route_19 : decode cX8_route 19 = .ok (.ifCond .ne 5, 3) := by decide +kernel
theorem dX8_route_22 : decode cX8_route 22 = .ok (.iconst (-1), 1) := by decide +kernel
theorem dX8_route_23 : decode cX8_route 23 = .ok (.ireturn, 1) := by decide +kernel
theorem dX8_route_24 : decode cX8_route 24 = .ok (.iload_n 3, 1) := by decide +kernel
theorem dX8_route_25 : decode cX8_route 25 = .ok (.bipush (-6), 2) := by decide +kernel
theorem dX8_route_27 : decode cX8_route 27 = .ok (.if_icmp .eq 16, 3) := by decide +kernel
theorem dX8_route_30 : decode cX8_route 30 = .ok (.aload_n 0, 1) := by decide +kernel
theorem dX8_route_31 : decode cX8_route 31 = .ok (.iload_n 3, 1) := by decide +kernel
theorem dX8_route_32 : decode cX8_route 32 = .ok (.iconst 0, 1) := by decide +kernel
theorem dX8_route_33 : decode cX8_route 33 = .ok (.invokevirtual 94, 3) := by decide +kernel
theorem dX8_route_36 : decode cX8_route 36 = .ok (.iload_n 1, 1) := by decide +kernel
theorem dX8_route_37 : decode cX8_route 37 = .ok (.if_icmp .eq 6, 3) := by decide +kernel
theorem dX8_route_40 : decode cX8_route 40 = .ok (.bipush (-5), 2) := by decide +kernel
theorem dX8_route_42 : decode cX8_route 42 = .ok (.ireturn, 1) := by decide +kernel
theorem dX8_route_43 : decode cX8_route 43 = .ok (.aload_n 0, 1) := by decide +kernel
theorem dX8_route_44 : decode cX8_route 44 = .ok (.invokevirtual 84, 3) := by decide +kernel
theorem dX8_route_47 : decode cX8_route 47 = .ok (.bipush 14, 2) := by decide +kernel
theorem dX8_route_49 : decode cX8_route 49 = .ok (.bipush 11, 2) := by decide +kernel
theorem dX8_route_51 : decode cX8_route 51 = .ok (.iload_n 1, 1) := by decide +kernel
theorem dX8_route_52 : decode cX8_route 52 = .ok (.imul, 1) := by decide +kernel
theorem dX8_route_53 : decode cX8_route 53 = .ok (.iadd, 1) := by decide +kernel
theorem dX8_route_54 : decode cX8_route 54 = .ok (.iconst 3, 1) := by decide +kernel
theorem dX8_route_55 : decode cX8_route 55 = .ok (.iadd, 1) := by decide +kernel
theorem dX8_route_56 : decode cX8_route 56 = .ok (.iload_n 2, 1) := by decide +kernel
theorem dX8_route_57 : decode cX8_route 57 = .ok (.iadd, 1) := by decide +kernel
theorem dX8_route_58 : decode cX8_route 58 = .ok (.istore 4, 2) := by decide +kernel
theorem dX8_route_60 : decode cX8_route 60 = .ok (.aload_n 0, 1) := by decide +kernel
theorem dX8_route_61 : decode cX8_route 61 = .ok (.getfield 7, 3) := by decide +kernel
theorem dX8_route_64 : decode cX8_route 64 = .ok (.iload 4, 2) := by decide +kernel
theorem dX8_route_66 : decode cX8_route 66 = .ok (.iaload, 1) := by decide +kernel
theorem dX8_route_67 : decode cX8_route 67 = .ok (.istore 5, 2) := by decide +kernel
theorem dX8_route_69 : decode cX8_route 69 = .ok (.aload_n 0, 1) := by decide +kernel
theorem dX8_route_70 : decode cX8_route 70 = .ok (.getfield 7, 3) := by decide +kernel
theorem dX8_route_73 : decode cX8_route 73 = .ok (.iload 4, 2) := by decide +kernel
theorem dX8_route_75 : decode cX8_route 75 = .ok (.iload_n 3, 1) := by decide +kernel
theorem dX8_route_76 : decode cX8_route 76 = .ok (.iastore, 1) := by decide +kernel
theorem dX8_route_77 : decode cX8_route 77 = .ok (.iload 5, 2) := by decide +kernel
theorem dX8_route_79 : decode cX8_route 79 = .ok (.ireturn, 1) := by decide +kernel
theorem dX8_makeSlice_0 : decode cX8_makeSlice 0 = .ok (.aload_n 0, 1) := by decide +kernel
theorem dX8_makeSlice_1 : decode cX8_makeSlice 1 = .ok (.getfield 7, 3) := by decide +kernel
theorem dX8_makeSlice_4 : decode cX8_makeSlice 4 = .ok (.iconst 3, 1) := by decide +kernel
theorem dX8_makeSlice_5 : decode cX8_makeSlice 5 = .ok (.iaload, 1) := by decide +kernel
theorem dX8_makeSlice_6 : decode cX8_makeSlice 6 = .ok (.istore 8, 2) := by decide +kernel
theorem dX8_makeSlice_8 : decode cX8_makeSlice 8 = .ok (.aload_n 0, 1) := by decide +kernel
theorem dX8_makeSlice_9 : decode cX8_makeSlice 9 = .ok (.iload 8, 2) := by decide +kernel
theorem dX8_makeSlice_11 : decode cX8_makeSlice 11 = .ok (.iconst 0, 1) := by decide +kernel
theorem dX8_makeSlice_12 : decode cX8_makeSlice 12 = .ok (.iload_n 1, 1) := by decide +kernel
theorem dX8_makeSlice_13 : decode cX8_makeSlice 13 = .ok (.invokevirtual 98, 3) := by decide +kernel
theorem dX8_makeSlice_16 : decode cX8_makeSlice 16 = .ok (.aload_n 0, 1) := by decide +kernel
theorem dX8_makeSlice_17 : decode cX8_makeSlice 17 = .ok (.iload 8, 2) := by decide +kernel
theorem dX8_makeSlice_19 : decode cX8_makeSlice 19 = .ok (.iconst 1, 1) := by decide +kernel
theorem dX8_makeSlice_20 : decode cX8_makeSlice 20 = .ok (.iload_n 2, 1) := by decide +kernel
theorem dX8_makeSlice_21 : decode cX8_makeSlice 21 = .ok (.invokevirtual 98, 3) := by decide +kernel
theorem dX8_makeSlice_24 : decode cX8_makeSlice 24 = .ok (.aload_n 0, 1) := by decide +kernel
theorem dX8_makeSlice_25 : decode cX8_makeSlice 25 = .ok (.iload 8, 2) := by decide +kernel
theorem dX8_makeSlice_27 : decode cX8_makeSlice 27 = .ok (.iconst 2, 1) := by decide +kernel
theorem dX8_makeSlice_28 : decode cX8_makeSlice 28 = .ok (.iload_n 3, 1) := by decide +kernel
theorem dX8_makeSlice_29 : decode cX8_makeSlice 29 = .ok (.invokevirtual 98, 3) := by decide +kernel
theorem dX8_makeSlice_32 : decode cX8_makeSlice 32 = .ok (.aload_n 0, 1) := by decide +kernel
theorem dX8_makeSlice_33 : decode cX8_makeSlice 33 = .ok (.iload 8, 2) := by decide +kernel
theorem dX8_makeSlice_35 : decode cX8_makeSlice 35 = .ok (.iconst 3, 1) := by decide +kernel
theorem dX8_makeSlice_36 : decode cX8_makeSlice 36 = .ok (.iload 4, 2) := by decide +kernel
theorem dX8_makeSlice_38 : decode cX8_makeSlice 38 = .ok (.invokevirtual 98, 3) := by decide +kernel
theorem dX8_makeSlice_41 : decode cX8_makeSlice 41 = .ok (.aload_n 0, 1) := by decide +kernel
theorem dX8_makeSlice_42 : decode cX8_makeSlice 42 = .ok (.iload 8, 2) := by decide +kernel
theorem dX8_makeSlice_44 : decode cX8_makeSlice 44 = .ok (.iconst 4, 1) := by decide +kernel
theorem dX8_makeSlice_45 : decode cX8_makeSlice 45 = .ok (.iload 5, 2) := by decide +kernel
theorem dX8_makeSlice_47 : decode cX8_makeSlice 47 = .ok (.invokevirtual 98, 3) := by decide +kernel
theorem dX8_makeSlice_50 : decode cX8_makeSlice 50 = .ok (.aload_n 0, 1) := by decide +kernel
theorem dX8_makeSlice_51 : decode cX8_makeSlice 51 = .ok (.iload 8, 2) := by decide +kernel
theorem dX8_makeSlice_53 : decode cX8_makeSlice 53 = .ok (.iconst 5, 1) := by decide +kernel
theorem dX8_makeSlice_54 : decode cX8_makeSlice 54 = .ok (.iload 6, 2) := by decide +kernel
theorem dX8_makeSlice_56 : decode cX8_makeSlice 56 = .ok (.invokevirtual 98, 3) := by decide +kernel
theorem dX8_makeSlice_59 : decode cX8_makeSlice 59 = .ok (.aload_n 0, 1) := by decide +kernel
theorem dX8_makeSlice_60 : decode cX8_makeSlice 60 = .ok (.iload 8, 2) := by decide +kernel
theorem dX8_makeSlice_62 : decode cX8_makeSlice 62 = .ok (.bipush 6, 2) := by decide +kernel
theorem dX8_makeSlice_64 : decode cX8_makeSlice 64 = .ok (.aload_n 0, 1) := by decide +kernel
theorem dX8_makeSlice_65 : decode cX8_makeSlice 65 = .ok (.getfield 7, 3) := by decide +kernel
theorem dX8_makeSlice_68 : decode cX8_makeSlice 68 = .ok (.iconst 0, 1) := by decide +kernel
theorem dX8_makeSlice_69 : decode cX8_makeSlice 69 = .ok (.iaload, 1) := by decide +kernel
theorem dX8_makeSlice_70 : decode cX8_makeSlice 70 = .ok (.invokevirtual 98, 3) := by decide +kernel
theorem dX8_makeSlice_73 : decode cX8_makeSlice 73 = .ok (.aload_n 0, 1) := by decide +kernel
theorem dX8_makeSlice_74 : decode cX8_makeSlice 74 = .ok (.iload 8, 2) := by decide +kernel
theorem dX8_makeSlice_76 : decode cX8_makeSlice 76 = .ok (.bipush 7, 2) := by decide +kernel
theorem dX8_makeSlice_78 : decode cX8_makeSlice 78 = .ok (.iload 7, 2) := by decide +kernel
theorem dX8_makeSlice_80 : decode cX8_makeSlice 80 = .ok (.invokevirtual 98, 3) := by decide +kernel
theorem dX8_makeSlice_83 : decode cX8_makeSlice 83 = .ok (.aload_n 0, 1) := by decide +kernel
theorem dX8_makeSlice_84 : decode cX8_makeSlice 84 = .ok (.getfield 7, 3) := by decide +kernel
theorem dX8_makeSlice_87 : decode cX8_makeSlice 87 = .ok (.iconst 3, 1) := by decide +kernel
theorem dX8_makeSlice_88 : decode cX8_makeSlice 88 = .ok (.dup2, 1) := by decide +kernel
theorem dX8_makeSlice_89 : decode cX8_makeSlice 89 = .ok (.iaload, 1) := by decide +kernel
theorem dX8_makeSlice_90 : decode cX8_makeSlice 90 = .ok (.iconst 1, 1) := by decide +kernel
theorem dX8_makeSlice_91 : decode cX8_makeSlice 91 = .ok (.iadd, 1) := by decide +kernel
theorem dX8_makeSlice_92 : decode cX8_makeSlice 92 = .ok (.iastore, 1) := by decide +kernel
theorem dX8_makeSlice_93 : decode cX8_makeSlice 93 = .ok (.return_, 1) := by decide +kernel
theorem dX8_removeSlice_0 : decode cX8_removeSlice 0 = .ok (.aload_n 0, 1) := by decide +kernel
theorem dX8_removeSlice_1 : decode cX8_removeSlice 1 = .ok (.getfield 7, 3) := by decide +kernel
theorem dX8_removeSlice_4 : decode cX8_removeSlice 4 = .ok (.iconst 3, 1) := by decide +kernel
theorem dX8_removeSlice_5 : decode cX8_removeSlice 5 = .ok (.dup2, 1) := by decide +kernel
theorem dX8_removeSlice_6 : decode cX8_removeSlice 6 = .ok (.iaload, 1) := by decide +kernel
theorem dX8_removeSlice_7 : decode cX8_removeSlice 7 = .ok (.iconst 1, 1) := by decide +kernel
theorem dX8_removeSlice_8 : decode cX8_removeSlice 8 = .ok (.isub, 1) := by decide +kernel
theorem dX8_removeSlice_9 : decode cX8_removeSlice 9 = .ok (.iastore, 1) := by decide +kernel
theorem dX8_removeSlice_10 : decode cX8_removeSlice 10 = .ok (.sipush 806, 3) := by decide +kernel
theorem dX8_removeSlice_13 : decode cX8_removeSlice 13 = .ok (.bipush 9, 2) := by decide +kernel
theorem dX8_removeSlice_15 : decode cX8_removeSlice 15 = .ok (.iload_n 1, 1) := by decide +kernel
theorem dX8_removeSlice_16 : decode cX8_removeSlice 16 = .ok (.imul, 1) := by decide +kernel
theorem dX8_removeSlice_17 : decode cX8_removeSlice 17 = .ok (.iadd, 1) := by decide +kernel
theorem dX8_removeSlice_18 : decode cX8_removeSlice 18 = .ok (.istore_n 2, 1) := by decide +kernel
theorem dX8_removeSlice_19 : decode cX8_removeSlice 19 = .ok (.iload_n 2, 1) := by decide +kernel
theorem dX8_removeSlice_20 : decode cX8_removeSlice 20 = .ok (.sipush 806, 3) := by decide +kernel
theorem dX8_removeSlice_23 : decode cX8_removeSlice 23 = .ok (.bipush 9, 2) := by decide +kernel
theorem dX8_removeSlice_25 : decode cX8_removeSlice 25 = .ok (.aload_n 0, 1) := by decide +kernel
theorem dX8_removeSlice_26 : decode cX8_removeSlice 26 = .ok (.getfield 7, 3) := by decide +kernel
theorem dX8_removeSlice_29 : decode cX8_removeSlice 29 = .ok (.iconst 3, 1) := by decide +kernel
theorem dX8_removeSlice_30 : decode cX8_removeSlice 30 = .ok (.iaload, 1) := by decide +kernel
theorem dX8_removeSlice_31 : decode cX8_removeSlice 31 = .ok (.imul, 1) := by decide +kernel
theorem dX8_removeSlice_32 : decode cX8_removeSlice 32 = .ok (.iadd, 1) := by decide +kernel
theorem dX8_removeSlice_33 : decode cX8_removeSlice 33 = .ok (.if_icmp .ge 24, 3) := by decide +kernel
theorem dX8_removeSlice_36 : decode cX8_removeSlice 36 = .ok (.aload_n 0, 1) := by decide +kernel
theorem dX8_removeSlice_37 : decode cX8_removeSlice 37 = .ok (.getfield 7, 3) := by decide +kernel
theorem dX8_removeSlice_40 : decode cX8_removeSlice 40 = .ok (.iload_n 2, 1) := by decide +kernel
theorem dX8_removeSlice_41 : decode cX8_removeSlice 41 = .ok (.aload_n 0, 1) := by decide +kernel
theorem dX8_removeSlice_42 : decode cX8_removeSlice 42 = .ok (.getfield 7, 3) := by decide +kernel
theorem dX8_removeSlice_45 : decode cX8_removeSlice 45 = .ok (.iload_n 2, 1) := by decide +kernel
theorem dX8_removeSlice_46 : decode cX8_removeSlice 46 = .ok (.bipush 9, 2) := by decide +kernel
theorem dX8_removeSlice_48 : decode cX8_removeSlice 48 = .ok (.iadd, 1) := by decide +kernel
theorem dX8_removeSlice_49 : decode cX8_removeSlice 49 = .ok (.iaload, 1) := by decide +kernel
theorem dX8_removeSlice_50 : decode cX8_removeSlice 50 = .ok (.iastore, 1) := by decide +kernel
theorem dX8_removeSlice_51 : decode cX8_removeSlice 51 = .ok (.iinc 2 1, 3) := by decide +kernel
theorem dX8_removeSlice_54 : decode cX8_removeSlice 54 = .ok (.goto (-35), 3) := by decide +kernel
theorem dX8_removeSlice_57 : decode cX8_removeSlice 57 = .ok (.return_, 1) := by decide +kernel
theorem dX8_countDrop_0 : decode cX8_countDrop 0 = .ok (.aload_n 0, 1) := by decide +kernel
theorem dX8_countDrop_1 : decode cX8_countDrop 1 = .ok (.getfield 7, 3) := by decide +kernel
theorem dX8_countDrop_4 : decode cX8_countDrop 4 = .ok (.bipush 6, 2) := by decide +kernel
theorem dX8_countDrop_6 : decode cX8_countDrop 6 = .ok (.iload_n 2, 1) := by decide +kernel
theorem dX8_countDrop_7 : decode cX8_countDrop 7 = .ok (.iadd, 1) := by decide +kernel
theorem dX8_countDrop_8 : decode cX8_countDrop 8 = .ok (.dup2, 1) := by decide +kernel
theorem dX8_countDrop_9 : decode cX8_countDrop 9 = .ok (.iaload, 1) := by decide +kernel
theorem dX8_countDrop_10 : decode cX8_countDrop 10 = .ok (.iconst 1, 1) := by decide +kernel
theorem dX8_countDrop_11 : decode cX8_countDrop 11 = .ok (.iadd, 1) := by decide +kernel
theorem dX8_countDrop_12 : decode cX8_countDrop 12 = .ok (.iastore, 1) := by decide +kernel
theorem dX8_countDrop_13 : decode cX8_countDrop 13 = .ok (.aload_n 0, 1) := by decide +kernel
theorem dX8_countDrop_14 : decode cX8_countDrop 14 = .ok (.iload_n 1, 1) := by decide +kernel
theorem dX8_countDrop_15 : decode cX8_countDrop 15 = .ok (.bipush 11, 2) := by decide +kernel
theorem dX8_countDrop_17 : decode cX8_countDrop 17 = .ok (.aload_n 0, 1) := by decide +kernel
theorem dX8_countDrop_18 : decode cX8_countDrop 18 = .ok (.iload_n 1, 1) := by decide +kernel
theorem dX8_countDrop_19 : decode cX8_countDrop 19 = .ok (.bipush 11, 2) := by decide +kernel
theorem dX8_countDrop_21 : decode cX8_countDrop 21 = .ok (.invokevirtual 102, 3) := by decide +kernel
theorem dX8_countDrop_24 : decode cX8_countDrop 24 = .ok (.iconst 1, 1) := by decide +kernel
theorem dX8_countDrop_25 : decode cX8_countDrop 25 = .ok (.iadd, 1) := by decide +kernel
theorem dX8_countDrop_26 : decode cX8_countDrop 26 = .ok (.invokevirtual 105, 3) := by decide +kernel
theorem dX8_countDrop_29 : decode cX8_countDrop 29 = .ok (.return_, 1) := by decide +kernel
theorem dX8_drop_0 : decode cX8_drop 0 = .ok (.aload_n 0, 1) := by decide +kernel
theorem dX8_drop_1 : decode cX8_drop 1 = .ok (.aload_n 0, 1) := by decide +kernel
theorem dX8_drop_2 : decode cX8_drop 2 = .ok (.iload_n 1, 1) := by decide +kernel
theorem dX8_drop_3 : decode cX8_drop 3 = .ok (.iconst 0, 1) := by decide +kernel
theorem dX8_drop_4 : decode cX8_drop 4 = .ok (.invokevirtual 108, 3) := by decide +kernel
theorem dX8_drop_7 : decode cX8_drop 7 = .ok (.iload_n 2, 1) := by decide +kernel
theorem dX8_drop_8 : decode cX8_drop 8 = .ok (.invokevirtual 111, 3) := by decide +kernel
theorem dX8_drop_11 : decode cX8_drop 11 = .ok (.aload_n 0, 1) := by decide +kernel
theorem dX8_drop_12 : decode cX8_drop 12 = .ok (.iload_n 1, 1) := by decide +kernel
theorem dX8_drop_13 : decode cX8_drop 13 = .ok (.invokevirtual 115, 3) := by decide +kernel
theorem dX8_drop_16 : decode cX8_drop 16 = .ok (.return_, 1) := by decide +kernel
theorem dX8_trySend_0 : decode cX8_trySend 0 = .ok (.iload_n 1, 1) := by decide +kernel
theorem dX8_trySend_1 : decode cX8_trySend 1 = .ok (.iload_n 2, 1) := by decide +kernel
theorem dX8_trySend_2 : decode cX8_trySend 2 = .ok (.invokestatic 87, 3) := by decide +kernel
theorem dX8_trySend_5 : decode cX8_trySend 5 = .ok (.ifCond .ne 5, 3) := by decide +kernel
theorem dX8_trySend_8 : decode cX8_trySend 8 = .ok (.iconst (-1), 1) := by decide +kernel
theorem dX8_trySend_9 : decode cX8_trySend 9 = .ok (.ireturn, 1) := by decide +kernel
theorem dX8_trySend_10 : decode cX8_trySend 10 = .ok (.iload_n 3, 1) := by decide +kernel
theorem dX8_trySend_11 : decode cX8_trySend 11 = .ok (.iconst 1, 1) := by decide +kernel
theorem dX8_trySend_12 : decode cX8_trySend 12 = .ok (.sipush 4000, 3) := by decide +kernel
theorem dX8_trySend_15 : decode cX8_trySend 15 = .ok (.invokestatic 65, 3) := by decide +kernel
theorem dX8_trySend_18 : decode cX8_trySend 18 = .ok (.ifCond .eq 26, 3) := by decide +kernel
theorem dX8_trySend_21 : decode cX8_trySend 21 = .ok (.iload 4, 2) := by decide +kernel
theorem dX8_trySend_23 : decode cX8_trySend 23 = .ok (.iconst 0, 1) := by decide +kernel
theorem dX8_trySend_24 : decode cX8_trySend 24 = .ok (.sipush 255, 3) := by decide +kernel
theorem dX8_trySend_27 : decode cX8_trySend 27 = .ok (.invokestatic 65, 3) := by decide +kernel
theorem dX8_trySend_30 : decode cX8_trySend 30 = .ok (.ifCond .eq 14, 3) := by decide +kernel
theorem dX8_trySend_33 : decode cX8_trySend 33 = .ok (.iload 5, 2) := by decide +kernel
theorem dX8_trySend_35 : decode cX8_trySend 35 = .ok (.iconst 2, 1) := by decide +kernel
theorem dX8_trySend_36 : decode cX8_trySend 36 = .ok (.bipush 41, 2) := by decide +kernel
theorem dX8_trySend_38 : decode cX8_trySend 38 = .ok (.invokestatic 65, 3) := by decide +kernel
theorem dX8_trySend_41 : decode cX8_trySend 41 = .ok (.ifCond .ne 6, 3) := by decide +kernel
theorem dX8_trySend_44 : decode cX8_trySend 44 = .ok (.bipush (-2), 2) := by decide +kernel
theorem dX8_trySend_46 : decode cX8_trySend 46 = .ok (.ireturn, 1) := by decide +kernel
theorem dX8_trySend_47 : decode cX8_trySend 47 = .ok (.aload_n 0, 1) := by decide +kernel
theorem dX8_trySend_48 : decode cX8_trySend 48 = .ok (.getfield 7, 3) := by decide +kernel
theorem dX8_trySend_51 : decode cX8_trySend 51 = .ok (.iconst 2, 1) := by decide +kernel
theorem dX8_trySend_52 : decode cX8_trySend 52 = .ok (.iaload, 1) := by decide +kernel
theorem dX8_trySend_53 : decode cX8_trySend 53 = .ok (.bipush 40, 2) := by decide +kernel
theorem dX8_trySend_55 : decode cX8_trySend 55 = .ok (.if_icmp .eq 15, 3) := by decide +kernel
theorem dX8_trySend_58 : decode cX8_trySend 58 = .ok (.aload_n 0, 1) := by decide +kernel
theorem dX8_trySend_59 : decode cX8_trySend 59 = .ok (.getfield 7, 3) := by decide +kernel
theorem dX8_trySend_62 : decode cX8_trySend 62 = .ok (.iconst 3, 1) := by decide +kernel
theorem dX8_trySend_63 : decode cX8_trySend 63 = .ok (.iaload, 1) := by decide +kernel
theorem dX8_trySend_64 : decode cX8_trySend 64 = .ok (.sipush 300, 3) := by decide +kernel
theorem dX8_trySend_67 : decode cX8_trySend 67 = .ok (.if_icmp .ne 6, 3) := by decide +kernel
theorem dX8_trySend_70 : decode cX8_trySend 70 = .ok (.bipush (-4), 2) := by decide +kernel
theorem dX8_trySend_72 : decode cX8_trySend 72 = .ok (.ireturn, 1) := by decide +kernel
theorem dX8_trySend_73 : decode cX8_trySend 73 = .ok (.aload_n 0, 1) := by decide +kernel
theorem dX8_trySend_74 : decode cX8_trySend 74 = .ok (.iload 6, 2) := by decide +kernel
theorem dX8_trySend_76 : decode cX8_trySend 76 = .ok (.invokevirtual 119, 3) := by decide +kernel
theorem dX8_trySend_79 : decode cX8_trySend 79 = .ok (.aload_n 0, 1) := by decide +kernel
theorem dX8_trySend_80 : decode cX8_trySend 80 = .ok (.getfield 7, 3) := by decide +kernel
theorem dX8_trySend_83 : decode cX8_trySend 83 = .ok (.iconst 2, 1) := by decide +kernel
theorem dX8_trySend_84 : decode cX8_trySend 84 = .ok (.iaload, 1) := by decide +kernel
theorem dX8_trySend_85 : decode cX8_trySend 85 = .ok (.istore 7, 2) := by decide +kernel
theorem dX8_trySend_87 : decode cX8_trySend 87 = .ok (.iconst 0, 1) := by decide +kernel
theorem dX8_trySend_88 : decode cX8_trySend 88 = .ok (.istore 8, 2) := by decide +kernel
theorem dX8_trySend_90 : decode cX8_trySend 90 = .ok (.iload 8, 2) := by decide +kernel
theorem dX8_trySend_92 : decode cX8_trySend 92 = .ok (.bipush 14, 2) := by decide +kernel
theorem dX8_trySend_94 : decode cX8_trySend 94 = .ok (.if_icmp .ge 18, 3) := by decide +kernel
theorem dX8_trySend_97 : decode cX8_trySend 97 = .ok (.aload_n 0, 1) := by decide +kernel
theorem dX8_trySend_98 : decode cX8_trySend 98 = .ok (.iload 7, 2) := by decide +kernel
theorem dX8_trySend_100 : decode cX8_trySend 100 = .ok (.iload 8, 2) := by decide +kernel
theorem dX8_trySend_102 : decode cX8_trySend 102 = .ok (.iconst 0, 1) := by decide +kernel
theorem dX8_trySend_103 : decode cX8_trySend 103 = .ok (.invokevirtual 105, 3) := by decide +kernel
theorem dX8_trySend_106 : decode cX8_trySend 106 = .ok (.iinc 8 1, 3) := by decide +kernel
theorem dX8_trySend_109 : decode cX8_trySend 109 = .ok (.goto (-19), 3) := by decide +kernel
theorem dX8_trySend_112 : decode cX8_trySend 112 = .ok (.aload_n 0, 1) := by decide +kernel
theorem dX8_trySend_113 : decode cX8_trySend 113 = .ok (.iload 7, 2) := by decide +kernel
theorem dX8_trySend_115 : decode cX8_trySend 115 = .ok (.iconst 0, 1) := by decide +kernel
theorem dX8_trySend_116 : decode cX8_trySend 116 = .ok (.iload_n 1, 1) := by decide +kernel
theorem dX8_trySend_117 : decode cX8_trySend 117 = .ok (.invokevirtual 105, 3) := by decide +kernel
theorem dX8_trySend_120 : decode cX8_trySend 120 = .ok (.aload_n 0, 1) := by decide +kernel
theorem dX8_trySend_121 : decode cX8_trySend 121 = .ok (.iload 7, 2) := by decide +kernel
theorem dX8_trySend_123 : decode cX8_trySend 123 = .ok (.iconst 1, 1) := by decide +kernel
theorem dX8_trySend_124 : decode cX8_trySend 124 = .ok (.iload_n 2, 1) := by decide +kernel
theorem dX8_trySend_125 : decode cX8_trySend 125 = .ok (.invokevirtual 105, 3) := by decide +kernel
theorem dX8_trySend_128 : decode cX8_trySend 128 = .ok (.aload_n 0, 1) := by decide +kernel
theorem dX8_trySend_129 : decode cX8_trySend 129 = .ok (.iload 7, 2) := by decide +kernel
theorem dX8_trySend_131 : decode cX8_trySend 131 = .ok (.iconst 2, 1) := by decide +kernel
theorem dX8_trySend_132 : decode cX8_trySend 132 = .ok (.iload_n 3, 1) := by decide +kernel
theorem dX8_trySend_133 : decode cX8_trySend 133 = .ok (.invokevirtual 105, 3) := by decide +kernel
theorem dX8_trySend_136 : decode cX8_trySend 136 = .ok (.aload_n 0, 1) := by decide +kernel
theorem dX8_trySend_137 : decode cX8_trySend 137 = .ok (.iload 7, 2) := by decide +kernel
theorem dX8_trySend_139 : decode cX8_trySend 139 = .ok (.iconst 3, 1) := by decide +kernel
theorem dX8_trySend_140 : decode cX8_trySend 140 = .ok (.iload 4, 2) := by decide +kernel
theorem dX8_trySend_142 : decode cX8_trySend 142 = .ok (.invokevirtual 105, 3) := by decide +kernel
theorem dX8_trySend_145 : decode cX8_trySend 145 = .ok (.aload_n 0, 1) := by decide +kernel
theorem dX8_trySend_146 : decode cX8_trySend 146 = .ok (.iload 7, 2) := by decide +kernel
theorem dX8_trySend_148 : decode cX8_trySend 148 = .ok (.iconst 4, 1) := by decide +kernel
theorem dX8_trySend_149 : decode cX8_trySend 149 = .ok (.iload 5, 2) := by decide +kernel
theorem dX8_trySend_151 : decode cX8_trySend 151 = .ok (.iconst 2, 1) := by decide +kernel
theorem dX8_trySend_152 : decode cX8_trySend 152 = .ok (.irem, 1) := by decide +kernel
theorem dX8_trySend_153 : decode cX8_trySend 153 = .ok (.invokevirtual 105, 3) := by decide +kernel
theorem dX8_trySend_156 : decode cX8_trySend 156 = .ok (.aload_n 0, 1) := by decide +kernel
theorem dX8_trySend_157 : decode cX8_trySend 157 = .ok (.iload 7, 2) := by decide +kernel
theorem dX8_trySend_159 : decode cX8_trySend 159 = .ok (.bipush 7, 2) := by decide +kernel
theorem dX8_trySend_161 : decode cX8_trySend 161 = .ok (.iload 5, 2) := by decide +kernel
theorem dX8_trySend_163 : decode cX8_trySend 163 = .ok (.iconst 2, 1) := by decide +kernel
theorem dX8_trySend_164 : decode cX8_trySend 164 = .ok (.idiv, 1) := by decide +kernel
theorem dX8_trySend_165 : decode cX8_trySend 165 = .ok (.invokevirtual 105, 3) := by decide +kernel
theorem dX8_trySend_168 : decode cX8_trySend 168 = .ok (.aload_n 0, 1) := by decide +kernel
theorem dX8_trySend_169 : decode cX8_trySend 169 = .ok (.iload 7, 2) := by decide +kernel
theorem dX8_trySend_171 : decode cX8_trySend 171 = .ok (.bipush 6, 2) := by decide +kernel
theorem dX8_trySend_173 : decode cX8_trySend 173 = .ok (.iconst 1, 1) := by decide +kernel
theorem dX8_trySend_174 : decode cX8_trySend 174 = .ok (.invokevirtual 105, 3) := by decide +kernel
theorem dX8_trySend_177 : decode cX8_trySend 177 = .ok (.aload_n 0, 1) := by decide +kernel
theorem dX8_trySend_178 : decode cX8_trySend 178 = .ok (.iload 7, 2) := by decide +kernel
theorem dX8_trySend_180 : decode cX8_trySend 180 = .ok (.bipush 8, 2) := by decide +kernel
theorem dX8_trySend_182 : decode cX8_trySend 182 = .ok (.bipush (-6), 2) := by decide +kernel
theorem dX8_trySend_184 : decode cX8_trySend 184 = .ok (.invokevirtual 105, 3) := by decide +kernel
theorem dX8_trySend_187 : decode cX8_trySend 187 = .ok (.aload_n 0, 1) := by decide +kernel
theorem dX8_trySend_188 : decode cX8_trySend 188 = .ok (.iload 7, 2) := by decide +kernel
theorem dX8_trySend_190 : decode cX8_trySend 190 = .ok (.bipush 9, 2) := by decide +kernel
theorem dX8_trySend_192 : decode cX8_trySend 192 = .ok (.bipush (-6), 2) := by decide +kernel
theorem dX8_trySend_194 : decode cX8_trySend 194 = .ok (.invokevirtual 105, 3) := by decide +kernel
theorem dX8_trySend_197 : decode cX8_trySend 197 = .ok (.aload_n 0, 1) := by decide +kernel
theorem dX8_trySend_198 : decode cX8_trySend 198 = .ok (.iload 7, 2) := by decide +kernel
theorem dX8_trySend_200 : decode cX8_trySend 200 = .ok (.bipush 10, 2) := by decide +kernel
theorem dX8_trySend_202 : decode cX8_trySend 202 = .ok (.bipush (-6), 2) := by decide +kernel
theorem dX8_trySend_204 : decode cX8_trySend 204 = .ok (.invokevirtual 105, 3) := by decide +kernel
theorem dX8_trySend_207 : decode cX8_trySend 207 = .ok (.iconst 0, 1) := by decide +kernel
theorem dX8_trySend_208 : decode cX8_trySend 208 = .ok (.istore 8, 2) := by decide +kernel
theorem dX8_trySend_210 : decode cX8_trySend 210 = .ok (.iload 8, 2) := by decide +kernel
theorem dX8_trySend_212 : decode cX8_trySend 212 = .ok (.sipush 4000, 3) := by decide +kernel
theorem dX8_trySend_215 : decode cX8_trySend 215 = .ok (.if_icmp .ge 25, 3) := by decide +kernel
theorem dX8_trySend_218 : decode cX8_trySend 218 = .ok (.aload_n 0, 1) := by decide +kernel
theorem dX8_trySend_219 : decode cX8_trySend 219 = .ok (.getfield 14, 3) := by decide +kernel
theorem dX8_trySend_222 : decode cX8_trySend 222 = .ok (.sipush 4000, 3) := by decide +kernel
theorem dX8_trySend_225 : decode cX8_trySend 225 = .ok (.iload 7, 2) := by decide +kernel
theorem dX8_trySend_227 : decode cX8_trySend 227 = .ok (.imul, 1) := by decide +kernel
theorem dX8_trySend_228 : decode cX8_trySend 228 = .ok (.iload 8, 2) := by decide +kernel
theorem dX8_trySend_230 : decode cX8_trySend 230 = .ok (.iadd, 1) := by decide +kernel
theorem dX8_trySend_231 : decode cX8_trySend 231 = .ok (.bipush (-6), 2) := by decide +kernel
theorem dX8_trySend_233 : decode cX8_trySend 233 = .ok (.iastore, 1) := by decide +kernel
theorem dX8_trySend_234 : decode cX8_trySend 234 = .ok (.iinc 8 1, 3) := by decide +kernel
theorem dX8_trySend_237 : decode cX8_trySend 237 = .ok (.goto (-27), 3) := by decide +kernel
theorem dX8_trySend_240 : decode cX8_trySend 240 = .ok (.aload_n 0, 1) := by decide +kernel
theorem dX8_trySend_241 : decode cX8_trySend 241 = .ok (.getfield 7, 3) := by decide +kernel
theorem dX8_trySend_244 : decode cX8_trySend 244 = .ok (.iconst 2, 1) := by decide +kernel
theorem dX8_trySend_245 : decode cX8_trySend 245 = .ok (.dup2, 1) := by decide +kernel
theorem dX8_trySend_246 : decode cX8_trySend 246 = .ok (.iaload, 1) := by decide +kernel
theorem dX8_trySend_247 : decode cX8_trySend 247 = .ok (.iconst 1, 1) := by decide +kernel
theorem dX8_trySend_248 : decode cX8_trySend 248 = .ok (.iadd, 1) := by decide +kernel
theorem dX8_trySend_249 : decode cX8_trySend 249 = .ok (.iastore, 1) := by decide +kernel
theorem dX8_trySend_250 : decode cX8_trySend 250 = .ok (.aload_n 0, 1) := by decide +kernel
theorem dX8_trySend_251 : decode cX8_trySend 251 = .ok (.iload 7, 2) := by decide +kernel
theorem dX8_trySend_253 : decode cX8_trySend 253 = .ok (.iconst 0, 1) := by decide +kernel
theorem dX8_trySend_254 : decode cX8_trySend 254 = .ok (.iload_n 3, 1) := by decide +kernel
theorem dX8_trySend_255 : decode cX8_trySend 255 = .ok (.iconst 1, 1) := by decide +kernel
theorem dX8_trySend_256 : decode cX8_trySend 256 = .ok (.iload 5, 2) := by decide +kernel
theorem dX8_trySend_258 : decode cX8_trySend 258 = .ok (.iconst 2, 1) := by decide +kernel
theorem dX8_trySend_259 : decode cX8_trySend 259 = .ok (.idiv, 1) := by decide +kernel
theorem dX8_trySend_260 : decode cX8_trySend 260 = .ok (.iload 4, 2) := by decide +kernel
theorem dX8_trySend_262 : decode cX8_trySend 262 = .ok (.iload_n 1, 1) := by decide +kernel
theorem dX8_trySend_263 : decode cX8_trySend 263 = .ok (.invokevirtual 123, 3) := by decide +kernel
theorem dX8_trySend_266 : decode cX8_trySend 266 = .ok (.aload_n 0, 1) := by decide +kernel
theorem dX8_trySend_267 : decode cX8_trySend 267 = .ok (.getfield 7, 3) := by decide +kernel
theorem dX8_trySend_270 : decode cX8_trySend 270 = .ok (.iconst 4, 1) := by decide +kernel
theorem dX8_trySend_271 : decode cX8_trySend 271 = .ok (.dup2, 1) := by decide +kernel
theorem dX8_trySend_272 : decode cX8_trySend 272 = .ok (.iaload, 1) := by decide +kernel
theorem dX8_trySend_273 : decode cX8_trySend 273 = .ok (.iconst 1, 1) := by decide +kernel
theorem dX8_trySend_274 : decode cX8_trySend 274 = .ok (.iadd, 1) := by decide +kernel
theorem dX8_trySend_275 : decode cX8_trySend 275 = .ok (.iastore, 1) := by decide +kernel
theorem dX8_trySend_276 : decode cX8_trySend 276 = .ok (.iload 7, 2) := by decide +kernel
theorem dX8_trySend_278 : decode cX8_trySend 278 = .ok (.ireturn, 1) := by decide +kernel
theorem dX8_send_0 : decode cX8_send 0 = .ok (.aload_n 0, 1) := by decide +kernel
theorem dX8_send_1 : decode cX8_send 1 = .ok (.iload_n 1, 1) := by decide +kernel
theorem dX8_send_2 : decode cX8_send 2 = .ok (.iload_n 2, 1) := by decide +kernel
theorem dX8_send_3 : decode cX8_send 3 = .ok (.iload_n 3, 1) := by decide +kernel
theorem dX8_send_4 : decode cX8_send 4 = .ok (.iload 4, 2) := by decide +kernel
theorem dX8_send_6 : decode cX8_send 6 = .ok (.iload 5, 2) := by decide +kernel
theorem dX8_send_8 : decode cX8_send 8 = .ok (.iconst 1, 1) := by decide +kernel
theorem dX8_send_9 : decode cX8_send 9 = .ok (.invokevirtual 127, 3) := by decide +kernel
theorem dX8_send_12 : decode cX8_send 12 = .ok (.ireturn, 1) := by decide +kernel
theorem dX8_tryResend_0 : decode cX8_tryResend 0 = .ok (.aload_n 0, 1) := by decide +kernel
theorem dX8_tryResend_1 : decode cX8_tryResend 1 = .ok (.iload_n 1, 1) := by decide +kernel
theorem dX8_tryResend_2 : decode cX8_tryResend 2 = .ok (.invokevirtual 131, 3) := by decide +kernel
theorem dX8_tryResend_5 : decode cX8_tryResend 5 = .ok (.ifCond .ne 5, 3) := by decide +kernel
theorem dX8_tryResend_8 : decode cX8_tryResend 8 = .ok (.iconst (-1), 1) := by decide +kernel
theorem dX8_tryResend_9 : decode cX8_tryResend 9 = .ok (.ireturn, 1) := by decide +kernel
theorem dX8_tryResend_10 : decode cX8_tryResend 10 = .ok (.aload_n 0, 1) := by decide +kernel
theorem dX8_tryResend_11 : decode cX8_tryResend 11 = .ok (.getfield 7, 3) := by decide +kernel
theorem dX8_tryResend_14 : decode cX8_tryResend 14 = .ok (.iconst 3, 1) := by decide +kernel
theorem dX8_tryResend_15 : decode cX8_tryResend 15 = .ok (.iaload, 1) := by decide +kernel
theorem dX8_tryResend_16 : decode cX8_tryResend 16 = .ok (.sipush 300, 3) := by decide +kernel
theorem dX8_tryResend_19 : decode cX8_tryResend 19 = .ok (.if_icmp .ne 6, 3) := by decide +kernel
theorem dX8_tryResend_22 : decode cX8_tryResend 22 = .ok (.bipush (-4), 2) := by decide +kernel
theorem dX8_tryResend_24 : decode cX8_tryResend 24 = .ok (.ireturn, 1) := by decide +kernel
theorem dX8_tryResend_25 : decode cX8_tryResend 25 = .ok (.aload_n 0, 1) := by decide +kernel
theorem dX8_tryResend_26 : decode cX8_tryResend 26 = .ok (.iload_n 1, 1) := by decide +kernel
theorem dX8_tryResend_27 : decode cX8_tryResend 27 = .ok (.iconst 5, 1) := by decide +kernel
theorem dX8_tryResend_28 : decode cX8_tryResend 28 = .ok (.invokevirtual 102, 3) := by decide +kernel
theorem dX8_tryResend_31 : decode cX8_tryResend 31 = .ok (.ifCond .eq 6, 3) := by decide +kernel
theorem dX8_tryResend_34 : decode cX8_tryResend 34 = .ok (.bipush (-5), 2) := by decide +kernel
theorem dX8_tryResend_36 : decode cX8_tryResend 36 = .ok (.ireturn, 1) := by decide +kernel
theorem dX8_tryResend_37 : decode cX8_tryResend 37 = .ok (.aload_n 0, 1) := by decide +kernel
theorem dX8_tryResend_38 : decode cX8_tryResend 38 = .ok (.iload_n 2, 1) := by decide +kernel
theorem dX8_tryResend_39 : decode cX8_tryResend 39 = .ok (.invokevirtual 119, 3) := by decide +kernel
theorem dX8_tryResend_42 : decode cX8_tryResend 42 = .ok (.aload_n 0, 1) := by decide +kernel
theorem dX8_tryResend_43 : decode cX8_tryResend 43 = .ok (.iload_n 1, 1) := by decide +kernel
theorem dX8_tryResend_44 : decode cX8_tryResend 44 = .ok (.iconst 0, 1) := by decide +kernel
theorem dX8_tryResend_45 : decode cX8_tryResend 45 = .ok (.aload_n 0, 1) := by decide +kernel
theorem dX8_tryResend_46 : decode cX8_tryResend 46 = .ok (.iload_n 1, 1) := by decide +kernel
theorem dX8_tryResend_47 : decode cX8_tryResend 47 = .ok (.iconst 2, 1) := by decide +kernel
theorem dX8_tryResend_48 : decode cX8_tryResend 48 = .ok (.invokevirtual 102, 3) := by decide +kernel
theorem dX8_tryResend_51 : decode cX8_tryResend 51 = .ok (.iconst 1, 1) := by decide +kernel
theorem dX8_tryResend_52 : decode cX8_tryResend 52 = .ok (.aload_n 0, 1) := by decide +kernel
theorem dX8_tryResend_53 : decode cX8_tryResend 53 = .ok (.iload_n 1, 1) := by decide +kernel
theorem dX8_tryResend_54 : decode cX8_tryResend 54 = .ok (.bipush 7, 2) := by decide +kernel
theorem dX8_tryResend_56 : decode cX8_tryResend 56 = .ok (.invokevirtual 102, 3) := by decide +kernel
theorem dX8_tryResend_59 : decode cX8_tryResend 59 = .ok (.aload_n 0, 1) := by decide +kernel
theorem dX8_tryResend_60 : decode cX8_tryResend 60 = .ok (.iload_n 1, 1) := by decide +kernel
theorem dX8_tryResend_61 : decode cX8_tryResend 61 = .ok (.iconst 3, 1) := by decide +kernel
theorem dX8_tryResend_62 : decode cX8_tryResend 62 = .ok (.invokevirtual 102, 3) := by decide +kernel
theorem dX8_tryResend_65 : decode cX8_tryResend 65 = .ok (.aload_n 0, 1) := by decide +kernel
theorem dX8_tryResend_66 : decode cX8_tryResend 66 = .ok (.iload_n 1, 1) := by decide +kernel
theorem dX8_tryResend_67 : decode cX8_tryResend 67 = .ok (.iconst 0, 1) := by decide +kernel
theorem dX8_tryResend_68 : decode cX8_tryResend 68 = .ok (.invokevirtual 102, 3) := by decide +kernel
theorem dX8_tryResend_71 : decode cX8_tryResend 71 = .ok (.invokevirtual 123, 3) := by decide +kernel
theorem dX8_tryResend_74 : decode cX8_tryResend 74 = .ok (.aload_n 0, 1) := by decide +kernel
theorem dX8_tryResend_75 : decode cX8_tryResend 75 = .ok (.getfield 7, 3) := by decide +kernel
theorem dX8_tryResend_78 : decode cX8_tryResend 78 = .ok (.iconst 4, 1) := by decide +kernel
theorem dX8_tryResend_79 : decode cX8_tryResend 79 = .ok (.dup2, 1) := by decide +kernel
theorem dX8_tryResend_80 : decode cX8_tryResend 80 = .ok (.iaload, 1) := by decide +kernel
theorem dX8_tryResend_81 : decode cX8_tryResend 81 = .ok (.iconst 1, 1) := by decide +kernel
theorem dX8_tryResend_82 : decode cX8_tryResend 82 = .ok (.iadd, 1) := by decide +kernel
theorem dX8_tryResend_83 : decode cX8_tryResend 83 = .ok (.iastore, 1) := by decide +kernel
theorem dX8_tryResend_84 : decode cX8_tryResend 84 = .ok (.aload_n 0, 1) := by decide +kernel
theorem dX8_tryResend_85 : decode cX8_tryResend 85 = .ok (.iload_n 1, 1) := by decide +kernel
theorem dX8_tryResend_86 : decode cX8_tryResend 86 = .ok (.bipush 6, 2) := by decide +kernel
theorem dX8_tryResend_88 : decode cX8_tryResend 88 = .ok (.aload_n 0, 1) := by decide +kernel
theorem dX8_tryResend_89 : decode cX8_tryResend 89 = .ok (.iload_n 1, 1) := by decide +kernel
theorem dX8_tryResend_90 : decode cX8_tryResend 90 = .ok (.bipush 6, 2) := by decide +kernel
theorem dX8_tryResend_92 : decode cX8_tryResend 92 = .ok (.invokevirtual 102, 3) := by decide +kernel
theorem dX8_tryResend_95 : decode cX8_tryResend 95 = .ok (.iconst 1, 1) := by decide +kernel
theorem dX8_tryResend_96 : decode cX8_tryResend 96 = .ok (.iadd, 1) := by decide +kernel
theorem dX8_tryResend_97 : decode cX8_tryResend 97 = .ok (.invokevirtual 105, 3) := by decide +kernel
theorem dX8_tryResend_100 : decode cX8_tryResend 100 = .ok (.aload_n 0, 1) := by decide +kernel
theorem dX8_tryResend_101 : decode cX8_tryResend 101 = .ok (.iload_n 1, 1) := by decide +kernel
theorem dX8_tryResend_102 : decode cX8_tryResend 102 = .ok (.bipush 6, 2) := by decide +kernel
theorem dX8_tryResend_104 : decode cX8_tryResend 104 = .ok (.invokevirtual 102, 3) := by decide +kernel
theorem dX8_tryResend_107 : decode cX8_tryResend 107 = .ok (.ireturn, 1) := by decide +kernel
theorem dX8_resend_0 : decode cX8_resend 0 = .ok (.aload_n 0, 1) := by decide +kernel
theorem dX8_resend_1 : decode cX8_resend 1 = .ok (.iload_n 1, 1) := by decide +kernel
theorem dX8_resend_2 : decode cX8_resend 2 = .ok (.iconst 1, 1) := by decide +kernel
theorem dX8_resend_3 : decode cX8_resend 3 = .ok (.invokevirtual 134, 3) := by decide +kernel
theorem dX8_resend_6 : decode cX8_resend 6 = .ok (.ireturn, 1) := by decide +kernel
theorem dX8_tryForge_0 : decode cX8_tryForge 0 = .ok (.aload_n 0, 1) := by decide +kernel
theorem dX8_tryForge_1 : decode cX8_tryForge 1 = .ok (.iload_n 1, 1) := by decide +kernel
theorem dX8_tryForge_2 : decode cX8_tryForge 2 = .ok (.invokevirtual 131, 3) := by decide +kernel
theorem dX8_tryForge_5 : decode cX8_tryForge 5 = .ok (.ifCond .ne 5, 3) := by decide +kernel
theorem dX8_tryForge_8 : decode cX8_tryForge 8 = .ok (.iconst (-1), 1) := by decide +kernel
theorem dX8_tryForge_9 : decode cX8_tryForge 9 = .ok (.ireturn, 1) := by decide +kernel
theorem dX8_tryForge_10 : decode cX8_tryForge 10 = .ok (.iload_n 2, 1) := by decide +kernel
theorem dX8_tryForge_11 : decode cX8_tryForge 11 = .ok (.iconst 0, 1) := by decide +kernel
theorem dX8_tryForge_12 : decode cX8_tryForge 12 = .ok (.sipush 3999, 3) := by decide +kernel
theorem dX8_tryForge_15 : decode cX8_tryForge 15 = .ok (.invokestatic 65, 3) := by decide +kernel
theorem dX8_tryForge_18 : decode cX8_tryForge 18 = .ok (.ifCond .eq 36, 3) := by decide +kernel
theorem dX8_tryForge_21 : decode cX8_tryForge 21 = .ok (.iload_n 3, 1) := by decide +kernel
theorem dX8_tryForge_22 : decode cX8_tryForge 22 = .ok (.iconst 1, 1) := by decide +kernel
theorem dX8_tryForge_23 : decode cX8_tryForge 23 = .ok (.sipush 1500, 3) := by decide +kernel
theorem dX8_tryForge_26 : decode cX8_tryForge 26 = .ok (.invokestatic 65, 3) := by decide +kernel
theorem dX8_tryForge_29 : decode cX8_tryForge 29 = .ok (.ifCond .eq 25, 3) := by decide +kernel
theorem dX8_tryForge_32 : decode cX8_tryForge 32 = .ok (.iload 4, 2) := by decide +kernel
theorem dX8_tryForge_34 : decode cX8_tryForge 34 = .ok (.iconst 0, 1) := by decide +kernel
theorem dX8_tryForge_35 : decode cX8_tryForge 35 = .ok (.iconst 1, 1) := by decide +kernel
theorem dX8_tryForge_36 : decode cX8_tryForge 36 = .ok (.invokestatic 65, 3) := by decide +kernel
theorem dX8_tryForge_39 : decode cX8_tryForge 39 = .ok (.ifCond .eq 15, 3) := by decide +kernel
theorem dX8_tryForge_42 : decode cX8_tryForge 42 = .ok (.iload 5, 2) := by decide +kernel
theorem dX8_tryForge_44 : decode cX8_tryForge 44 = .ok (.iconst 0, 1) := by decide +kernel
theorem dX8_tryForge_45 : decode cX8_tryForge 45 = .ok (.sipush 255, 3) := by decide +kernel
theorem dX8_tryForge_48 : decode cX8_tryForge 48 = .ok (.invokestatic 65, 3) := by decide +kernel
theorem dX8_tryForge_51 : decode cX8_tryForge 51 = .ok (.ifCond .ne 6, 3) := by decide +kernel
theorem dX8_tryForge_54 : decode cX8_tryForge 54 = .ok (.bipush (-2), 2) := by decide +kernel
theorem dX8_tryForge_56 : decode cX8_tryForge 56 = .ok (.ireturn, 1) := by decide +kernel
theorem dX8_tryForge_57 : decode cX8_tryForge 57 = .ok (.aload_n 0, 1) := by decide +kernel
theorem dX8_tryForge_58 : decode cX8_tryForge 58 = .ok (.getfield 7, 3) := by decide +kernel
theorem dX8_tryForge_61 : decode cX8_tryForge 61 = .ok (.iconst 3, 1) := by decide +kernel
theorem dX8_tryForge_62 : decode cX8_tryForge 62 = .ok (.iaload, 1) := by decide +kernel
theorem dX8_tryForge_63 : decode cX8_tryForge 63 = .ok (.sipush 300, 3) := by decide +kernel
theorem dX8_tryForge_66 : decode cX8_tryForge 66 = .ok (.if_icmp .ne 6, 3) := by decide +kernel
theorem dX8_tryForge_69 : decode cX8_tryForge 69 = .ok (.bipush (-4), 2) := by decide +kernel
theorem dX8_tryForge_71 : decode cX8_tryForge 71 = .ok (.ireturn, 1) := by decide +kernel
theorem dX8_tryForge_72 : decode cX8_tryForge 72 = .ok (.aload_n 0, 1) := by decide +kernel
theorem dX8_tryForge_73 : decode cX8_tryForge 73 = .ok (.iload 6, 2) := by decide +kernel
theorem dX8_tryForge_75 : decode cX8_tryForge 75 = .ok (.invokevirtual 119, 3) := by decide +kernel
theorem dX8_tryForge_78 : decode cX8_tryForge 78 = .ok (.aload_n 0, 1) := by decide +kernel
theorem dX8_tryForge_79 : decode cX8_tryForge 79 = .ok (.iload_n 1, 1) := by decide +kernel
theorem dX8_tryForge_80 : decode cX8_tryForge 80 = .ok (.iload_n 2, 1) := by decide +kernel
theorem dX8_tryForge_81 : decode cX8_tryForge 81 = .ok (.iload_n 3, 1) := by decide +kernel
theorem dX8_tryForge_82 : decode cX8_tryForge 82 = .ok (.iload 4, 2) := by decide +kernel
theorem dX8_tryForge_84 : decode cX8_tryForge 84 = .ok (.iconst 0, 1) := by decide +kernel
theorem dX8_tryForge_85 : decode cX8_tryForge 85 = .ok (.iload 5, 2) := by decide +kernel
theorem dX8_tryForge_87 : decode cX8_tryForge 87 = .ok (.aload_n 0, 1) := by decide +kernel
theorem dX8_tryForge_88 : decode cX8_tryForge 88 = .ok (.iload_n 1, 1) := by decide +kernel
theorem dX8_tryForge_89 : decode cX8_tryForge 89 = .ok (.iconst 1, 1) := by decide +kernel
theorem dX8_tryForge_90 : decode cX8_tryForge 90 = .ok (.invokevirtual 102, 3) := by decide +kernel
theorem dX8_tryForge_93 : decode cX8_tryForge 93 = .ok (.invokevirtual 123, 3) := by decide +kernel
theorem dX8_tryForge_96 : decode cX8_tryForge 96 = .ok (.aload_n 0, 1) := by decide +kernel
theorem dX8_tryForge_97 : decode cX8_tryForge 97 = .ok (.getfield 7, 3) := by decide +kernel
theorem dX8_tryForge_100 : decode cX8_tryForge 100 = .ok (.iconst 4, 1) := by decide +kernel
theorem dX8_tryForge_101 : decode cX8_tryForge 101 = .ok (.dup2, 1) := by decide +kernel
theorem dX8_tryForge_102 : decode cX8_tryForge 102 = .ok (.iaload, 1) := by decide +kernel
theorem dX8_tryForge_103 : decode cX8_tryForge 103 = .ok (.iconst 1, 1) := by decide +kernel
theorem dX8_tryForge_104 : decode cX8_tryForge 104 = .ok (.iadd, 1) := by decide +kernel
theorem dX8_tryForge_105 : decode cX8_tryForge 105 = .ok (.iastore, 1) := by decide +kernel
theorem dX8_tryForge_106 : decode cX8_tryForge 106 = .ok (.aload_n 0, 1) := by decide +kernel
theorem dX8_tryForge_107 : decode cX8_tryForge 107 = .ok (.getfield 7, 3) := by decide +kernel
theorem dX8_tryForge_110 : decode cX8_tryForge 110 = .ok (.iconst 3, 1) := by decide +kernel
theorem dX8_tryForge_111 : decode cX8_tryForge 111 = .ok (.iaload, 1) := by decide +kernel
theorem dX8_tryForge_112 : decode cX8_tryForge 112 = .ok (.ireturn, 1) := by decide +kernel
theorem dX8_forge_0 : decode cX8_forge 0 = .ok (.aload_n 0, 1) := by decide +kernel
theorem dX8_forge_1 : decode cX8_forge 1 = .ok (.iload_n 1, 1) := by decide +kernel
theorem dX8_forge_2 : decode cX8_forge 2 = .ok (.iload_n 2, 1) := by decide +kernel
theorem dX8_forge_3 : decode cX8_forge 3 = .ok (.iload_n 3, 1) := by decide +kernel
theorem dX8_forge_4 : decode cX8_forge 4 = .ok (.iload 4, 2) := by decide +kernel
theorem dX8_forge_6 : decode cX8_forge 6 = .ok (.iload 5, 2) := by decide +kernel
theorem dX8_forge_8 : decode cX8_forge 8 = .ok (.iconst 1, 1) := by decide +kernel
theorem dX8_forge_9 : decode cX8_forge 9 = .ok (.invokevirtual 138, 3) := by decide +kernel
theorem dX8_forge_12 : decode cX8_forge 12 = .ok (.ireturn, 1) := by decide +kernel
theorem dX8_byteOf_0 : decode cX8_byteOf 0 = .ok (.iload_n 0, 1) := by decide +kernel
theorem dX8_byteOf_1 : decode cX8_byteOf 1 = .ok (.bipush 31, 2) := by decide +kernel
theorem dX8_byteOf_3 : decode cX8_byteOf 3 = .ok (.imul, 1) := by decide +kernel
theorem dX8_byteOf_4 : decode cX8_byteOf 4 = .ok (.iload_n 1, 1) := by decide +kernel
theorem dX8_byteOf_5 : decode cX8_byteOf 5 = .ok (.bipush 7, 2) := by decide +kernel
theorem dX8_byteOf_7 : decode cX8_byteOf 7 = .ok (.imul, 1) := by decide +kernel
theorem dX8_byteOf_8 : decode cX8_byteOf 8 = .ok (.iadd, 1) := by decide +kernel
theorem dX8_byteOf_9 : decode cX8_byteOf 9 = .ok (.iload_n 1, 1) := by decide +kernel
theorem dX8_byteOf_10 : decode cX8_byteOf 10 = .ok (.sipush 256, 3) := by decide +kernel
theorem dX8_byteOf_13 : decode cX8_byteOf 13 = .ok (.idiv, 1) := by decide +kernel
theorem dX8_byteOf_14 : decode cX8_byteOf 14 = .ok (.iadd, 1) := by decide +kernel
theorem dX8_byteOf_15 : decode cX8_byteOf 15 = .ok (.sipush 256, 3) := by decide +kernel
theorem dX8_byteOf_18 : decode cX8_byteOf 18 = .ok (.irem, 1) := by decide +kernel
theorem dX8_byteOf_19 : decode cX8_byteOf 19 = .ok (.ireturn, 1) := by decide +kernel
theorem dX8_sumOf_0 : decode cX8_sumOf 0 = .ok (.iconst 0, 1) := by decide +kernel
theorem dX8_sumOf_1 : decode cX8_sumOf 1 = .ok (.istore_n 2, 1) := by decide +kernel
theorem dX8_sumOf_2 : decode cX8_sumOf 2 = .ok (.iconst 0, 1) := by decide +kernel
theorem dX8_sumOf_3 : decode cX8_sumOf 3 = .ok (.istore_n 3, 1) := by decide +kernel
theorem dX8_sumOf_4 : decode cX8_sumOf 4 = .ok (.iload_n 3, 1) := by decide +kernel
theorem dX8_sumOf_5 : decode cX8_sumOf 5 = .ok (.iload_n 1, 1) := by decide +kernel
theorem dX8_sumOf_6 : decode cX8_sumOf 6 = .ok (.if_icmp .ge 17, 3) := by decide +kernel
theorem dX8_sumOf_9 : decode cX8_sumOf 9 = .ok (.iload_n 2, 1) := by decide +kernel
theorem dX8_sumOf_10 : decode cX8_sumOf 10 = .ok (.iload_n 0, 1) := by decide +kernel
theorem dX8_sumOf_11 : decode cX8_sumOf 11 = .ok (.iload_n 3, 1) := by decide +kernel
theorem dX8_sumOf_12 : decode cX8_sumOf 12 = .ok (.invokestatic 141, 3) := by decide +kernel
theorem dX8_sumOf_15 : decode cX8_sumOf 15 = .ok (.iadd, 1) := by decide +kernel
theorem dX8_sumOf_16 : decode cX8_sumOf 16 = .ok (.istore_n 2, 1) := by decide +kernel
theorem dX8_sumOf_17 : decode cX8_sumOf 17 = .ok (.iinc 3 1, 3) := by decide +kernel
theorem dX8_sumOf_20 : decode cX8_sumOf 20 = .ok (.goto (-16), 3) := by decide +kernel
theorem dX8_sumOf_23 : decode cX8_sumOf 23 = .ok (.iload_n 2, 1) := by decide +kernel
theorem dX8_sumOf_24 : decode cX8_sumOf 24 = .ok (.ldc 144, 2) := by decide +kernel
theorem dX8_sumOf_26 : decode cX8_sumOf 26 = .ok (.irem, 1) := by decide +kernel
theorem dX8_sumOf_27 : decode cX8_sumOf 27 = .ok (.ireturn, 1) := by decide +kernel
theorem dX8_end_0 : decode cX8_end 0 = .ok (.aload_n 0, 1) := by decide +kernel
theorem dX8_end_1 : decode cX8_end 1 = .ok (.iload_n 1, 1) := by decide +kernel
theorem dX8_end_2 : decode cX8_end 2 = .ok (.iconst 5, 1) := by decide +kernel
theorem dX8_end_3 : decode cX8_end 3 = .ok (.iload_n 2, 1) := by decide +kernel
theorem dX8_end_4 : decode cX8_end 4 = .ok (.invokevirtual 105, 3) := by decide +kernel
theorem dX8_end_7 : decode cX8_end 7 = .ok (.aload_n 0, 1) := by decide +kernel
theorem dX8_end_8 : decode cX8_end 8 = .ok (.iload_n 1, 1) := by decide +kernel
theorem dX8_end_9 : decode cX8_end 9 = .ok (.bipush 10, 2) := by decide +kernel
theorem dX8_end_11 : decode cX8_end 11 = .ok (.aload_n 0, 1) := by decide +kernel
theorem dX8_end_12 : decode cX8_end 12 = .ok (.getfield 7, 3) := by decide +kernel
theorem dX8_end_15 : decode cX8_end 15 = .ok (.iconst 0, 1) := by decide +kernel
theorem dX8_end_16 : decode cX8_end 16 = .ok (.iaload, 1) := by decide +kernel
theorem dX8_end_17 : decode cX8_end 17 = .ok (.invokevirtual 105, 3) := by decide +kernel
theorem dX8_end_20 : decode cX8_end 20 = .ok (.aload_n 0, 1) := by decide +kernel
theorem dX8_end_21 : decode cX8_end 21 = .ok (.iload_n 1, 1) := by decide +kernel
theorem dX8_end_22 : decode cX8_end 22 = .ok (.bipush 12, 2) := by decide +kernel
theorem dX8_end_24 : decode cX8_end 24 = .ok (.iconst 0, 1) := by decide +kernel
theorem dX8_end_25 : decode cX8_end 25 = .ok (.invokevirtual 105, 3) := by decide +kernel
theorem dX8_end_28 : decode cX8_end 28 = .ok (.aload_n 0, 1) := by decide +kernel
theorem dX8_end_29 : decode cX8_end 29 = .ok (.iload_n 1, 1) := by decide +kernel
theorem dX8_end_30 : decode cX8_end 30 = .ok (.bipush 9, 2) := by decide +kernel
theorem dX8_end_32 : decode cX8_end 32 = .ok (.bipush (-6), 2) := by decide +kernel
theorem dX8_end_34 : decode cX8_end 34 = .ok (.invokevirtual 105, 3) := by decide +kernel
theorem dX8_end_37 : decode cX8_end 37 = .ok (.aload_n 0, 1) := by decide +kernel
theorem dX8_end_38 : decode cX8_end 38 = .ok (.iload_n 1, 1) := by decide +kernel
theorem dX8_end_39 : decode cX8_end 39 = .ok (.bipush 8, 2) := by decide +kernel
theorem dX8_end_41 : decode cX8_end 41 = .ok (.bipush (-6), 2) := by decide +kernel
theorem dX8_end_43 : decode cX8_end 43 = .ok (.invokevirtual 105, 3) := by decide +kernel
theorem dX8_end_46 : decode cX8_end 46 = .ok (.iconst 0, 1) := by decide +kernel
theorem dX8_end_47 : decode cX8_end 47 = .ok (.istore_n 3, 1) := by decide +kernel
theorem dX8_end_48 : decode cX8_end 48 = .ok (.iload_n 3, 1) := by decide +kernel
theorem dX8_end_49 : decode cX8_end 49 = .ok (.sipush 4000, 3) := by decide +kernel
theorem dX8_end_52 : decode cX8_end 52 = .ok (.if_icmp .ge 23, 3) := by decide +kernel
theorem dX8_end_55 : decode cX8_end 55 = .ok (.aload_n 0, 1) := by decide +kernel
theorem dX8_end_56 : decode cX8_end 56 = .ok (.getfield 14, 3) := by decide +kernel
theorem dX8_end_59 : decode cX8_end 59 = .ok (.sipush 4000, 3) := by decide +kernel
theorem dX8_end_62 : decode cX8_end 62 = .ok (.iload_n 1, 1) := by decide +kernel
theorem dX8_end_63 : decode cX8_end 63 = .ok (.imul, 1) := by decide +kernel
theorem dX8_end_64 : decode cX8_end 64 = .ok (.iload_n 3, 1) := by decide +kernel
theorem dX8_end_65 : decode cX8_end 65 = .ok (.iadd, 1) := by decide +kernel
theorem dX8_end_66 : decode cX8_end 66 = .ok (.bipush (-6), 2) := by decide +kernel
theorem dX8_end_68 : decode cX8_end 68 = .ok (.iastore, 1) := by decide +kernel
theorem dX8_end_69 : decode cX8_end 69 = .ok (.iinc 3 1, 3) := by decide +kernel
theorem dX8_end_72 : decode cX8_end 72 = .ok (.goto (-24), 3) := by decide +kernel
theorem dX8_end_75 : decode cX8_end 75 = .ok (.return_, 1) := by decide +kernel
theorem dX8_isAnyThere_0 : decode cX8_isAnyThere 0 = .ok (.iload_n 2, 1) := by decide +kernel
theorem dX8_isAnyThere_1 : decode cX8_isAnyThere 1 = .ok (.istore 4, 2) := by decide +kernel
theorem dX8_isAnyThere_3 : decode cX8_isAnyThere 3 = .ok (.iload 4, 2) := by decide +kernel
theorem dX8_isAnyThere_5 : decode cX8_isAnyThere 5 = .ok (.iload_n 3, 1) := by decide +kernel
theorem dX8_isAnyThere_6 : decode cX8_isAnyThere 6 = .ok (.if_icmp .ge 27, 3) := by decide +kernel
theorem dX8_isAnyThere_9 : decode cX8_isAnyThere 9 = .ok (.aload_n 0, 1) := by decide +kernel
theorem dX8_isAnyThere_10 : decode cX8_isAnyThere 10 = .ok (.getfield 14, 3) := by decide +kernel
theorem dX8_isAnyThere_13 : decode cX8_isAnyThere 13 = .ok (.sipush 4000, 3) := by decide +kernel
theorem dX8_isAnyThere_16 : decode cX8_isAnyThere 16 = .ok (.iload_n 1, 1) := by decide +kernel
theorem dX8_isAnyThere_17 : decode cX8_isAnyThere 17 = .ok (.imul, 1) := by decide +kernel
theorem dX8_isAnyThere_18 : decode cX8_isAnyThere 18 = .ok (.iload 4, 2) := by decide +kernel
theorem dX8_isAnyThere_20 : decode cX8_isAnyThere 20 = .ok (.iadd, 1) := by decide +kernel
theorem dX8_isAnyThere_21 : decode cX8_isAnyThere 21 = .ok (.iaload, 1) := by decide +kernel
theorem dX8_isAnyThere_22 : decode cX8_isAnyThere 22 = .ok (.ifCond .lt 5, 3) := by decide +kernel
theorem dX8_isAnyThere_25 : decode cX8_isAnyThere 25 = .ok (.iconst 1, 1) := by decide +kernel
theorem dX8_isAnyThere_26 : decode cX8_isAnyThere 26 = .ok (.ireturn, 1) := by decide +kernel
theorem dX8_isAnyThere_27 : decode cX8_isAnyThere 27 = .ok (.iinc 4 1, 3) := by decide +kernel
theorem dX8_isAnyThere_30 : decode cX8_isAnyThere 30 = .ok (.goto (-27), 3) := by decide +kernel
theorem dX8_isAnyThere_33 : decode cX8_isAnyThere 33 = .ok (.iconst 0, 1) := by decide +kernel
theorem dX8_isAnyThere_34 : decode cX8_isAnyThere 34 = .ok (.ireturn, 1) := by decide +kernel
theorem dX8_isWrongSlice_0 : decode cX8_isWrongSlice 0 = .ok (.aload_n 0, 1) := by decide +kernel
theorem dX8_isWrongSlice_1 : decode cX8_isWrongSlice 1 = .ok (.iload_n 1, 1) := by decide +kernel
theorem dX8_isWrongSlice_2 : decode cX8_isWrongSlice 2 = .ok (.bipush 8, 2) := by decide +kernel
theorem dX8_isWrongSlice_4 : decode cX8_isWrongSlice 4 = .ok (.invokevirtual 102, 3) := by decide +kernel
theorem dX8_isWrongSlice_7 : decode cX8_isWrongSlice 7 = .ok (.istore 4, 2) := by decide +kernel
theorem dX8_isWrongSlice_9 : decode cX8_isWrongSlice 9 = .ok (.iload_n 2, 1) := by decide +kernel
theorem dX8_isWrongSlice_10 : decode cX8_isWrongSlice 10 = .ok (.sipush 4000, 3) := by decide +kernel
theorem dX8_isWrongSlice_13 : decode cX8_isWrongSlice 13 = .ok (.if_icmp .gt 24, 3) := by decide +kernel
theorem dX8_isWrongSlice_16 : decode cX8_isWrongSlice 16 = .ok (.iload 4, 2) := by decide +kernel
theorem dX8_isWrongSlice_18 : decode cX8_isWrongSlice 18 = .ok (.ifCond .lt 21, 3) := by decide +kernel
theorem dX8_isWrongSlice_21 : decode cX8_isWrongSlice 21 = .ok (.iload_n 2, 1) := by decide +kernel
theorem dX8_isWrongSlice_22 : decode cX8_isWrongSlice 22 = .ok (.iload 4, 2) := by decide +kernel
theorem dX8_isWrongSlice_24 : decode cX8_isWrongSlice 24 = .ok (.if_icmp .gt 13, 3) := by decide +kernel
theorem dX8_isWrongSlice_27 : decode cX8_isWrongSlice 27 = .ok (.iload_n 3, 1) := by decide +kernel
theorem dX8_isWrongSlice_28 : decode cX8_isWrongSlice 28 = .ok (.ifCond .eq 11, 3) := by decide +kernel
theorem dX8_isWrongSlice_31 : decode cX8_isWrongSlice 31 = .ok (.iload_n 2, 1) := by decide +kernel
theorem dX8_isWrongSlice_32 : decode cX8_isWrongSlice 32 = .ok (.iload 4, 2) := by decide +kernel
theorem dX8_isWrongSlice_34 : decode cX8_isWrongSlice 34 = .ok (.if_icmp .eq 5, 3) := by decide +kernel
theorem dX8_isWrongSlice_37 : decode cX8_isWrongSlice 37 = .ok (.iconst 1, 1) := by decide +kernel
theorem dX8_isWrongSlice_38 : decode cX8_isWrongSlice 38 = .ok (.ireturn, 1) := by decide +kernel
theorem dX8_isWrongSlice_39 : decode cX8_isWrongSlice 39 = .ok (.iload_n 3, 1) := by decide +kernel
theorem dX8_isWrongSlice_40 : decode cX8_isWrongSlice 40 = .ok (.ifCond .eq 19, 3) := by decide +kernel
theorem dX8_isWrongSlice_43 : decode cX8_isWrongSlice 43 = .ok (.aload_n 0, 1) := by decide +kernel
theorem dX8_isWrongSlice_44 : decode cX8_isWrongSlice 44 = .ok (.iload_n 1, 1) := by decide +kernel
theorem dX8_isWrongSlice_45 : decode cX8_isWrongSlice 45 = .ok (.iload_n 2, 1) := by decide +kernel
theorem dX8_isWrongSlice_46 : decode cX8_isWrongSlice 46 = .ok (.sipush 4000, 3) := by decide +kernel
theorem dX8_isWrongSlice_49 : decode cX8_isWrongSlice 49 = .ok (.invokevirtual 145, 3) := by decide +kernel
theorem dX8_isWrongSlice_52 : decode cX8_isWrongSlice 52 = .ok (.ifCond .eq 7, 3) := by decide +kernel
theorem dX8_isWrongSlice_55 : decode cX8_isWrongSlice 55 = .ok (.iconst 1, 1) := by decide +kernel
theorem dX8_isWrongSlice_56 : decode cX8_isWrongSlice 56 = .ok (.goto 4, 3) := by decide +kernel
theorem dX8_isWrongSlice_59 : decode cX8_isWrongSlice 59 = .ok (.iconst 0, 1) := by decide +kernel
theorem dX8_isWrongSlice_60 : decode cX8_isWrongSlice 60 = .ok (.ireturn, 1) := by decide +kernel
theorem dX8_bytesAt_0 : decode cX8_bytesAt 0 = .ok (.iconst 0, 1) := by decide +kernel
theorem dX8_bytesAt_1 : decode cX8_bytesAt 1 = .ok (.istore_n 2, 1) := by decide +kernel
theorem dX8_bytesAt_2 : decode cX8_bytesAt 2 = .ok (.iconst 0, 1) := by decide +kernel
theorem dX8_bytesAt_3 : decode cX8_bytesAt 3 = .ok (.istore_n 3, 1) := by decide +kernel
theorem dX8_bytesAt_4 : decode cX8_bytesAt 4 = .ok (.iload_n 3, 1) := by decide +kernel
theorem dX8_bytesAt_5 : decode cX8_bytesAt 5 = .ok (.aload_n 0, 1) := by decide +kernel
theorem dX8_bytesAt_6 : decode cX8_bytesAt 6 = .ok (.getfield 7, 3) := by decide +kernel
theorem dX8_bytesAt_9 : decode cX8_bytesAt 9 = .ok (.iconst 2, 1) := by decide +kernel
theorem dX8_bytesAt_10 : decode cX8_bytesAt 10 = .ok (.iaload, 1) := by decide +kernel
theorem dX8_bytesAt_11 : decode cX8_bytesAt 11 = .ok (.if_icmp .ge 33, 3) := by decide +kernel
theorem dX8_bytesAt_14 : decode cX8_bytesAt 14 = .ok (.iload_n 2, 1) := by decide +kernel
theorem dX8_bytesAt_15 : decode cX8_bytesAt 15 = .ok (.aload_n 0, 1) := by decide +kernel
theorem dX8_bytesAt_16 : decode cX8_bytesAt 16 = .ok (.iload_n 3, 1) := by decide +kernel
theorem dX8_bytesAt_17 : decode cX8_bytesAt 17 = .ok (.iconst 1, 1) := by decide +kernel
theorem dX8_bytesAt_18 : decode cX8_bytesAt 18 = .ok (.invokevirtual 102, 3) := by decide +kernel
theorem dX8_bytesAt_21 : decode cX8_bytesAt 21 = .ok (.iload_n 1, 1) := by decide +kernel
theorem dX8_bytesAt_22 : decode cX8_bytesAt 22 = .ok (.if_icmp .ne 13, 3) := by decide +kernel
theorem dX8_bytesAt_25 : decode cX8_bytesAt 25 = .ok (.aload_n 0, 1) := by decide +kernel
theorem dX8_bytesAt_26 : decode cX8_bytesAt 26 = .ok (.iload_n 3, 1) := by decide +kernel
theorem dX8_bytesAt_27 : decode cX8_bytesAt 27 = .ok (.bipush 12, 2) := by decide +kernel
theorem dX8_bytesAt_29 : decode cX8_bytesAt 29 = .ok (.invokevirtual 102, 3) := by decide +kernel
theorem dX8_bytesAt_32 : decode cX8_bytesAt 32 = .ok (.goto 4, 3) := by decide +kernel
theorem dX8_bytesAt_35 : decode cX8_bytesAt 35 = .ok (.iconst 0, 1) := by decide +kernel
theorem dX8_bytesAt_36 : decode cX8_bytesAt 36 = .ok (.iadd, 1) := by decide +kernel
theorem dX8_bytesAt_37 : decode cX8_bytesAt 37 = .ok (.istore_n 2, 1) := by decide +kernel
theorem dX8_bytesAt_38 : decode cX8_bytesAt 38 = .ok (.iinc 3 1, 3) := by decide +kernel
theorem dX8_bytesAt_41 : decode cX8_bytesAt 41 = .ok (.goto (-37), 3) := by decide +kernel
theorem dX8_bytesAt_44 : decode cX8_bytesAt 44 = .ok (.iload_n 2, 1) := by decide +kernel
theorem dX8_bytesAt_45 : decode cX8_bytesAt 45 = .ok (.ireturn, 1) := by decide +kernel
theorem dX8_makeSpace_0 : decode cX8_makeSpace 0 = .ok (.aload_n 0, 1) := by decide +kernel
theorem dX8_makeSpace_1 : decode cX8_makeSpace 1 = .ok (.iload_n 1, 1) := by decide +kernel
theorem dX8_makeSpace_2 : decode cX8_makeSpace 2 = .ok (.invokevirtual 148, 3) := by decide +kernel
theorem dX8_makeSpace_5 : decode cX8_makeSpace 5 = .ok (.aload_n 0, 1) := by decide +kernel
theorem dX8_makeSpace_6 : decode cX8_makeSpace 6 = .ok (.iload_n 1, 1) := by decide +kernel
theorem dX8_makeSpace_7 : decode cX8_makeSpace 7 = .ok (.iconst 2, 1) := by decide +kernel
theorem dX8_makeSpace_8 : decode cX8_makeSpace 8 = .ok (.invokevirtual 152, 3) := by decide +kernel
theorem dX8_makeSpace_11 : decode cX8_makeSpace 11 = .ok (.if_icmp .le 92, 3) := by decide +kernel
theorem dX8_makeSpace_14 : decode cX8_makeSpace 14 = .ok (.bipush (-6), 2) := by decide +kernel
theorem dX8_makeSpace_16 : decode cX8_makeSpace 16 = .ok (.istore_n 2, 1) := by decide +kernel
theorem dX8_makeSpace_17 : decode cX8_makeSpace 17 = .ok (.iconst 0, 1) := by decide +kernel
theorem dX8_makeSpace_18 : decode cX8_makeSpace 18 = .ok (.istore_n 3, 1) := by decide +kernel
theorem dX8_makeSpace_19 : decode cX8_makeSpace 19 = .ok (.iload_n 3, 1) := by decide +kernel
theorem dX8_makeSpace_20 : decode cX8_makeSpace 20 = .ok (.aload_n 0, 1) := by decide +kernel
theorem dX8_makeSpace_21 : decode cX8_makeSpace 21 = .ok (.getfield 7, 3) := by decide +kernel
theorem dX8_makeSpace_24 : decode cX8_makeSpace 24 = .ok (.iconst 2, 1) := by decide +kernel
theorem dX8_makeSpace_25 : decode cX8_makeSpace 25 = .ok (.iaload, 1) := by decide +kernel
theorem dX8_makeSpace_26 : decode cX8_makeSpace 26 = .ok (.if_icmp .ge 68, 3) := by decide +kernel
theorem dX8_makeSpace_29 : decode cX8_makeSpace 29 = .ok (.aload_n 0, 1) := by decide +kernel
theorem dX8_makeSpace_30 : decode cX8_makeSpace 30 = .ok (.iload_n 3, 1) := by decide +kernel
theorem dX8_makeSpace_31 : decode cX8_makeSpace 31 = .ok (.iconst 1, 1) := by decide +kernel
theorem dX8_makeSpace_32 : decode cX8_makeSpace 32 = .ok (.invokevirtual 102, 3) := by decide +kernel
theorem dX8_makeSpace_35 : decode cX8_makeSpace 35 = .ok (.iload_n 1, 1) := by decide +kernel
theorem dX8_makeSpace_36 : decode cX8_makeSpace 36 = .ok (.if_icmp .ne 17, 3) := by decide +kernel
theorem dX8_makeSpace_39 : decode cX8_makeSpace 39 = .ok (.aload_n 0, 1) := by decide +kernel
theorem dX8_makeSpace_40 : decode cX8_makeSpace 40 = .ok (.iload_n 3, 1) := by decide +kernel
theorem dX8_makeSpace_41 : decode cX8_makeSpace 41 = .ok (.bipush 9, 2) := by decide +kernel
theorem dX8_makeSpace_43 : decode cX8_makeSpace 43 = .ok (.invokevirtual 102, 3) := by decide +kernel
theorem dX8_makeSpace_46 : decode cX8_makeSpace 46 = .ok (.ifCond .lt 7, 3) := by decide +kernel
theorem dX8_makeSpace_49 : decode cX8_makeSpace 49 = .ok (.iconst 1, 1) := by decide +kernel
theorem dX8_makeSpace_50 : decode cX8_makeSpace 50 = .ok (.goto 4, 3) := by decide +kernel
theorem dX8_makeSpace_53 : decode cX8_makeSpace 53 = .ok (.iconst 0, 1) := by decide +kernel
theorem dX8_makeSpace_54 : decode cX8_makeSpace 54 = .ok (.istore 4, 2) := by decide +kernel
theorem dX8_makeSpace_56 : decode cX8_makeSpace 56 = .ok (.iload 4, 2) := by decide +kernel
theorem dX8_makeSpace_58 : decode cX8_makeSpace 58 = .ok (.ifCond .eq 28, 3) := by decide +kernel
theorem dX8_makeSpace_61 : decode cX8_makeSpace 61 = .ok (.iload_n 2, 1) := by decide +kernel
theorem dX8_makeSpace_62 : decode cX8_makeSpace 62 = .ok (.ifCond .lt 20, 3) := by decide +kernel
theorem dX8_makeSpace_65 : decode cX8_makeSpace 65 = .ok (.aload_n 0, 1) := by decide +kernel
theorem dX8_makeSpace_66 : decode cX8_makeSpace 66 = .ok (.iload_n 3, 1) := by decide +kernel
theorem dX8_makeSpace_67 : decode cX8_makeSpace 67 = .ok (.bipush 9, 2) := by decide +kernel
theorem dX8_makeSpace_69 : decode cX8_makeSpace 69 = .ok (.invokevirtual 102, 3) := by decide +kernel
theorem dX8_makeSpace_72 : decode cX8_makeSpace 72 = .ok (.aload_n 0, 1) := by decide +kernel
theorem dX8_makeSpace_73 : decode cX8_makeSpace 73 = .ok (.iload_n 2, 1) := by decide +kernel
theorem dX8_makeSpace_74 : decode cX8_makeSpace 74 = .ok (.bipush 9, 2) := by decide +kernel
theorem dX8_makeSpace_76 : decode cX8_makeSpace 76 = .ok (.invokevirtual 102, 3) := by decide +kernel
theorem dX8_makeSpace_79 : decode cX8_makeSpace 79 = .ok (.if_icmp .ge 7, 3) := by decide +kernel
theorem dX8_makeSpace_82 : decode cX8_makeSpace 82 = .ok (.iload_n 3, 1) := by decide +kernel
theorem dX8_makeSpace_83 : decode cX8_makeSpace 83 = .ok (.goto 4, 3) := by decide +kernel
theorem dX8_makeSpace_86 : decode cX8_makeSpace 86 = .ok (.iload_n 2, 1) := by decide +kernel
theorem dX8_makeSpace_87 : decode cX8_makeSpace 87 = .ok (.istore_n 2, 1) := by decide +kernel
theorem dX8_makeSpace_88 : decode cX8_makeSpace 88 = .ok (.iinc 3 1, 3) := by decide +kernel
theorem dX8_makeSpace_91 : decode cX8_makeSpace 91 = .ok (.goto (-72), 3) := by decide +kernel
theorem dX8_makeSpace_94 : decode cX8_makeSpace 94 = .ok (.aload_n 0, 1) := by decide +kernel
theorem dX8_makeSpace_95 : decode cX8_makeSpace 95 = .ok (.iload_n 2, 1) := by decide +kernel
theorem dX8_makeSpace_96 : decode cX8_makeSpace 96 = .ok (.iconst 4, 1) := by decide +kernel
theorem dX8_makeSpace_97 : decode cX8_makeSpace 97 = .ok (.invokevirtual 155, 3) := by decide +kernel
theorem dX8_makeSpace_100 : decode cX8_makeSpace 100 = .ok (.goto (-100), 3) := by decide +kernel
theorem dX8_makeSpace_103 : decode cX8_makeSpace 103 = .ok (.return_, 1) := by decide +kernel
theorem dX8_finishIfAll_0 : decode cX8_finishIfAll 0 = .ok (.aload_n 0, 1) := by decide +kernel
theorem dX8_finishIfAll_1 : decode cX8_finishIfAll 1 = .ok (.iload_n 1, 1) := by decide +kernel
theorem dX8_finishIfAll_2 : decode cX8_finishIfAll 2 = .ok (.bipush 8, 2) := by decide +kernel
theorem dX8_finishIfAll_4 : decode cX8_finishIfAll 4 = .ok (.invokevirtual 102, 3) := by decide +kernel
theorem dX8_finishIfAll_7 : decode cX8_finishIfAll 7 = .ok (.istore_n 2, 1) := by decide +kernel
theorem dX8_finishIfAll_8 : decode cX8_finishIfAll 8 = .ok (.iload_n 2, 1) := by decide +kernel
theorem dX8_finishIfAll_9 : decode cX8_finishIfAll 9 = .ok (.ifCond .lt 14, 3) := by decide +kernel
theorem dX8_finishIfAll_12 : decode cX8_finishIfAll 12 = .ok (.aload_n 0, 1) := by decide +kernel
theorem dX8_finishIfAll_13 : decode cX8_finishIfAll 13 = .ok (.iload_n 1, 1) := by decide +kernel
theorem dX8_finishIfAll_14 : decode cX8_finishIfAll 14 = .ok (.bipush 12, 2) := by decide +kernel
theorem dX8_finishIfAll_16 : decode cX8_finishIfAll 16 = .ok (.invokevirtual 102, 3) := by decide +kernel
theorem dX8_finishIfAll_19 : decode cX8_finishIfAll 19 = .ok (.iload_n 2, 1) := by decide +kernel
theorem dX8_finishIfAll_20 : decode cX8_finishIfAll 20 = .ok (.if_icmp .ge 4, 3) := by decide +kernel
theorem dX8_finishIfAll_23 : decode cX8_finishIfAll 23 = .ok (.return_, 1) := by decide +kernel
theorem dX8_finishIfAll_24 : decode cX8_finishIfAll 24 = .ok (.iconst 0, 1) := by decide +kernel
theorem dX8_finishIfAll_25 : decode cX8_finishIfAll 25 = .ok (.istore_n 3, 1) := by decide +kernel
theorem dX8_finishIfAll_26 : decode cX8_finishIfAll 26 = .ok (.iconst 0, 1) := by decide +kernel
theorem dX8_finishIfAll_27 : decode cX8_finishIfAll 27 = .ok (.istore 4, 2) := by decide +kernel
theorem dX8_finishIfAll_29 : decode cX8_finishIfAll 29 = .ok (.iload 4, 2) := by decide +kernel
theorem dX8_finishIfAll_31 : decode cX8_finishIfAll 31 = .ok (.iload_n 2, 1) := by decide +kernel
theorem dX8_finishIfAll_32 : decode cX8_finishIfAll 32 = .ok (.if_icmp .ge 30, 3) := by decide +kernel
theorem dX8_finishIfAll_35 : decode cX8_finishIfAll 35 = .ok (.iload_n 3, 1) := by decide +kernel
theorem dX8_finishIfAll_36 : decode cX8_finishIfAll 36 = .ok (.aload_n 0, 1) := by decide +kernel
theorem dX8_finishIfAll_37 : decode cX8_finishIfAll 37 = .ok (.getfield 14, 3) := by decide +kernel
theorem dX8_finishIfAll_40 : decode cX8_finishIfAll 40 = .ok (.sipush 4000, 3) := by decide +kernel
theorem dX8_finishIfAll_43 : decode cX8_finishIfAll 43 = .ok (.iload_n 1, 1) := by decide +kernel
theorem dX8_finishIfAll_44 : decode cX8_finishIfAll 44 = .ok (.imul, 1) := by decide +kernel
theorem dX8_finishIfAll_45 : decode cX8_finishIfAll 45 = .ok (.iload 4, 2) := by decide +kernel
theorem dX8_finishIfAll_47 : decode cX8_finishIfAll 47 = .ok (.iadd, 1) := by decide +kernel
theorem dX8_finishIfAll_48 : decode cX8_finishIfAll 48 = .ok (.iaload, 1) := by decide +kernel
theorem dX8_finishIfAll_49 : decode cX8_finishIfAll 49 = .ok (.iload 4, 2) := by decide +kernel
theorem dX8_finishIfAll_51 : decode cX8_finishIfAll 51 = .ok (.invokestatic 141, 3) := by decide +kernel
theorem dX8_finishIfAll_54 : decode cX8_finishIfAll 54 = .ok (.iadd, 1) := by decide +kernel
theorem dX8_finishIfAll_55 : decode cX8_finishIfAll 55 = .ok (.istore_n 3, 1) := by decide +kernel
theorem dX8_finishIfAll_56 : decode cX8_finishIfAll 56 = .ok (.iinc 4 1, 3) := by decide +kernel
theorem dX8_finishIfAll_59 : decode cX8_finishIfAll 59 = .ok (.goto (-30), 3) := by decide +kernel
theorem dX8_finishIfAll_62 : decode cX8_finishIfAll 62 = .ok (.iload_n 2, 1) := by decide +kernel
theorem dX8_finishIfAll_63 : decode cX8_finishIfAll 63 = .ok (.aload_n 0, 1) := by decide +kernel
theorem dX8_finishIfAll_64 : decode cX8_finishIfAll 64 = .ok (.iload_n 1, 1) := by decide +kernel
theorem dX8_finishIfAll_65 : decode cX8_finishIfAll 65 = .ok (.iconst 2, 1) := by decide +kernel
theorem dX8_finishIfAll_66 : decode cX8_finishIfAll 66 = .ok (.invokevirtual 102, 3) := by decide +kernel
theorem dX8_finishIfAll_69 : decode cX8_finishIfAll 69 = .ok (.if_icmp .ne 24, 3) := by decide +kernel
theorem dX8_finishIfAll_72 : decode cX8_finishIfAll 72 = .ok (.iload_n 3, 1) := by decide +kernel
theorem dX8_finishIfAll_73 : decode cX8_finishIfAll 73 = .ok (.ldc 144, 2) := by decide +kernel
theorem dX8_finishIfAll_75 : decode cX8_finishIfAll 75 = .ok (.irem, 1) := by decide +kernel
theorem dX8_finishIfAll_76 : decode cX8_finishIfAll 76 = .ok (.aload_n 0, 1) := by decide +kernel
theorem dX8_finishIfAll_77 : decode cX8_finishIfAll 77 = .ok (.iload_n 1, 1) := by decide +kernel
theorem dX8_finishIfAll_78 : decode cX8_finishIfAll 78 = .ok (.iconst 3, 1) := by decide +kernel
theorem dX8_finishIfAll_79 : decode cX8_finishIfAll 79 = .ok (.invokevirtual 102, 3) := by decide +kernel
theorem dX8_finishIfAll_82 : decode cX8_finishIfAll 82 = .ok (.iload_n 2, 1) := by decide +kernel
theorem dX8_finishIfAll_83 : decode cX8_finishIfAll 83 = .ok (.invokestatic 158, 3) := by decide +kernel
theorem dX8_finishIfAll_86 : decode cX8_finishIfAll 86 = .ok (.if_icmp .ne 7, 3) := by decide +kernel
theorem dX8_finishIfAll_89 : decode cX8_finishIfAll 89 = .ok (.iconst 1, 1) := by decide +kernel
theorem dX8_finishIfAll_90 : decode cX8_finishIfAll 90 = .ok (.goto 4, 3) := by decide +kernel
theorem dX8_finishIfAll_93 : decode cX8_finishIfAll 93 = .ok (.iconst 0, 1) := by decide +kernel
theorem dX8_finishIfAll_94 : decode cX8_finishIfAll 94 = .ok (.istore 4, 2) := by decide +kernel
theorem dX8_finishIfAll_96 : decode cX8_finishIfAll 96 = .ok (.aload_n 0, 1) := by decide +kernel
theorem dX8_finishIfAll_97 : decode cX8_finishIfAll 97 = .ok (.iload_n 1, 1) := by decide +kernel
theorem dX8_finishIfAll_98 : decode cX8_finishIfAll 98 = .ok (.iload 4, 2) := by decide +kernel
theorem dX8_finishIfAll_100 : decode cX8_finishIfAll 100 = .ok (.ifCond .eq 7, 3) := by decide +kernel
theorem dX8_finishIfAll_103 : decode cX8_finishIfAll 103 = .ok (.iconst 1, 1) := by decide +kernel
theorem dX8_finishIfAll_104 : decode cX8_finishIfAll 104 = .ok (.goto 4, 3) := by decide +kernel
theorem dX8_finishIfAll_107 : decode cX8_finishIfAll 107 = .ok (.iconst 2, 1) := by decide +kernel
theorem dX8_finishIfAll_108 : decode cX8_finishIfAll 108 = .ok (.invokevirtual 155, 3) := by decide +kernel
theorem dX8_finishIfAll_111 : decode cX8_finishIfAll 111 = .ok (.return_, 1) := by decide +kernel
theorem dX8_layBytes_0 : decode cX8_layBytes 0 = .ok (.iconst 0, 1) := by decide +kernel
theorem dX8_layBytes_1 : decode cX8_layBytes 1 = .ok (.istore 6, 2) := by decide +kernel
theorem dX8_layBytes_3 : decode cX8_layBytes 3 = .ok (.iload_n 2, 1) := by decide +kernel
theorem dX8_layBytes_4 : decode cX8_layBytes 4 = .ok (.istore 7, 2) := by decide +kernel
theorem dX8_layBytes_6 : decode cX8_layBytes 6 = .ok (.iload 7, 2) := by decide +kernel
theorem dX8_layBytes_8 : decode cX8_layBytes 8 = .ok (.iload_n 3, 1) := by decide +kernel
theorem dX8_layBytes_9 : decode cX8_layBytes 9 = .ok (.if_icmp .ge 73, 3) := by decide +kernel
theorem dX8_layBytes_12 : decode cX8_layBytes 12 = .ok (.sipush 4000, 3) := by decide +kernel
theorem dX8_layBytes_15 : decode cX8_layBytes 15 = .ok (.iload_n 1, 1) := by decide +kernel
theorem dX8_layBytes_16 : decode cX8_layBytes 16 = .ok (.imul, 1) := by decide +kernel
theorem dX8_layBytes_17 : decode cX8_layBytes 17 = .ok (.iload 7, 2) := by decide +kernel
theorem dX8_layBytes_19 : decode cX8_layBytes 19 = .ok (.iadd, 1) := by decide +kernel
theorem dX8_layBytes_20 : decode cX8_layBytes 20 = .ok (.istore 8, 2) := by decide +kernel
theorem dX8_layBytes_22 : decode cX8_layBytes 22 = .ok (.iload 6, 2) := by decide +kernel
theorem dX8_layBytes_24 : decode cX8_layBytes 24 = .ok (.aload_n 0, 1) := by decide +kernel
theorem dX8_layBytes_25 : decode cX8_layBytes 25 = .ok (.getfield 14, 3) := by decide +kernel
theorem dX8_layBytes_28 : decode cX8_layBytes 28 = .ok (.iload 8, 2) := by decide +kernel
theorem dX8_layBytes_30 : decode cX8_layBytes 30 = .ok (.iaload, 1) := by decide +kernel
theorem dX8_layBytes_31 : decode cX8_layBytes 31 = .ok (.ifCond .ge 7, 3) := by decide +kernel
theorem dX8_layBytes_34 : decode cX8_layBytes 34 = .ok (.iconst 1, 1) := by decide +kernel
theorem dX8_layBytes_35 : decode cX8_layBytes 35 = .ok (.goto 4, 3) := by decide +kernel
theorem dX8_layBytes_38 : decode cX8_layBytes 38 = .ok (.iconst 0, 1) := by decide +kernel
theorem dX8_layBytes_39 : decode cX8_layBytes 39 = .ok (.iadd, 1) := by decide +kernel
theorem dX8_layBytes_40 : decode cX8_layBytes 40 = .ok (.istore 6, 2) := by decide +kernel
theorem dX8_layBytes_42 : decode cX8_layBytes 42 = .ok (.aload_n 0, 1) := by decide +kernel
theorem dX8_layBytes_43 : decode cX8_layBytes 43 = .ok (.getfield 14, 3) := by decide +kernel
theorem dX8_layBytes_46 : decode cX8_layBytes 46 = .ok (.iload 8, 2) := by decide +kernel
theorem dX8_layBytes_48 : decode cX8_layBytes 48 = .ok (.aload_n 0, 1) := by decide +kernel
theorem dX8_layBytes_49 : decode cX8_layBytes 49 = .ok (.getfield 14, 3) := by decide +kernel
theorem dX8_layBytes_52 : decode cX8_layBytes 52 = .ok (.iload 8, 2) := by decide +kernel
theorem dX8_layBytes_54 : decode cX8_layBytes 54 = .ok (.iaload, 1) := by decide +kernel
theorem dX8_layBytes_55 : decode cX8_layBytes 55 = .ok (.ifCond .lt 8, 3) := by decide +kernel
theorem dX8_layBytes_58 : decode cX8_layBytes 58 = .ok (.iload 5, 2) := by decide +kernel
theorem dX8_layBytes_60 : decode cX8_layBytes 60 = .ok (.ifCond .eq 8, 3) := by decide +kernel
theorem dX8_layBytes_63 : decode cX8_layBytes 63 = .ok (.iload 4, 2) := by decide +kernel
theorem dX8_layBytes_65 : decode cX8_layBytes 65 = .ok (.goto 10, 3) := by decide +kernel
theorem dX8_layBytes_68 : decode cX8_layBytes 68 = .ok (.aload_n 0, 1) := by decide +kernel
theorem dX8_layBytes_69 : decode cX8_layBytes 69 = .ok (.getfield 14, 3) := by decide +kernel
theorem dX8_layBytes_72 : decode cX8_layBytes 72 = .ok (.iload 8, 2) := by decide +kernel
theorem dX8_layBytes_74 : decode cX8_layBytes 74 = .ok (.iaload, 1) := by decide +kernel
theorem dX8_layBytes_75 : decode cX8_layBytes 75 = .ok (.iastore, 1) := by decide +kernel
theorem dX8_layBytes_76 : decode cX8_layBytes 76 = .ok (.iinc 7 1, 3) := by decide +kernel
theorem dX8_layBytes_79 : decode cX8_layBytes 79 = .ok (.goto (-73), 3) := by decide +kernel
theorem dX8_layBytes_82 : decode cX8_layBytes 82 = .ok (.aload_n 0, 1) := by decide +kernel
theorem dX8_layBytes_83 : decode cX8_layBytes 83 = .ok (.iload_n 1, 1) := by decide +kernel
theorem dX8_layBytes_84 : decode cX8_layBytes 84 = .ok (.bipush 12, 2) := by decide +kernel
theorem dX8_layBytes_86 : decode cX8_layBytes 86 = .ok (.aload_n 0, 1) := by decide +kernel
theorem dX8_layBytes_87 : decode cX8_layBytes 87 = .ok (.iload_n 1, 1) := by decide +kernel
theorem dX8_layBytes_88 : decode cX8_layBytes 88 = .ok (.bipush 12, 2) := by decide +kernel
theorem dX8_layBytes_90 : decode cX8_layBytes 90 = .ok (.invokevirtual 102, 3) := by decide +kernel
theorem dX8_layBytes_93 : decode cX8_layBytes 93 = .ok (.iload 6, 2) := by decide +kernel
theorem dX8_layBytes_95 : decode cX8_layBytes 95 = .ok (.iadd, 1) := by decide +kernel
theorem dX8_layBytes_96 : decode cX8_layBytes 96 = .ok (.invokevirtual 105, 3) := by decide +kernel
theorem dX8_layBytes_99 : decode cX8_layBytes 99 = .ok (.return_, 1) := by decide +kernel
theorem dX8_putSlice_0 : decode cX8_putSlice 0 = .ok (.aload_n 0, 1) := by decide +kernel
theorem dX8_putSlice_1 : decode cX8_putSlice 1 = .ok (.iload_n 1, 1) := by decide +kernel
theorem dX8_putSlice_2 : decode cX8_putSlice 2 = .ok (.iconst 0, 1) := by decide +kernel
theorem dX8_putSlice_3 : decode cX8_putSlice 3 = .ok (.invokevirtual 108, 3) := by decide +kernel
theorem dX8_putSlice_6 : decode cX8_putSlice 6 = .ok (.istore_n 2, 1) := by decide +kernel
theorem dX8_putSlice_7 : decode cX8_putSlice 7 = .ok (.aload_n 0, 1) := by decide +kernel
theorem dX8_putSlice_8 : decode cX8_putSlice 8 = .ok (.iload_n 1, 1) := by decide +kernel
theorem dX8_putSlice_9 : decode cX8_putSlice 9 = .ok (.iconst 1, 1) := by decide +kernel
theorem dX8_putSlice_10 : decode cX8_putSlice 10 = .ok (.invokevirtual 108, 3) := by decide +kernel
theorem dX8_putSlice_13 : decode cX8_putSlice 13 = .ok (.istore_n 3, 1) := by decide +kernel
theorem dX8_putSlice_14 : decode cX8_putSlice 14 = .ok (.iload_n 3, 1) := by decide +kernel
theorem dX8_putSlice_15 : decode cX8_putSlice 15 = .ok (.aload_n 0, 1) := by decide +kernel
theorem dX8_putSlice_16 : decode cX8_putSlice 16 = .ok (.iload_n 1, 1) := by decide +kernel
theorem dX8_putSlice_17 : decode cX8_putSlice 17 = .ok (.iconst 2, 1) := by decide +kernel
theorem dX8_putSlice_18 : decode cX8_putSlice 18 = .ok (.invokevirtual 108, 3) := by decide +kernel
theorem dX8_putSlice_21 : decode cX8_putSlice 21 = .ok (.iadd, 1) := by decide +kernel
theorem dX8_putSlice_22 : decode cX8_putSlice 22 = .ok (.istore 4, 2) := by decide +kernel
theorem dX8_putSlice_24 : decode cX8_putSlice 24 = .ok (.aload_n 0, 1) := by decide +kernel
theorem dX8_putSlice_25 : decode cX8_putSlice 25 = .ok (.iload_n 1, 1) := by decide +kernel
theorem dX8_putSlice_26 : decode cX8_putSlice 26 = .ok (.iconst 5, 1) := by decide +kernel
theorem dX8_putSlice_27 : decode cX8_putSlice 27 = .ok (.invokevirtual 108, 3) := by decide +kernel
theorem dX8_putSlice_30 : decode cX8_putSlice 30 = .ok (.istore 5, 2) := by decide +kernel
theorem dX8_putSlice_32 : decode cX8_putSlice 32 = .ok (.aload_n 0, 1) := by decide +kernel
theorem dX8_putSlice_33 : decode cX8_putSlice 33 = .ok (.iload_n 1, 1) := by decide +kernel
theorem dX8_putSlice_34 : decode cX8_putSlice 34 = .ok (.iconst 3, 1) := by decide +kernel
theorem dX8_putSlice_35 : decode cX8_putSlice 35 = .ok (.invokevirtual 108, 3) := by decide +kernel
theorem dX8_putSlice_38 : decode cX8_putSlice 38 = .ok (.iconst 1, 1) := by decide +kernel
theorem dX8_putSlice_39 : decode cX8_putSlice 39 = .ok (.if_icmp .ne 7, 3) := by decide +kernel
theorem dX8_putSlice_42 : decode cX8_putSlice 42 = .ok (.iconst 1, 1) := by decide +kernel
theorem dX8_putSlice_43 : decode cX8_putSlice 43 = .ok (.goto 4, 3) := by decide +kernel
theorem dX8_putSlice_46 : decode cX8_putSlice 46 = .ok (.iconst 0, 1) := by decide +kernel
theorem dX8_putSlice_47 : decode cX8_putSlice 47 = .ok (.istore 6, 2) := by decide +kernel
theorem dX8_putSlice_49 : decode cX8_putSlice 49 = .ok (.aload_n 0, 1) := by decide +kernel
theorem dX8_putSlice_50 : decode cX8_putSlice 50 = .ok (.iload_n 2, 1) := by decide +kernel
theorem dX8_putSlice_51 : decode cX8_putSlice 51 = .ok (.iconst 5, 1) := by decide +kernel
theorem dX8_putSlice_52 : decode cX8_putSlice 52 = .ok (.invokevirtual 102, 3) := by decide +kernel
theorem dX8_putSlice_55 : decode cX8_putSlice 55 = .ok (.ifCond .eq 11, 3) := by decide +kernel
theorem dX8_putSlice_58 : decode cX8_putSlice 58 = .ok (.aload_n 0, 1) := by decide +kernel
theorem dX8_putSlice_59 : decode cX8_putSlice 59 = .ok (.iload_n 1, 1) := by decide +kernel
theorem dX8_putSlice_60 : decode cX8_putSlice 60 = .ok (.bipush 7, 2) := by decide +kernel
theorem dX8_putSlice_62 : decode cX8_putSlice 62 = .ok (.invokevirtual 161, 3) := by decide +kernel
theorem dX8_putSlice_65 : decode cX8_putSlice 65 = .ok (.return_, 1) := by decide +kernel
theorem dX8_putSlice_66 : decode cX8_putSlice 66 = .ok (.aload_n 0, 1) := by decide +kernel
theorem dX8_putSlice_67 : decode cX8_putSlice 67 = .ok (.iload_n 2, 1) := by decide +kernel
theorem dX8_putSlice_68 : decode cX8_putSlice 68 = .ok (.iload 4, 2) := by decide +kernel
theorem dX8_putSlice_70 : decode cX8_putSlice 70 = .ok (.iload 6, 2) := by decide +kernel
theorem dX8_putSlice_72 : decode cX8_putSlice 72 = .ok (.invokevirtual 164, 3) := by decide +kernel
theorem dX8_putSlice_75 : decode cX8_putSlice 75 = .ok (.ifCond .eq 11, 3) := by decide +kernel
theorem dX8_putSlice_78 : decode cX8_putSlice 78 = .ok (.aload_n 0, 1) := by decide +kernel
theorem dX8_putSlice_79 : decode cX8_putSlice 79 = .ok (.iload_n 1, 1) := by decide +kernel
theorem dX8_putSlice_80 : decode cX8_putSlice 80 = .ok (.bipush 6, 2) := by decide +kernel
theorem dX8_putSlice_82 : decode cX8_putSlice 82 = .ok (.invokevirtual 161, 3) := by decide +kernel
theorem dX8_putSlice_85 : decode cX8_putSlice 85 = .ok (.return_, 1) := by decide +kernel
theorem dX8_putSlice_86 : decode cX8_putSlice 86 = .ok (.aload_n 0, 1) := by decide +kernel
theorem dX8_putSlice_87 : decode cX8_putSlice 87 = .ok (.iload_n 2, 1) := by decide +kernel
theorem dX8_putSlice_88 : decode cX8_putSlice 88 = .ok (.iconst 1, 1) := by decide +kernel
theorem dX8_putSlice_89 : decode cX8_putSlice 89 = .ok (.invokevirtual 102, 3) := by decide +kernel
theorem dX8_putSlice_92 : decode cX8_putSlice 92 = .ok (.istore 7, 2) := by decide +kernel
theorem dX8_putSlice_94 : decode cX8_putSlice 94 = .ok (.aload_n 0, 1) := by decide +kernel
theorem dX8_putSlice_95 : decode cX8_putSlice 95 = .ok (.iload_n 1, 1) := by decide +kernel
theorem dX8_putSlice_96 : decode cX8_putSlice 96 = .ok (.invokevirtual 115, 3) := by decide +kernel
theorem dX8_putSlice_99 : decode cX8_putSlice 99 = .ok (.aload_n 0, 1) := by decide +kernel
theorem dX8_putSlice_100 : decode cX8_putSlice 100 = .ok (.getfield 7, 3) := by decide +kernel
theorem dX8_putSlice_103 : decode cX8_putSlice 103 = .ok (.bipush 6, 2) := by decide +kernel
theorem dX8_putSlice_105 : decode cX8_putSlice 105 = .ok (.dup2, 1) := by decide +kernel
theorem dX8_putSlice_106 : decode cX8_putSlice 106 = .ok (.iaload, 1) := by decide +kernel
theorem dX8_putSlice_107 : decode cX8_putSlice 107 = .ok (.iconst 1, 1) := by decide +kernel
theorem dX8_putSlice_108 : decode cX8_putSlice 108 = .ok (.iadd, 1) := by decide +kernel
theorem dX8_putSlice_109 : decode cX8_putSlice 109 = .ok (.iastore, 1) := by decide +kernel
theorem dX8_putSlice_110 : decode cX8_putSlice 110 = .ok (.aload_n 0, 1) := by decide +kernel
theorem dX8_putSlice_111 : decode cX8_putSlice 111 = .ok (.iload 7, 2) := by decide +kernel
theorem dX8_putSlice_113 : decode cX8_putSlice 113 = .ok (.iconst 0, 1) := by decide +kernel
theorem dX8_putSlice_114 : decode cX8_putSlice 114 = .ok (.invokevirtual 152, 3) := by decide +kernel
theorem dX8_putSlice_117 : decode cX8_putSlice 117 = .ok (.iconst 2, 1) := by decide +kernel
theorem dX8_putSlice_118 : decode cX8_putSlice 118 = .ok (.if_icmp .ne 23, 3) := by decide +kernel
theorem dX8_putSlice_121 : decode cX8_putSlice 121 = .ok (.aload_n 0, 1) := by decide +kernel
theorem dX8_putSlice_122 : decode cX8_putSlice 122 = .ok (.iload_n 2, 1) := by decide +kernel
theorem dX8_putSlice_123 : decode cX8_putSlice 123 = .ok (.iload_n 3, 1) := by decide +kernel
theorem dX8_putSlice_124 : decode cX8_putSlice 124 = .ok (.iload 4, 2) := by decide +kernel
theorem dX8_putSlice_126 : decode cX8_putSlice 126 = .ok (.invokevirtual 145, 3) := by decide +kernel
theorem dX8_putSlice_129 : decode cX8_putSlice 129 = .ok (.ifCond .eq 12, 3) := by decide +kernel
theorem dX8_putSlice_132 : decode cX8_putSlice 132 = .ok (.aload_n 0, 1) := by decide +kernel
theorem dX8_putSlice_133 : decode cX8_putSlice 133 = .ok (.iload_n 2, 1) := by decide +kernel
theorem dX8_putSlice_134 : decode cX8_putSlice 134 = .ok (.iconst 5, 1) := by decide +kernel
theorem dX8_putSlice_135 : decode cX8_putSlice 135 = .ok (.invokevirtual 155, 3) := by decide +kernel
theorem dX8_putSlice_138 : decode cX8_putSlice 138 = .ok (.goto 86, 3) := by decide +kernel
theorem dX8_putSlice_141 : decode cX8_putSlice 141 = .ok (.aload_n 0, 1) := by decide +kernel
theorem dX8_putSlice_142 : decode cX8_putSlice 142 = .ok (.iload_n 2, 1) := by decide +kernel
theorem dX8_putSlice_143 : decode cX8_putSlice 143 = .ok (.iload_n 3, 1) := by decide +kernel
theorem dX8_putSlice_144 : decode cX8_putSlice 144 = .ok (.iload 4, 2) := by decide +kernel
theorem dX8_putSlice_146 : decode cX8_putSlice 146 = .ok (.iload 5, 2) := by decide +kernel
theorem dX8_putSlice_148 : decode cX8_putSlice 148 = .ok (.aload_n 0, 1) := by decide +kernel
theorem dX8_putSlice_149 : decode cX8_putSlice 149 = .ok (.iload 7, 2) := by decide +kernel
theorem dX8_putSlice_151 : decode cX8_putSlice 151 = .ok (.iconst 0, 1) := by decide +kernel
theorem dX8_putSlice_152 : decode cX8_putSlice 152 = .ok (.invokevirtual 152, 3) := by decide +kernel
theorem dX8_putSlice_155 : decode cX8_putSlice 155 = .ok (.iconst 1, 1) := by decide +kernel
theorem dX8_putSlice_156 : decode cX8_putSlice 156 = .ok (.if_icmp .ne 7, 3) := by decide +kernel
theorem dX8_putSlice_159 : decode cX8_putSlice 159 = .ok (.iconst 1, 1) := by decide +kernel
theorem dX8_putSlice_160 : decode cX8_putSlice 160 = .ok (.goto 4, 3) := by decide +kernel
theorem dX8_putSlice_163 : decode cX8_putSlice 163 = .ok (.iconst 0, 1) := by decide +kernel
theorem dX8_putSlice_164 : decode cX8_putSlice 164 = .ok (.invokevirtual 168, 3) := by decide +kernel
theorem dX8_putSlice_167 : decode cX8_putSlice 167 = .ok (.aload_n 0, 1) := by decide +kernel
theorem dX8_putSlice_168 : decode cX8_putSlice 168 = .ok (.iload_n 2, 1) := by decide +kernel
theorem dX8_putSlice_169 : decode cX8_putSlice 169 = .ok (.bipush 8, 2) := by decide +kernel
theorem dX8_putSlice_171 : decode cX8_putSlice 171 = .ok (.iload 6, 2) := by decide +kernel
theorem dX8_putSlice_173 : decode cX8_putSlice 173 = .ok (.ifCond .eq 8, 3) := by decide +kernel
theorem dX8_putSlice_176 : decode cX8_putSlice 176 = .ok (.iload 4, 2) := by decide +kernel
theorem dX8_putSlice_178 : decode cX8_putSlice 178 = .ok (.goto 10, 3) := by decide +kernel
theorem dX8_putSlice_181 : decode cX8_putSlice 181 = .ok (.aload_n 0, 1) := by decide +kernel
theorem dX8_putSlice_182 : decode cX8_putSlice 182 = .ok (.iload_n 2, 1) := by decide +kernel
theorem dX8_putSlice_183 : decode cX8_putSlice 183 = .ok (.bipush 8, 2) := by decide +kernel
theorem dX8_putSlice_185 : decode cX8_putSlice 185 = .ok (.invokevirtual 102, 3) := by decide +kernel
theorem dX8_putSlice_188 : decode cX8_putSlice 188 = .ok (.invokevirtual 105, 3) := by decide +kernel
theorem dX8_putSlice_191 : decode cX8_putSlice 191 = .ok (.aload_n 0, 1) := by decide +kernel
theorem dX8_putSlice_192 : decode cX8_putSlice 192 = .ok (.iload_n 2, 1) := by decide +kernel
theorem dX8_putSlice_193 : decode cX8_putSlice 193 = .ok (.bipush 9, 2) := by decide +kernel
theorem dX8_putSlice_195 : decode cX8_putSlice 195 = .ok (.aload_n 0, 1) := by decide +kernel
theorem dX8_putSlice_196 : decode cX8_putSlice 196 = .ok (.iload_n 2, 1) := by decide +kernel
theorem dX8_putSlice_197 : decode cX8_putSlice 197 = .ok (.bipush 9, 2) := by decide +kernel
theorem dX8_putSlice_199 : decode cX8_putSlice 199 = .ok (.invokevirtual 102, 3) := by decide +kernel
theorem dX8_putSlice_202 : decode cX8_putSlice 202 = .ok (.ifCond .ge 12, 3) := by decide +kernel
theorem dX8_putSlice_205 : decode cX8_putSlice 205 = .ok (.aload_n 0, 1) := by decide +kernel
theorem dX8_putSlice_206 : decode cX8_putSlice 206 = .ok (.getfield 7, 3) := by decide +kernel
theorem dX8_putSlice_209 : decode cX8_putSlice 209 = .ok (.iconst 0, 1) := by decide +kernel
theorem dX8_putSlice_210 : decode cX8_putSlice 210 = .ok (.iaload, 1) := by decide +kernel
theorem dX8_putSlice_211 : decode cX8_putSlice 211 = .ok (.goto 10, 3) := by decide +kernel
theorem dX8_putSlice_214 : decode cX8_putSlice 214 = .ok (.aload_n 0, 1) := by decide +kernel
theorem dX8_putSlice_215 : decode cX8_putSlice 215 = .ok (.iload_n 2, 1) := by decide +kernel
theorem dX8_putSlice_216 : decode cX8_putSlice 216 = .ok (.bipush 9, 2) := by decide +kernel
theorem dX8_putSlice_218 : decode cX8_putSlice 218 = .ok (.invokevirtual 102, 3) := by decide +kernel
theorem dX8_putSlice_221 : decode cX8_putSlice 221 = .ok (.invokevirtual 105, 3) := by decide +kernel
theorem dX8_putSlice_224 : decode cX8_putSlice 224 = .ok (.aload_n 0, 1) := by decide +kernel
theorem dX8_putSlice_225 : decode cX8_putSlice 225 = .ok (.iload 7, 2) := by decide +kernel
theorem dX8_putSlice_227 : decode cX8_putSlice 227 = .ok (.invokevirtual 172, 3) := by decide +kernel
theorem dX8_putSlice_230 : decode cX8_putSlice 230 = .ok (.aload_n 0, 1) := by decide +kernel
theorem dX8_putSlice_231 : decode cX8_putSlice 231 = .ok (.iload_n 2, 1) := by decide +kernel
theorem dX8_putSlice_232 : decode cX8_putSlice 232 = .ok (.iconst 5, 1) := by decide +kernel
theorem dX8_putSlice_233 : decode cX8_putSlice 233 = .ok (.invokevirtual 102, 3) := by decide +kernel
theorem dX8_putSlice_236 : decode cX8_putSlice 236 = .ok (.ifCond .ne 8, 3) := by decide +kernel
theorem dX8_putSlice_239 : decode cX8_putSlice 239 = .ok (.aload_n 0, 1) := by decide +kernel
theorem dX8_putSlice_240 : decode cX8_putSlice 240 = .ok (.iload_n 2, 1) := by decide +kernel
theorem dX8_putSlice_241 : decode cX8_putSlice 241 = .ok (.invokevirtual 175, 3) := by decide +kernel
theorem dX8_putSlice_244 : decode cX8_putSlice 244 = .ok (.return_, 1) := by decide +kernel
theorem dX8_takes_0 : decode cX8_takes 0 = .ok (.bipush 102, 2) := by decide +kernel
theorem dX8_takes_2 : decode cX8_takes 2 = .ok (.bipush 9, 2) := by decide +kernel
theorem dX8_takes_4 : decode cX8_takes 4 = .ok (.iload_n 1, 1) := by decide +kernel
theorem dX8_takes_5 : decode cX8_takes 5 = .ok (.imul, 1) := by decide +kernel
theorem dX8_takes_6 : decode cX8_takes 6 = .ok (.iadd, 1) := by decide +kernel
theorem dX8_takes_7 : decode cX8_takes 7 = .ok (.istore_n 3, 1) := by decide +kernel
theorem dX8_takes_8 : decode cX8_takes 8 = .ok (.aload_n 0, 1) := by decide +kernel
theorem dX8_takes_9 : decode cX8_takes 9 = .ok (.getfield 7, 3) := by decide +kernel
theorem dX8_takes_12 : decode cX8_takes 12 = .ok (.iload_n 3, 1) := by decide +kernel
theorem dX8_takes_13 : decode cX8_takes 13 = .ok (.bipush 6, 2) := by decide +kernel
theorem dX8_takes_15 : decode cX8_takes 15 = .ok (.iadd, 1) := by decide +kernel
theorem dX8_takes_16 : decode cX8_takes 16 = .ok (.dup2, 1) := by decide +kernel
theorem dX8_takes_17 : decode cX8_takes 17 = .ok (.iaload, 1) := by decide +kernel
theorem dX8_takes_18 : decode cX8_takes 18 = .ok (.iconst 1, 1) := by decide +kernel
theorem dX8_takes_19 : decode cX8_takes 19 = .ok (.iadd, 1) := by decide +kernel
theorem dX8_takes_20 : decode cX8_takes 20 = .ok (.iastore, 1) := by decide +kernel
theorem dX8_takes_21 : decode cX8_takes 21 = .ok (.aload_n 0, 1) := by decide +kernel
theorem dX8_takes_22 : decode cX8_takes 22 = .ok (.getfield 7, 3) := by decide +kernel
theorem dX8_takes_25 : decode cX8_takes 25 = .ok (.iload_n 3, 1) := by decide +kernel
theorem dX8_takes_26 : decode cX8_takes 26 = .ok (.iconst 5, 1) := by decide +kernel
theorem dX8_takes_27 : decode cX8_takes 27 = .ok (.iadd, 1) := by decide +kernel
theorem dX8_takes_28 : decode cX8_takes 28 = .ok (.iaload, 1) := by decide +kernel
theorem dX8_takes_29 : decode cX8_takes 29 = .ok (.ifCond .le 39, 3) := by decide +kernel
theorem dX8_takes_32 : decode cX8_takes 32 = .ok (.aload_n 0, 1) := by decide +kernel
theorem dX8_takes_33 : decode cX8_takes 33 = .ok (.getfield 7, 3) := by decide +kernel
theorem dX8_takes_36 : decode cX8_takes 36 = .ok (.iload_n 3, 1) := by decide +kernel
theorem dX8_takes_37 : decode cX8_takes 37 = .ok (.bipush 6, 2) := by decide +kernel
theorem dX8_takes_39 : decode cX8_takes 39 = .ok (.iadd, 1) := by decide +kernel
theorem dX8_takes_40 : decode cX8_takes 40 = .ok (.iaload, 1) := by decide +kernel
theorem dX8_takes_41 : decode cX8_takes 41 = .ok (.aload_n 0, 1) := by decide +kernel
theorem dX8_takes_42 : decode cX8_takes 42 = .ok (.getfield 7, 3) := by decide +kernel
theorem dX8_takes_45 : decode cX8_takes 45 = .ok (.iload_n 3, 1) := by decide +kernel
theorem dX8_takes_46 : decode cX8_takes 46 = .ok (.iconst 5, 1) := by decide +kernel
theorem dX8_takes_47 : decode cX8_takes 47 = .ok (.iadd, 1) := by decide +kernel
theorem dX8_takes_48 : decode cX8_takes 48 = .ok (.iaload, 1) := by decide +kernel
theorem dX8_takes_49 : decode cX8_takes 49 = .ok (.irem, 1) := by decide +kernel
theorem dX8_takes_50 : decode cX8_takes 50 = .ok (.ifCond .ne 18, 3) := by decide +kernel
theorem dX8_takes_53 : decode cX8_takes 53 = .ok (.aload_n 0, 1) := by decide +kernel
theorem dX8_takes_54 : decode cX8_takes 54 = .ok (.getfield 7, 3) := by decide +kernel
theorem dX8_takes_57 : decode cX8_takes 57 = .ok (.iload_n 3, 1) := by decide +kernel
theorem dX8_takes_58 : decode cX8_takes 58 = .ok (.bipush 7, 2) := by decide +kernel
theorem dX8_takes_60 : decode cX8_takes 60 = .ok (.iadd, 1) := by decide +kernel
theorem dX8_takes_61 : decode cX8_takes 61 = .ok (.dup2, 1) := by decide +kernel
theorem dX8_takes_62 : decode cX8_takes 62 = .ok (.iaload, 1) := by decide +kernel
theorem dX8_takes_63 : decode cX8_takes 63 = .ok (.iconst 1, 1) := by decide +kernel
theorem dX8_takes_64 : decode cX8_takes 64 = .ok (.iadd, 1) := by decide +kernel
theorem dX8_takes_65 : decode cX8_takes 65 = .ok (.iastore, 1) := by decide +kernel
theorem dX8_takes_66 : decode cX8_takes 66 = .ok (.iconst 0, 1) := by decide +kernel
theorem dX8_takes_67 : decode cX8_takes 67 = .ok (.ireturn, 1) := by decide +kernel
theorem dX8_takes_68 : decode cX8_takes 68 = .ok (.aload_n 0, 1) := by decide +kernel
theorem dX8_takes_69 : decode cX8_takes 69 = .ok (.getfield 7, 3) := by decide +kernel
theorem dX8_takes_72 : decode cX8_takes 72 = .ok (.iload_n 3, 1) := by decide +kernel
theorem dX8_takes_73 : decode cX8_takes 73 = .ok (.bipush 8, 2) := by decide +kernel
theorem dX8_takes_75 : decode cX8_takes 75 = .ok (.iadd, 1) := by decide +kernel
theorem dX8_takes_76 : decode cX8_takes 76 = .ok (.dup2, 1) := by decide +kernel
theorem dX8_takes_77 : decode cX8_takes 77 = .ok (.iaload, 1) := by decide +kernel
theorem dX8_takes_78 : decode cX8_takes 78 = .ok (.iload_n 2, 1) := by decide +kernel
theorem dX8_takes_79 : decode cX8_takes 79 = .ok (.bipush 8, 2) := by decide +kernel
theorem dX8_takes_81 : decode cX8_takes 81 = .ok (.iadd, 1) := by decide +kernel
theorem dX8_takes_82 : decode cX8_takes 82 = .ok (.iadd, 1) := by decide +kernel
theorem dX8_takes_83 : decode cX8_takes 83 = .ok (.iastore, 1) := by decide +kernel
theorem dX8_takes_84 : decode cX8_takes 84 = .ok (.iconst 1, 1) := by decide +kernel
theorem dX8_takes_85 : decode cX8_takes 85 = .ok (.ireturn, 1) := by decide +kernel
theorem dX8_goOn_0 : decode cX8_goOn 0 = .ok (.aload_n 0, 1) := by decide +kernel
theorem dX8_goOn_1 : decode cX8_goOn 1 = .ok (.iload_n 1, 1) := by decide +kernel
theorem dX8_goOn_2 : decode cX8_goOn 2 = .ok (.bipush 6, 2) := by decide +kernel
theorem dX8_goOn_4 : decode cX8_goOn 4 = .ok (.aload_n 0, 1) := by decide +kernel
theorem dX8_goOn_5 : decode cX8_goOn 5 = .ok (.getfield 7, 3) := by decide +kernel
theorem dX8_goOn_8 : decode cX8_goOn 8 = .ok (.iconst 0, 1) := by decide +kernel
theorem dX8_goOn_9 : decode cX8_goOn 9 = .ok (.iaload, 1) := by decide +kernel
theorem dX8_goOn_10 : decode cX8_goOn 10 = .ok (.aload_n 0, 1) := by decide +kernel
theorem dX8_goOn_11 : decode cX8_goOn 11 = .ok (.iload_n 2, 1) := by decide +kernel
theorem dX8_goOn_12 : decode cX8_goOn 12 = .ok (.iconst 3, 1) := by decide +kernel
theorem dX8_goOn_13 : decode cX8_goOn 13 = .ok (.invokevirtual 94, 3) := by decide +kernel
theorem dX8_goOn_16 : decode cX8_goOn 16 = .ok (.iadd, 1) := by decide +kernel
theorem dX8_goOn_17 : decode cX8_goOn 17 = .ok (.aload_n 0, 1) := by decide +kernel
theorem dX8_goOn_18 : decode cX8_goOn 18 = .ok (.iload_n 1, 1) := by decide +kernel
theorem dX8_goOn_19 : decode cX8_goOn 19 = .ok (.iconst 2, 1) := by decide +kernel
theorem dX8_goOn_20 : decode cX8_goOn 20 = .ok (.invokevirtual 108, 3) := by decide +kernel
theorem dX8_goOn_23 : decode cX8_goOn 23 = .ok (.bipush 8, 2) := by decide +kernel
theorem dX8_goOn_25 : decode cX8_goOn 25 = .ok (.iadd, 1) := by decide +kernel
theorem dX8_goOn_26 : decode cX8_goOn 26 = .ok (.aload_n 0, 1) := by decide +kernel
theorem dX8_goOn_27 : decode cX8_goOn 27 = .ok (.iload_n 2, 1) := by decide +kernel
theorem dX8_goOn_28 : decode cX8_goOn 28 = .ok (.iconst 4, 1) := by decide +kernel
theorem dX8_goOn_29 : decode cX8_goOn 29 = .ok (.invokevirtual 94, 3) := by decide +kernel
theorem dX8_goOn_32 : decode cX8_goOn 32 = .ok (.idiv, 1) := by decide +kernel
theorem dX8_goOn_33 : decode cX8_goOn 33 = .ok (.iadd, 1) := by decide +kernel
theorem dX8_goOn_34 : decode cX8_goOn 34 = .ok (.invokevirtual 98, 3) := by decide +kernel
theorem dX8_goOn_37 : decode cX8_goOn 37 = .ok (.aload_n 0, 1) := by decide +kernel
theorem dX8_goOn_38 : decode cX8_goOn 38 = .ok (.iload_n 1, 1) := by decide +kernel
theorem dX8_goOn_39 : decode cX8_goOn 39 = .ok (.bipush 7, 2) := by decide +kernel
theorem dX8_goOn_41 : decode cX8_goOn 41 = .ok (.aload_n 0, 1) := by decide +kernel
theorem dX8_goOn_42 : decode cX8_goOn 42 = .ok (.iload_n 2, 1) := by decide +kernel
theorem dX8_goOn_43 : decode cX8_goOn 43 = .ok (.iconst 1, 1) := by decide +kernel
theorem dX8_goOn_44 : decode cX8_goOn 44 = .ok (.invokevirtual 94, 3) := by decide +kernel
theorem dX8_goOn_47 : decode cX8_goOn 47 = .ok (.invokevirtual 98, 3) := by decide +kernel
theorem dX8_goOn_50 : decode cX8_goOn 50 = .ok (.return_, 1) := by decide +kernel
theorem dX8_cut_0 : decode cX8_cut 0 = .ok (.aload_n 0, 1) := by decide +kernel
theorem dX8_cut_1 : decode cX8_cut 1 = .ok (.iload_n 1, 1) := by decide +kernel
theorem dX8_cut_2 : decode cX8_cut 2 = .ok (.iconst 0, 1) := by decide +kernel
theorem dX8_cut_3 : decode cX8_cut 3 = .ok (.invokevirtual 108, 3) := by decide +kernel
theorem dX8_cut_6 : decode cX8_cut 6 = .ok (.istore_n 3, 1) := by decide +kernel
theorem dX8_cut_7 : decode cX8_cut 7 = .ok (.aload_n 0, 1) := by decide +kernel
theorem dX8_cut_8 : decode cX8_cut 8 = .ok (.iload_n 2, 1) := by decide +kernel
theorem dX8_cut_9 : decode cX8_cut 9 = .ok (.iconst 2, 1) := by decide +kernel
theorem dX8_cut_10 : decode cX8_cut 10 = .ok (.invokevirtual 94, 3) := by decide +kernel
theorem dX8_cut_13 : decode cX8_cut 13 = .ok (.bipush 8, 2) := by decide +kernel
theorem dX8_cut_15 : decode cX8_cut 15 = .ok (.isub, 1) := by decide +kernel
theorem dX8_cut_16 : decode cX8_cut 16 = .ok (.bipush 8, 2) := by decide +kernel
theorem dX8_cut_18 : decode cX8_cut 18 = .ok (.idiv, 1) := by decide +kernel
theorem dX8_cut_19 : decode cX8_cut 19 = .ok (.bipush 8, 2) := by decide +kernel
theorem dX8_cut_21 : decode cX8_cut 21 = .ok (.imul, 1) := by decide +kernel
theorem dX8_cut_22 : decode cX8_cut 22 = .ok (.istore 4, 2) := by decide +kernel
theorem dX8_cut_24 : decode cX8_cut 24 = .ok (.aload_n 0, 1) := by decide +kernel
theorem dX8_cut_25 : decode cX8_cut 25 = .ok (.iload_n 1, 1) := by decide +kernel
theorem dX8_cut_26 : decode cX8_cut 26 = .ok (.iconst 1, 1) := by decide +kernel
theorem dX8_cut_27 : decode cX8_cut 27 = .ok (.invokevirtual 108, 3) := by decide +kernel
theorem dX8_cut_30 : decode cX8_cut 30 = .ok (.istore 5, 2) := by decide +kernel
theorem dX8_cut_32 : decode cX8_cut 32 = .ok (.iload 5, 2) := by decide +kernel
theorem dX8_cut_34 : decode cX8_cut 34 = .ok (.aload_n 0, 1) := by decide +kernel
theorem dX8_cut_35 : decode cX8_cut 35 = .ok (.iload_n 1, 1) := by decide +kernel
theorem dX8_cut_36 : decode cX8_cut 36 = .ok (.iconst 2, 1) := by decide +kernel
theorem dX8_cut_37 : decode cX8_cut 37 = .ok (.invokevirtual 108, 3) := by decide +kernel
theorem dX8_cut_40 : decode cX8_cut 40 = .ok (.iadd, 1) := by decide +kernel
theorem dX8_cut_41 : decode cX8_cut 41 = .ok (.istore 6, 2) := by decide +kernel
theorem dX8_cut_43 : decode cX8_cut 43 = .ok (.aload_n 0, 1) := by decide +kernel
theorem dX8_cut_44 : decode cX8_cut 44 = .ok (.iload_n 1, 1) := by decide +kernel
theorem dX8_cut_45 : decode cX8_cut 45 = .ok (.iconst 3, 1) := by decide +kernel
theorem dX8_cut_46 : decode cX8_cut 46 = .ok (.invokevirtual 108, 3) := by decide +kernel
theorem dX8_cut_49 : decode cX8_cut 49 = .ok (.istore 7, 2) := by decide +kernel
theorem dX8_cut_51 : decode cX8_cut 51 = .ok (.aload_n 0, 1) := by decide +kernel
theorem dX8_cut_52 : decode cX8_cut 52 = .ok (.iload_n 1, 1) := by decide +kernel
theorem dX8_cut_53 : decode cX8_cut 53 = .ok (.iconst 4, 1) := by decide +kernel
theorem dX8_cut_54 : decode cX8_cut 54 = .ok (.invokevirtual 108, 3) := by decide +kernel
theorem dX8_cut_57 : decode cX8_cut 57 = .ok (.iconst 1, 1) := by decide +kernel
theorem dX8_cut_58 : decode cX8_cut 58 = .ok (.isub, 1) := by decide +kernel
theorem dX8_cut_59 : decode cX8_cut 59 = .ok (.istore 8, 2) := by decide +kernel
theorem dX8_cut_61 : decode cX8_cut 61 = .ok (.aload_n 0, 1) := by decide +kernel
theorem dX8_cut_62 : decode cX8_cut 62 = .ok (.iload_n 1, 1) := by decide +kernel
theorem dX8_cut_63 : decode cX8_cut 63 = .ok (.iconst 5, 1) := by decide +kernel
theorem dX8_cut_64 : decode cX8_cut 64 = .ok (.invokevirtual 108, 3) := by decide +kernel
theorem dX8_cut_67 : decode cX8_cut 67 = .ok (.istore 9, 2) := by decide +kernel
theorem dX8_cut_69 : decode cX8_cut 69 = .ok (.aload_n 0, 1) := by decide +kernel
theorem dX8_cut_70 : decode cX8_cut 70 = .ok (.iload_n 1, 1) := by decide +kernel
theorem dX8_cut_71 : decode cX8_cut 71 = .ok (.invokevirtual 115, 3) := by decide +kernel
theorem dX8_cut_74 : decode cX8_cut 74 = .ok (.aload_n 0, 1) := by decide +kernel
theorem dX8_cut_75 : decode cX8_cut 75 = .ok (.getfield 7, 3) := by decide +kernel
theorem dX8_cut_78 : decode cX8_cut 78 = .ok (.iconst 5, 1) := by decide +kernel
theorem dX8_cut_79 : decode cX8_cut 79 = .ok (.dup2, 1) := by decide +kernel
theorem dX8_cut_80 : decode cX8_cut 80 = .ok (.iaload, 1) := by decide +kernel
theorem dX8_cut_81 : decode cX8_cut 81 = .ok (.iconst 1, 1) := by decide +kernel
theorem dX8_cut_82 : decode cX8_cut 82 = .ok (.iadd, 1) := by decide +kernel
theorem dX8_cut_83 : decode cX8_cut 83 = .ok (.iastore, 1) := by decide +kernel
theorem dX8_cut_84 : decode cX8_cut 84 = .ok (.iload 5, 2) := by decide +kernel
theorem dX8_cut_86 : decode cX8_cut 86 = .ok (.iload 6, 2) := by decide +kernel
theorem dX8_cut_88 : decode cX8_cut 88 = .ok (.if_icmp .ge 129, 3) := by decide +kernel
theorem dX8_cut_91 : decode cX8_cut 91 = .ok (.iload 5, 2) := by decide +kernel
theorem dX8_cut_93 : decode cX8_cut 93 = .ok (.iload 4, 2) := by decide +kernel
theorem dX8_cut_95 : decode cX8_cut 95 = .ok (.iadd, 1) := by decide +kernel
theorem dX8_cut_96 : decode cX8_cut 96 = .ok (.iload 6, 2) := by decide +kernel
theorem dX8_cut_98 : decode cX8_cut 98 = .ok (.if_icmp .ge 11, 3) := by decide +kernel
theorem dX8_cut_101 : decode cX8_cut 101 = .ok (.iload 5, 2) := by decide +kernel
theorem dX8_cut_103 : decode cX8_cut 103 = .ok (.iload 4, 2) := by decide +kernel
theorem dX8_cut_105 : decode cX8_cut 105 = .ok (.iadd, 1) := by decide +kernel
theorem dX8_cut_106 : decode cX8_cut 106 = .ok (.goto 5, 3) := by decide +kernel
theorem dX8_cut_109 : decode cX8_cut 109 = .ok (.iload 6, 2) := by decide +kernel
theorem dX8_cut_111 : decode cX8_cut 111 = .ok (.istore 10, 2) := by decide +kernel
theorem dX8_cut_113 : decode cX8_cut 113 = .ok (.aload_n 0, 1) := by decide +kernel
theorem dX8_cut_114 : decode cX8_cut 114 = .ok (.getfield 7, 3) := by decide +kernel
theorem dX8_cut_117 : decode cX8_cut 117 = .ok (.iconst 4, 1) := by decide +kernel
theorem dX8_cut_118 : decode cX8_cut 118 = .ok (.dup2, 1) := by decide +kernel
theorem dX8_cut_119 : decode cX8_cut 119 = .ok (.iaload, 1) := by decide +kernel
theorem dX8_cut_120 : decode cX8_cut 120 = .ok (.iconst 1, 1) := by decide +kernel
theorem dX8_cut_121 : decode cX8_cut 121 = .ok (.iadd, 1) := by decide +kernel
theorem dX8_cut_122 : decode cX8_cut 122 = .ok (.iastore, 1) := by decide +kernel
theorem dX8_cut_123 : decode cX8_cut 123 = .ok (.aload_n 0, 1) := by decide +kernel
theorem dX8_cut_124 : decode cX8_cut 124 = .ok (.getfield 7, 3) := by decide +kernel
theorem dX8_cut_127 : decode cX8_cut 127 = .ok (.iconst 3, 1) := by decide +kernel
theorem dX8_cut_128 : decode cX8_cut 128 = .ok (.iaload, 1) := by decide +kernel
theorem dX8_cut_129 : decode cX8_cut 129 = .ok (.sipush 300, 3) := by decide +kernel
theorem dX8_cut_132 : decode cX8_cut 132 = .ok (.if_icmp .ne 12, 3) := by decide +kernel
theorem dX8_cut_135 : decode cX8_cut 135 = .ok (.aload_n 0, 1) := by decide +kernel
theorem dX8_cut_136 : decode cX8_cut 136 = .ok (.iload_n 3, 1) := by decide +kernel
theorem dX8_cut_137 : decode cX8_cut 137 = .ok (.iconst 5, 1) := by decide +kernel
theorem dX8_cut_138 : decode cX8_cut 138 = .ok (.invokevirtual 111, 3) := by decide +kernel
theorem dX8_cut_141 : decode cX8_cut 141 = .ok (.goto 69, 3) := by decide +kernel
theorem dX8_cut_144 : decode cX8_cut 144 = .ok (.aload_n 0, 1) := by decide +kernel
theorem dX8_cut_145 : decode cX8_cut 145 = .ok (.iload_n 2, 1) := by decide +kernel
theorem dX8_cut_146 : decode cX8_cut 146 = .ok (.iload 10, 2) := by decide +kernel
theorem dX8_cut_148 : decode cX8_cut 148 = .ok (.iload 5, 2) := by decide +kernel
theorem dX8_cut_150 : decode cX8_cut 150 = .ok (.isub, 1) := by decide +kernel
theorem dX8_cut_151 : decode cX8_cut 151 = .ok (.invokevirtual 178, 3) := by decide +kernel
theorem dX8_cut_154 : decode cX8_cut 154 = .ok (.ifCond .ne 12, 3) := by decide +kernel
theorem dX8_cut_157 : decode cX8_cut 157 = .ok (.aload_n 0, 1) := by decide +kernel
theorem dX8_cut_158 : decode cX8_cut 158 = .ok (.iload_n 3, 1) := by decide +kernel
theorem dX8_cut_159 : decode cX8_cut 159 = .ok (.iconst 4, 1) := by decide +kernel
theorem dX8_cut_160 : decode cX8_cut 160 = .ok (.invokevirtual 111, 3) := by decide +kernel
theorem dX8_cut_163 : decode cX8_cut 163 = .ok (.goto 47, 3) := by decide +kernel
theorem dX8_cut_166 : decode cX8_cut 166 = .ok (.aload_n 0, 1) := by decide +kernel
theorem dX8_cut_167 : decode cX8_cut 167 = .ok (.iload_n 3, 1) := by decide +kernel
theorem dX8_cut_168 : decode cX8_cut 168 = .ok (.iload 5, 2) := by decide +kernel
theorem dX8_cut_170 : decode cX8_cut 170 = .ok (.iload 10, 2) := by decide +kernel
theorem dX8_cut_172 : decode cX8_cut 172 = .ok (.iload 5, 2) := by decide +kernel
theorem dX8_cut_174 : decode cX8_cut 174 = .ok (.isub, 1) := by decide +kernel
theorem dX8_cut_175 : decode cX8_cut 175 = .ok (.iload 10, 2) := by decide +kernel
theorem dX8_cut_177 : decode cX8_cut 177 = .ok (.iload 6, 2) := by decide +kernel
theorem dX8_cut_179 : decode cX8_cut 179 = .ok (.if_icmp .ne 8, 3) := by decide +kernel
theorem dX8_cut_182 : decode cX8_cut 182 = .ok (.iload 7, 2) := by decide +kernel
theorem dX8_cut_184 : decode cX8_cut 184 = .ok (.goto 4, 3) := by decide +kernel
theorem dX8_cut_187 : decode cX8_cut 187 = .ok (.iconst 0, 1) := by decide +kernel
theorem dX8_cut_188 : decode cX8_cut 188 = .ok (.iload 8, 2) := by decide +kernel
theorem dX8_cut_190 : decode cX8_cut 190 = .ok (.iload 9, 2) := by decide +kernel
theorem dX8_cut_192 : decode cX8_cut 192 = .ok (.bipush (-6), 2) := by decide +kernel
theorem dX8_cut_194 : decode cX8_cut 194 = .ok (.invokevirtual 123, 3) := by decide +kernel
theorem dX8_cut_197 : decode cX8_cut 197 = .ok (.aload_n 0, 1) := by decide +kernel
theorem dX8_cut_198 : decode cX8_cut 198 = .ok (.aload_n 0, 1) := by decide +kernel
theorem dX8_cut_199 : decode cX8_cut 199 = .ok (.getfield 7, 3) := by decide +kernel
theorem dX8_cut_202 : decode cX8_cut 202 = .ok (.iconst 3, 1) := by decide +kernel
theorem dX8_cut_203 : decode cX8_cut 203 = .ok (.iaload, 1) := by decide +kernel
theorem dX8_cut_204 : decode cX8_cut 204 = .ok (.iconst 1, 1) := by decide +kernel
theorem dX8_cut_205 : decode cX8_cut 205 = .ok (.isub, 1) := by decide +kernel
theorem dX8_cut_206 : decode cX8_cut 206 = .ok (.iload_n 2, 1) := by decide +kernel
theorem dX8_cut_207 : decode cX8_cut 207 = .ok (.invokevirtual 181, 3) := by decide +kernel
theorem dX8_cut_210 : decode cX8_cut 210 = .ok (.iload 10, 2) := by decide +kernel
theorem dX8_cut_212 : decode cX8_cut 212 = .ok (.istore 5, 2) := by decide +kernel
theorem dX8_cut_214 : decode cX8_cut 214 = .ok (.goto (-130), 3) := by decide +kernel
theorem dX8_cut_217 : decode cX8_cut 217 = .ok (.return_, 1) := by decide +kernel
theorem dX8_isStill_0 : decode cX8_isStill 0 = .ok (.aload_n 0, 1) := by decide +kernel
theorem dX8_isStill_1 : decode cX8_isStill 1 = .ok (.iload_n 1, 1) := by decide +kernel
theorem dX8_isStill_2 : decode cX8_isStill 2 = .ok (.iconst 0, 1) := by decide +kernel
theorem dX8_isStill_3 : decode cX8_isStill 3 = .ok (.invokevirtual 108, 3) := by decide +kernel
theorem dX8_isStill_6 : decode cX8_isStill 6 = .ok (.istore_n 2, 1) := by decide +kernel
theorem dX8_isStill_7 : decode cX8_isStill 7 = .ok (.aload_n 0, 1) := by decide +kernel
theorem dX8_isStill_8 : decode cX8_isStill 8 = .ok (.iload_n 1, 1) := by decide +kernel
theorem dX8_isStill_9 : decode cX8_isStill 9 = .ok (.bipush 7, 2) := by decide +kernel
theorem dX8_isStill_11 : decode cX8_isStill 11 = .ok (.invokevirtual 108, 3) := by decide +kernel
theorem dX8_isStill_14 : decode cX8_isStill 14 = .ok (.istore_n 3, 1) := by decide +kernel
theorem dX8_isStill_15 : decode cX8_isStill 15 = .ok (.aload_n 0, 1) := by decide +kernel
theorem dX8_isStill_16 : decode cX8_isStill 16 = .ok (.iload_n 2, 1) := by decide +kernel
theorem dX8_isStill_17 : decode cX8_isStill 17 = .ok (.iconst 1, 1) := by decide +kernel
theorem dX8_isStill_18 : decode cX8_isStill 18 = .ok (.invokevirtual 102, 3) := by decide +kernel
theorem dX8_isStill_21 : decode cX8_isStill 21 = .ok (.istore 4, 2) := by decide +kernel
theorem dX8_isStill_23 : decode cX8_isStill 23 = .ok (.iload_n 3, 1) := by decide +kernel
theorem dX8_isStill_24 : decode cX8_isStill 24 = .ok (.iload 4, 2) := by decide +kernel
theorem dX8_isStill_26 : decode cX8_isStill 26 = .ok (.if_icmp .ne 10, 3) := by decide +kernel
theorem dX8_isStill_29 : decode cX8_isStill 29 = .ok (.aload_n 0, 1) := by decide +kernel
theorem dX8_isStill_30 : decode cX8_isStill 30 = .ok (.iload_n 1, 1) := by decide +kernel
theorem dX8_isStill_31 : decode cX8_isStill 31 = .ok (.invokevirtual 184, 3) := by decide +kernel
theorem dX8_isStill_34 : decode cX8_isStill 34 = .ok (.iconst 0, 1) := by decide +kernel
theorem dX8_isStill_35 : decode cX8_isStill 35 = .ok (.ireturn, 1) := by decide +kernel
theorem dX8_isStill_36 : decode cX8_isStill 36 = .ok (.aload_n 0, 1) := by decide +kernel
theorem dX8_isStill_37 : decode cX8_isStill 37 = .ok (.iload_n 3, 1) := by decide +kernel
theorem dX8_isStill_38 : decode cX8_isStill 38 = .ok (.iconst 3, 1) := by decide +kernel
theorem dX8_isStill_39 : decode cX8_isStill 39 = .ok (.iload 4, 2) := by decide +kernel
theorem dX8_isStill_41 : decode cX8_isStill 41 = .ok (.iadd, 1) := by decide +kernel
theorem dX8_isStill_42 : decode cX8_isStill 42 = .ok (.invokevirtual 152, 3) := by decide +kernel
theorem dX8_isStill_45 : decode cX8_isStill 45 = .ok (.istore 5, 2) := by decide +kernel
theorem dX8_isStill_47 : decode cX8_isStill 47 = .ok (.iload 5, 2) := by decide +kernel
theorem dX8_isStill_49 : decode cX8_isStill 49 = .ok (.ifCond .lt 26, 3) := by decide +kernel
theorem dX8_isStill_52 : decode cX8_isStill 52 = .ok (.aload_n 0, 1) := by decide +kernel
theorem dX8_isStill_53 : decode cX8_isStill 53 = .ok (.iload_n 1, 1) := by decide +kernel
theorem dX8_isStill_54 : decode cX8_isStill 54 = .ok (.iconst 2, 1) := by decide +kernel
theorem dX8_isStill_55 : decode cX8_isStill 55 = .ok (.invokevirtual 108, 3) := by decide +kernel
theorem dX8_isStill_58 : decode cX8_isStill 58 = .ok (.bipush 8, 2) := by decide +kernel
theorem dX8_isStill_60 : decode cX8_isStill 60 = .ok (.iadd, 1) := by decide +kernel
theorem dX8_isStill_61 : decode cX8_isStill 61 = .ok (.aload_n 0, 1) := by decide +kernel
theorem dX8_isStill_62 : decode cX8_isStill 62 = .ok (.iload 5, 2) := by decide +kernel
theorem dX8_isStill_64 : decode cX8_isStill 64 = .ok (.iconst 2, 1) := by decide +kernel
theorem dX8_isStill_65 : decode cX8_isStill 65 = .ok (.invokevirtual 94, 3) := by decide +kernel
theorem dX8_isStill_68 : decode cX8_isStill 68 = .ok (.if_icmp .le 7, 3) := by decide +kernel
theorem dX8_isStill_71 : decode cX8_isStill 71 = .ok (.iconst 1, 1) := by decide +kernel
theorem dX8_isStill_72 : decode cX8_isStill 72 = .ok (.goto 4, 3) := by decide +kernel
theorem dX8_isStill_75 : decode cX8_isStill 75 = .ok (.iconst 0, 1) := by decide +kernel
theorem dX8_isStill_76 : decode cX8_isStill 76 = .ok (.istore 6, 2) := by decide +kernel
theorem dX8_isStill_78 : decode cX8_isStill 78 = .ok (.aload_n 0, 1) := by decide +kernel
theorem dX8_isStill_79 : decode cX8_isStill 79 = .ok (.iload_n 1, 1) := by decide +kernel
theorem dX8_isStill_80 : decode cX8_isStill 80 = .ok (.iconst 4, 1) := by decide +kernel
theorem dX8_isStill_81 : decode cX8_isStill 81 = .ok (.invokevirtual 108, 3) := by decide +kernel
theorem dX8_isStill_84 : decode cX8_isStill 84 = .ok (.ifCond .ne 7, 3) := by decide +kernel
theorem dX8_isStill_87 : decode cX8_isStill 87 = .ok (.iconst 1, 1) := by decide +kernel
theorem dX8_isStill_88 : decode cX8_isStill 88 = .ok (.goto 31, 3) := by decide +kernel
theorem dX8_isStill_91 : decode cX8_isStill 91 = .ok (.iload 5, 2) := by decide +kernel
theorem dX8_isStill_93 : decode cX8_isStill 93 = .ok (.ifCond .ge 7, 3) := by decide +kernel
theorem dX8_isStill_96 : decode cX8_isStill 96 = .ok (.iconst 2, 1) := by decide +kernel
theorem dX8_isStill_97 : decode cX8_isStill 97 = .ok (.goto 22, 3) := by decide +kernel
theorem dX8_isStill_100 : decode cX8_isStill 100 = .ok (.iload 6, 2) := by decide +kernel
theorem dX8_isStill_102 : decode cX8_isStill 102 = .ok (.ifCond .eq 16, 3) := by decide +kernel
theorem dX8_isStill_105 : decode cX8_isStill 105 = .ok (.aload_n 0, 1) := by decide +kernel
theorem dX8_isStill_106 : decode cX8_isStill 106 = .ok (.iload_n 2, 1) := by decide +kernel
theorem dX8_isStill_107 : decode cX8_isStill 107 = .ok (.iconst 4, 1) := by decide +kernel
theorem dX8_isStill_108 : decode cX8_isStill 108 = .ok (.invokevirtual 102, 3) := by decide +kernel
theorem dX8_isStill_111 : decode cX8_isStill 111 = .ok (.ifCond .ne 7, 3) := by decide +kernel
theorem dX8_isStill_114 : decode cX8_isStill 114 = .ok (.iconst 3, 1) := by decide +kernel
theorem dX8_isStill_115 : decode cX8_isStill 115 = .ok (.goto 4, 3) := by decide +kernel
theorem dX8_isStill_118 : decode cX8_isStill 118 = .ok (.iconst 0, 1) := by decide +kernel
theorem dX8_isStill_119 : decode cX8_isStill 119 = .ok (.istore 7, 2) := by decide +kernel
theorem dX8_isStill_121 : decode cX8_isStill 121 = .ok (.iload 7, 2) := by decide +kernel
theorem dX8_isStill_123 : decode cX8_isStill 123 = .ok (.ifCond .le 12, 3) := by decide +kernel
theorem dX8_isStill_126 : decode cX8_isStill 126 = .ok (.aload_n 0, 1) := by decide +kernel
theorem dX8_isStill_127 : decode cX8_isStill 127 = .ok (.iload_n 1, 1) := by decide +kernel
theorem dX8_isStill_128 : decode cX8_isStill 128 = .ok (.iload 7, 2) := by decide +kernel
theorem dX8_isStill_130 : decode cX8_isStill 130 = .ok (.invokevirtual 161, 3) := by decide +kernel
theorem dX8_isStill_133 : decode cX8_isStill 133 = .ok (.iconst 0, 1) := by decide +kernel
theorem dX8_isStill_134 : decode cX8_isStill 134 = .ok (.ireturn, 1) := by decide +kernel
theorem dX8_isStill_135 : decode cX8_isStill 135 = .ok (.iload 6, 2) := by decide +kernel
theorem dX8_isStill_137 : decode cX8_isStill 137 = .ok (.ifCond .eq 12, 3) := by decide +kernel
theorem dX8_isStill_140 : decode cX8_isStill 140 = .ok (.aload_n 0, 1) := by decide +kernel
theorem dX8_isStill_141 : decode cX8_isStill 141 = .ok (.iload_n 1, 1) := by decide +kernel
theorem dX8_isStill_142 : decode cX8_isStill 142 = .ok (.iload 5, 2) := by decide +kernel
theorem dX8_isStill_144 : decode cX8_isStill 144 = .ok (.invokevirtual 187, 3) := by decide +kernel
theorem dX8_isStill_147 : decode cX8_isStill 147 = .ok (.iconst 0, 1) := by decide +kernel
theorem dX8_isStill_148 : decode cX8_isStill 148 = .ok (.ireturn, 1) := by decide +kernel
theorem dX8_isStill_149 : decode cX8_isStill 149 = .ok (.aload_n 0, 1) := by decide +kernel
theorem dX8_isStill_150 : decode cX8_isStill 150 = .ok (.iload 5, 2) := by decide +kernel
theorem dX8_isStill_152 : decode cX8_isStill 152 = .ok (.aload_n 0, 1) := by decide +kernel
theorem dX8_isStill_153 : decode cX8_isStill 153 = .ok (.iload_n 1, 1) := by decide +kernel
theorem dX8_isStill_154 : decode cX8_isStill 154 = .ok (.iconst 2, 1) := by decide +kernel
theorem dX8_isStill_155 : decode cX8_isStill 155 = .ok (.invokevirtual 108, 3) := by decide +kernel
theorem dX8_isStill_158 : decode cX8_isStill 158 = .ok (.invokevirtual 178, 3) := by decide +kernel
theorem dX8_isStill_161 : decode cX8_isStill 161 = .ok (.ifCond .ne 11, 3) := by decide +kernel
theorem dX8_isStill_164 : decode cX8_isStill 164 = .ok (.aload_n 0, 1) := by decide +kernel
theorem dX8_isStill_165 : decode cX8_isStill 165 = .ok (.iload_n 1, 1) := by decide +kernel
theorem dX8_isStill_166 : decode cX8_isStill 166 = .ok (.iconst 4, 1) := by decide +kernel
theorem dX8_isStill_167 : decode cX8_isStill 167 = .ok (.invokevirtual 161, 3) := by decide +kernel
theorem dX8_isStill_170 : decode cX8_isStill 170 = .ok (.iconst 0, 1) := by decide +kernel
theorem dX8_isStill_171 : decode cX8_isStill 171 = .ok (.ireturn, 1) := by decide +kernel
theorem dX8_isStill_172 : decode cX8_isStill 172 = .ok (.aload_n 0, 1) := by decide +kernel
theorem dX8_isStill_173 : decode cX8_isStill 173 = .ok (.iload_n 1, 1) := by decide +kernel
theorem dX8_isStill_174 : decode cX8_isStill 174 = .ok (.iconst 4, 1) := by decide +kernel
theorem dX8_isStill_175 : decode cX8_isStill 175 = .ok (.aload_n 0, 1) := by decide +kernel
theorem dX8_isStill_176 : decode cX8_isStill 176 = .ok (.iload_n 1, 1) := by decide +kernel
theorem dX8_isStill_177 : decode cX8_isStill 177 = .ok (.iconst 4, 1) := by decide +kernel
theorem dX8_isStill_178 : decode cX8_isStill 178 = .ok (.invokevirtual 108, 3) := by decide +kernel
theorem dX8_isStill_181 : decode cX8_isStill 181 = .ok (.iconst 1, 1) := by decide +kernel
theorem dX8_isStill_182 : decode cX8_isStill 182 = .ok (.isub, 1) := by decide +kernel
theorem dX8_isStill_183 : decode cX8_isStill 183 = .ok (.invokevirtual 98, 3) := by decide +kernel
theorem dX8_isStill_186 : decode cX8_isStill 186 = .ok (.aload_n 0, 1) := by decide +kernel
theorem dX8_isStill_187 : decode cX8_isStill 187 = .ok (.iload_n 1, 1) := by decide +kernel
theorem dX8_isStill_188 : decode cX8_isStill 188 = .ok (.iload 5, 2) := by decide +kernel
theorem dX8_isStill_190 : decode cX8_isStill 190 = .ok (.invokevirtual 181, 3) := by decide +kernel
theorem dX8_isStill_193 : decode cX8_isStill 193 = .ok (.iconst 1, 1) := by decide +kernel
theorem dX8_isStill_194 : decode cX8_isStill 194 = .ok (.ireturn, 1) := by decide +kernel
theorem dX8_passTick_0 : decode cX8_passTick 0 = .ok (.iconst 0, 1) := by decide +kernel
theorem dX8_passTick_1 : decode cX8_passTick 1 = .ok (.istore_n 1, 1) := by decide +kernel
theorem dX8_passTick_2 : decode cX8_passTick 2 = .ok (.iload_n 1, 1) := by decide +kernel
theorem dX8_passTick_3 : decode cX8_passTick 3 = .ok (.aload_n 0, 1) := by decide +kernel
theorem dX8_passTick_4 : decode cX8_passTick 4 = .ok (.getfield 7, 3) := by decide +kernel
theorem dX8_passTick_7 : decode cX8_passTick 7 = .ok (.iconst 3, 1) := by decide +kernel
theorem dX8_passTick_8 : decode cX8_passTick 8 = .ok (.iaload, 1) := by decide +kernel
theorem dX8_passTick_9 : decode cX8_passTick 9 = .ok (.if_icmp .ge 38, 3) := by decide +kernel
theorem dX8_passTick_12 : decode cX8_passTick 12 = .ok (.iload_n 1, 1) := by decide +kernel
theorem dX8_passTick_13 : decode cX8_passTick 13 = .ok (.aload_n 0, 1) := by decide +kernel
theorem dX8_passTick_14 : decode cX8_passTick 14 = .ok (.iload_n 1, 1) := by decide +kernel
theorem dX8_passTick_15 : decode cX8_passTick 15 = .ok (.bipush 6, 2) := by decide +kernel
theorem dX8_passTick_17 : decode cX8_passTick 17 = .ok (.invokevirtual 108, 3) := by decide +kernel
theorem dX8_passTick_20 : decode cX8_passTick 20 = .ok (.aload_n 0, 1) := by decide +kernel
theorem dX8_passTick_21 : decode cX8_passTick 21 = .ok (.getfield 7, 3) := by decide +kernel
theorem dX8_passTick_24 : decode cX8_passTick 24 = .ok (.iconst 0, 1) := by decide +kernel
theorem dX8_passTick_25 : decode cX8_passTick 25 = .ok (.iaload, 1) := by decide +kernel
theorem dX8_passTick_26 : decode cX8_passTick 26 = .ok (.if_icmp .gt 11, 3) := by decide +kernel
theorem dX8_passTick_29 : decode cX8_passTick 29 = .ok (.aload_n 0, 1) := by decide +kernel
theorem dX8_passTick_30 : decode cX8_passTick 30 = .ok (.iload_n 1, 1) := by decide +kernel
theorem dX8_passTick_31 : decode cX8_passTick 31 = .ok (.invokevirtual 190, 3) := by decide +kernel
theorem dX8_passTick_34 : decode cX8_passTick 34 = .ok (.ifCond .eq 7, 3) := by decide +kernel
theorem dX8_passTick_37 : decode cX8_passTick 37 = .ok (.iconst 1, 1) := by decide +kernel
theorem dX8_passTick_38 : decode cX8_passTick 38 = .ok (.goto 4, 3) := by decide +kernel
theorem dX8_passTick_41 : decode cX8_passTick 41 = .ok (.iconst 0, 1) := by decide +kernel
theorem dX8_passTick_42 : decode cX8_passTick 42 = .ok (.iadd, 1) := by decide +kernel
theorem dX8_passTick_43 : decode cX8_passTick 43 = .ok (.istore_n 1, 1) := by decide +kernel
theorem dX8_passTick_44 : decode cX8_passTick 44 = .ok (.goto (-42), 3) := by decide +kernel
theorem dX8_passTick_47 : decode cX8_passTick 47 = .ok (.iconst 0, 1) := by decide +kernel
theorem dX8_passTick_48 : decode cX8_passTick 48 = .ok (.istore_n 2, 1) := by decide +kernel
theorem dX8_passTick_49 : decode cX8_passTick 49 = .ok (.iload_n 2, 1) := by decide +kernel
theorem dX8_passTick_50 : decode cX8_passTick 50 = .ok (.aload_n 0, 1) := by decide +kernel
theorem dX8_passTick_51 : decode cX8_passTick 51 = .ok (.getfield 7, 3) := by decide +kernel
theorem dX8_passTick_54 : decode cX8_passTick 54 = .ok (.iconst 2, 1) := by decide +kernel
theorem dX8_passTick_55 : decode cX8_passTick 55 = .ok (.iaload, 1) := by decide +kernel
theorem dX8_passTick_56 : decode cX8_passTick 56 = .ok (.if_icmp .ge 49, 3) := by decide +kernel
theorem dX8_passTick_59 : decode cX8_passTick 59 = .ok (.aload_n 0, 1) := by decide +kernel
theorem dX8_passTick_60 : decode cX8_passTick 60 = .ok (.iload_n 2, 1) := by decide +kernel
theorem dX8_passTick_61 : decode cX8_passTick 61 = .ok (.bipush 9, 2) := by decide +kernel
theorem dX8_passTick_63 : decode cX8_passTick 63 = .ok (.invokevirtual 102, 3) := by decide +kernel
theorem dX8_passTick_66 : decode cX8_passTick 66 = .ok (.istore_n 3, 1) := by decide +kernel
theorem dX8_passTick_67 : decode cX8_passTick 67 = .ok (.iload_n 3, 1) := by decide +kernel
theorem dX8_passTick_68 : decode cX8_passTick 68 = .ok (.ifCond .lt 31, 3) := by decide +kernel
theorem dX8_passTick_71 : decode cX8_passTick 71 = .ok (.aload_n 0, 1) := by decide +kernel
theorem dX8_passTick_72 : decode cX8_passTick 72 = .ok (.getfield 7, 3) := by decide +kernel
theorem dX8_passTick_75 : decode cX8_passTick 75 = .ok (.iconst 0, 1) := by decide +kernel
theorem dX8_passTick_76 : decode cX8_passTick 76 = .ok (.iaload, 1) := by decide +kernel
theorem dX8_passTick_77 : decode cX8_passTick 77 = .ok (.iload_n 3, 1) := by decide +kernel
theorem dX8_passTick_78 : decode cX8_passTick 78 = .ok (.isub, 1) := by decide +kernel
theorem dX8_passTick_79 : decode cX8_passTick 79 = .ok (.aload_n 0, 1) := by decide +kernel
theorem dX8_passTick_80 : decode cX8_passTick 80 = .ok (.aload_n 0, 1) := by decide +kernel
theorem dX8_passTick_81 : decode cX8_passTick 81 = .ok (.iload_n 2, 1) := by decide +kernel
theorem dX8_passTick_82 : decode cX8_passTick 82 = .ok (.iconst 1, 1) := by decide +kernel
theorem dX8_passTick_83 : decode cX8_passTick 83 = .ok (.invokevirtual 102, 3) := by decide +kernel
theorem dX8_passTick_86 : decode cX8_passTick 86 = .ok (.iconst 1, 1) := by decide +kernel
theorem dX8_passTick_87 : decode cX8_passTick 87 = .ok (.invokevirtual 152, 3) := by decide +kernel
theorem dX8_passTick_90 : decode cX8_passTick 90 = .ok (.if_icmp .lt 9, 3) := by decide +kernel
theorem dX8_passTick_93 : decode cX8_passTick 93 = .ok (.aload_n 0, 1) := by decide +kernel
theorem dX8_passTick_94 : decode cX8_passTick 94 = .ok (.iload_n 2, 1) := by decide +kernel
theorem dX8_passTick_95 : decode cX8_passTick 95 = .ok (.iconst 3, 1) := by decide +kernel
theorem dX8_passTick_96 : decode cX8_passTick 96 = .ok (.invokevirtual 155, 3) := by decide +kernel
theorem dX8_passTick_99 : decode cX8_passTick 99 = .ok (.iinc 2 1, 3) := by decide +kernel
theorem dX8_passTick_102 : decode cX8_passTick 102 = .ok (.goto (-53), 3) := by decide +kernel
theorem dX8_passTick_105 : decode cX8_passTick 105 = .ok (.aload_n 0, 1) := by decide +kernel
theorem dX8_passTick_106 : decode cX8_passTick 106 = .ok (.getfield 7, 3) := by decide +kernel
theorem dX8_passTick_109 : decode cX8_passTick 109 = .ok (.iconst 0, 1) := by decide +kernel
theorem dX8_passTick_110 : decode cX8_passTick 110 = .ok (.dup2, 1) := by decide +kernel
theorem dX8_passTick_111 : decode cX8_passTick 111 = .ok (.iaload, 1) := by decide +kernel
theorem dX8_passTick_112 : decode cX8_passTick 112 = .ok (.iconst 1, 1) := by decide +kernel
theorem dX8_passTick_113 : decode cX8_passTick 113 = .ok (.iadd, 1) := by decide +kernel
theorem dX8_passTick_114 : decode cX8_passTick 114 = .ok (.iastore, 1) := by decide +kernel
theorem dX8_passTick_115 : decode cX8_passTick 115 = .ok (.return_, 1) := by decide +kernel
theorem dX8_tryTicks_0 : decode cX8_tryTicks 0 = .ok (.iload_n 1, 1) := by decide +kernel
theorem dX8_tryTicks_1 : decode cX8_tryTicks 1 = .ok (.iconst 1, 1) := by decide +kernel
theorem dX8_tryTicks_2 : decode cX8_tryTicks 2 = .ok (.sipush 500, 3) := by decide +kernel
theorem dX8_tryTicks_5 : decode cX8_tryTicks 5 = .ok (.invokestatic 65, 3) := by decide +kernel
theorem dX8_tryTicks_8 : decode cX8_tryTicks 8 = .ok (.ifCond .ne 6, 3) := by decide +kernel
theorem dX8_tryTicks_11 : decode cX8_tryTicks 11 = .ok (.bipush (-2), 2) := by decide +kernel
theorem dX8_tryTicks_13 : decode cX8_tryTicks 13 = .ok (.ireturn, 1) := by decide +kernel
theorem dX8_tryTicks_14 : decode cX8_tryTicks 14 = .ok (.aload_n 0, 1) := by decide +kernel
theorem dX8_tryTicks_15 : decode cX8_tryTicks 15 = .ok (.iload_n 2, 1) := by decide +kernel
theorem dX8_tryTicks_16 : decode cX8_tryTicks 16 = .ok (.invokevirtual 119, 3) := by decide +kernel
theorem dX8_tryTicks_19 : decode cX8_tryTicks 19 = .ok (.iconst 0, 1) := by decide +kernel
theorem dX8_tryTicks_20 : decode cX8_tryTicks 20 = .ok (.istore_n 3, 1) := by decide +kernel
theorem dX8_tryTicks_21 : decode cX8_tryTicks 21 = .ok (.iload_n 3, 1) := by decide +kernel
theorem dX8_tryTicks_22 : decode cX8_tryTicks 22 = .ok (.iload_n 1, 1) := by decide +kernel
theorem dX8_tryTicks_23 : decode cX8_tryTicks 23 = .ok (.if_icmp .ge 13, 3) := by decide +kernel
theorem dX8_tryTicks_26 : decode cX8_tryTicks 26 = .ok (.aload_n 0, 1) := by decide +kernel
theorem dX8_tryTicks_27 : decode cX8_tryTicks 27 = .ok (.invokevirtual 193, 3) := by decide +kernel
theorem dX8_tryTicks_30 : decode cX8_tryTicks 30 = .ok (.iinc 3 1, 3) := by decide +kernel
theorem dX8_tryTicks_33 : decode cX8_tryTicks 33 = .ok (.goto (-12), 3) := by decide +kernel
theorem dX8_tryTicks_36 : decode cX8_tryTicks 36 = .ok (.aload_n 0, 1) := by decide +kernel
theorem dX8_tryTicks_37 : decode cX8_tryTicks 37 = .ok (.getfield 7, 3) := by decide +kernel
theorem dX8_tryTicks_40 : decode cX8_tryTicks 40 = .ok (.iconst 0, 1) := by decide +kernel
theorem dX8_tryTicks_41 : decode cX8_tryTicks 41 = .ok (.iaload, 1) := by decide +kernel
theorem dX8_tryTicks_42 : decode cX8_tryTicks 42 = .ok (.ireturn, 1) := by decide +kernel
theorem dX8_ticks_0 : decode cX8_ticks 0 = .ok (.aload_n 0, 1) := by decide +kernel
theorem dX8_ticks_1 : decode cX8_ticks 1 = .ok (.iload_n 1, 1) := by decide +kernel
theorem dX8_ticks_2 : decode cX8_ticks 2 = .ok (.iconst 1, 1) := by decide +kernel
theorem dX8_ticks_3 : decode cX8_ticks 3 = .ok (.invokevirtual 196, 3) := by decide +kernel
theorem dX8_ticks_6 : decode cX8_ticks 6 = .ok (.ireturn, 1) := by decide +kernel
theorem dX8_parcelsAt_0 : decode cX8_parcelsAt 0 = .ok (.iconst 0, 1) := by decide +kernel
theorem dX8_parcelsAt_1 : decode cX8_parcelsAt 1 = .ok (.istore_n 2, 1) := by decide +kernel
theorem dX8_parcelsAt_2 : decode cX8_parcelsAt 2 = .ok (.iconst 0, 1) := by decide +kernel
theorem dX8_parcelsAt_3 : decode cX8_parcelsAt 3 = .ok (.istore_n 3, 1) := by decide +kernel
theorem dX8_parcelsAt_4 : decode cX8_parcelsAt 4 = .ok (.iload_n 3, 1) := by decide +kernel
theorem dX8_parcelsAt_5 : decode cX8_parcelsAt 5 = .ok (.aload_n 0, 1) := by decide +kernel
theorem dX8_parcelsAt_6 : decode cX8_parcelsAt 6 = .ok (.getfield 7, 3) := by decide +kernel
theorem dX8_parcelsAt_9 : decode cX8_parcelsAt 9 = .ok (.iconst 2, 1) := by decide +kernel
theorem dX8_parcelsAt_10 : decode cX8_parcelsAt 10 = .ok (.iaload, 1) := by decide +kernel
theorem dX8_parcelsAt_11 : decode cX8_parcelsAt 11 = .ok (.if_icmp .ge 37, 3) := by decide +kernel
theorem dX8_parcelsAt_14 : decode cX8_parcelsAt 14 = .ok (.iload_n 2, 1) := by decide +kernel
theorem dX8_parcelsAt_15 : decode cX8_parcelsAt 15 = .ok (.aload_n 0, 1) := by decide +kernel
theorem dX8_parcelsAt_16 : decode cX8_parcelsAt 16 = .ok (.iload_n 3, 1) := by decide +kernel
theorem dX8_parcelsAt_17 : decode cX8_parcelsAt 17 = .ok (.iconst 1, 1) := by decide +kernel
theorem dX8_parcelsAt_18 : decode cX8_parcelsAt 18 = .ok (.invokevirtual 102, 3) := by decide +kernel
theorem dX8_parcelsAt_21 : decode cX8_parcelsAt 21 = .ok (.iload_n 1, 1) := by decide +kernel
theorem dX8_parcelsAt_22 : decode cX8_parcelsAt 22 = .ok (.if_icmp .ne 17, 3) := by decide +kernel
theorem dX8_parcelsAt_25 : decode cX8_parcelsAt 25 = .ok (.aload_n 0, 1) := by decide +kernel
theorem dX8_parcelsAt_26 : decode cX8_parcelsAt 26 = .ok (.iload_n 3, 1) := by decide +kernel
theorem dX8_parcelsAt_27 : decode cX8_parcelsAt 27 = .ok (.bipush 9, 2) := by decide +kernel
theorem dX8_parcelsAt_29 : decode cX8_parcelsAt 29 = .ok (.invokevirtual 102, 3) := by decide +kernel
theorem dX8_parcelsAt_32 : decode cX8_parcelsAt 32 = .ok (.ifCond .lt 7, 3) := by decide +kernel
theorem dX8_parcelsAt_35 : decode cX8_parcelsAt 35 = .ok (.iconst 1, 1) := by decide +kernel
theorem dX8_parcelsAt_36 : decode cX8_parcelsAt 36 = .ok (.goto 4, 3) := by decide +kernel
theorem dX8_parcelsAt_39 : decode cX8_parcelsAt 39 = .ok (.iconst 0, 1) := by decide +kernel
theorem dX8_parcelsAt_40 : decode cX8_parcelsAt 40 = .ok (.iadd, 1) := by decide +kernel
theorem dX8_parcelsAt_41 : decode cX8_parcelsAt 41 = .ok (.istore_n 2, 1) := by decide +kernel
theorem dX8_parcelsAt_42 : decode cX8_parcelsAt 42 = .ok (.iinc 3 1, 3) := by decide +kernel
theorem dX8_parcelsAt_45 : decode cX8_parcelsAt 45 = .ok (.goto (-41), 3) := by decide +kernel
theorem dX8_parcelsAt_48 : decode cX8_parcelsAt 48 = .ok (.iload_n 2, 1) := by decide +kernel
theorem dX8_parcelsAt_49 : decode cX8_parcelsAt 49 = .ok (.ireturn, 1) := by decide +kernel
theorem dX8_ofNode_0 : decode cX8_ofNode 0 = .ok (.iload_n 1, 1) := by decide +kernel
theorem dX8_ofNode_1 : decode cX8_ofNode 1 = .ok (.invokestatic 69, 3) := by decide +kernel
theorem dX8_ofNode_4 : decode cX8_ofNode 4 = .ok (.ifCond .ne 5, 3) := by decide +kernel
theorem dX8_ofNode_7 : decode cX8_ofNode 7 = .ok (.iconst (-1), 1) := by decide +kernel
theorem dX8_ofNode_8 : decode cX8_ofNode 8 = .ok (.ireturn, 1) := by decide +kernel
theorem dX8_ofNode_9 : decode cX8_ofNode 9 = .ok (.iload_n 2, 1) := by decide +kernel
theorem dX8_ofNode_10 : decode cX8_ofNode 10 = .ok (.iconst 0, 1) := by decide +kernel
theorem dX8_ofNode_11 : decode cX8_ofNode 11 = .ok (.iconst 2, 1) := by decide +kernel
theorem dX8_ofNode_12 : decode cX8_ofNode 12 = .ok (.invokestatic 65, 3) := by decide +kernel
theorem dX8_ofNode_15 : decode cX8_ofNode 15 = .ok (.ifCond .eq 10, 3) := by decide +kernel
theorem dX8_ofNode_18 : decode cX8_ofNode 18 = .ok (.aload_n 0, 1) := by decide +kernel
theorem dX8_ofNode_19 : decode cX8_ofNode 19 = .ok (.iload_n 1, 1) := by decide +kernel
theorem dX8_ofNode_20 : decode cX8_ofNode 20 = .ok (.iload_n 2, 1) := by decide +kernel
theorem dX8_ofNode_21 : decode cX8_ofNode 21 = .ok (.invokevirtual 152, 3) := by decide +kernel
theorem dX8_ofNode_24 : decode cX8_ofNode 24 = .ok (.ireturn, 1) := by decide +kernel
theorem dX8_ofNode_25 : decode cX8_ofNode 25 = .ok (.iload_n 2, 1) := by decide +kernel
theorem dX8_ofNode_26 : decode cX8_ofNode 26 = .ok (.bipush 10, 2) := by decide +kernel
theorem dX8_ofNode_28 : decode cX8_ofNode 28 = .ok (.bipush 17, 2) := by decide +kernel
theorem dX8_ofNode_30 : decode cX8_ofNode 30 = .ok (.invokestatic 65, 3) := by decide +kernel
theorem dX8_ofNode_33 : decode cX8_ofNode 33 = .ok (.ifCond .eq 15, 3) := by decide +kernel
theorem dX8_ofNode_36 : decode cX8_ofNode 36 = .ok (.aload_n 0, 1) := by decide +kernel
theorem dX8_ofNode_37 : decode cX8_ofNode 37 = .ok (.iload_n 1, 1) := by decide +kernel
theorem dX8_ofNode_38 : decode cX8_ofNode 38 = .ok (.iconst 3, 1) := by decide +kernel
theorem dX8_ofNode_39 : decode cX8_ofNode 39 = .ok (.iload_n 2, 1) := by decide +kernel
theorem dX8_ofNode_40 : decode cX8_ofNode 40 = .ok (.iadd, 1) := by decide +kernel
theorem dX8_ofNode_41 : decode cX8_ofNode 41 = .ok (.bipush 10, 2) := by decide +kernel
theorem dX8_ofNode_43 : decode cX8_ofNode 43 = .ok (.isub, 1) := by decide +kernel
theorem dX8_ofNode_44 : decode cX8_ofNode 44 = .ok (.invokevirtual 152, 3) := by decide +kernel
theorem dX8_ofNode_47 : decode cX8_ofNode 47 = .ok (.ireturn, 1) := by decide +kernel
theorem dX8_ofNode_48 : decode cX8_ofNode 48 = .ok (.iload_n 2, 1) := by decide +kernel
theorem dX8_ofNode_49 : decode cX8_ofNode 49 = .ok (.iconst 3, 1) := by decide +kernel
theorem dX8_ofNode_50 : decode cX8_ofNode 50 = .ok (.if_icmp .ne 11, 3) := by decide +kernel
theorem dX8_ofNode_53 : decode cX8_ofNode 53 = .ok (.aload_n 0, 1) := by decide +kernel
theorem dX8_ofNode_54 : decode cX8_ofNode 54 = .ok (.iload_n 1, 1) := by decide +kernel
theorem dX8_ofNode_55 : decode cX8_ofNode 55 = .ok (.invokevirtual 148, 3) := by decide +kernel
theorem dX8_ofNode_58 : decode cX8_ofNode 58 = .ok (.goto 18, 3) := by decide +kernel
theorem dX8_ofNode_61 : decode cX8_ofNode 61 = .ok (.iload_n 2, 1) := by decide +kernel
theorem dX8_ofNode_62 : decode cX8_ofNode 62 = .ok (.iconst 4, 1) := by decide +kernel
theorem dX8_ofNode_63 : decode cX8_ofNode 63 = .ok (.if_icmp .ne 11, 3) := by decide +kernel
theorem dX8_ofNode_66 : decode cX8_ofNode 66 = .ok (.aload_n 0, 1) := by decide +kernel
theorem dX8_ofNode_67 : decode cX8_ofNode 67 = .ok (.iload_n 1, 1) := by decide +kernel
theorem dX8_ofNode_68 : decode cX8_ofNode 68 = .ok (.invokevirtual 199, 3) := by decide +kernel
theorem dX8_ofNode_71 : decode cX8_ofNode 71 = .ok (.goto 5, 3) := by decide +kernel
theorem dX8_ofNode_74 : decode cX8_ofNode 74 = .ok (.bipush (-2), 2) := by decide +kernel
theorem dX8_ofNode_76 : decode cX8_ofNode 76 = .ok (.ireturn, 1) := by decide +kernel
theorem dX8_ofBridge_0 : decode cX8_ofBridge 0 = .ok (.aload_n 0, 1) := by decide +kernel
theorem dX8_ofBridge_1 : decode cX8_ofBridge 1 = .ok (.iload_n 1, 1) := by decide +kernel
theorem dX8_ofBridge_2 : decode cX8_ofBridge 2 = .ok (.invokevirtual 91, 3) := by decide +kernel
theorem dX8_ofBridge_5 : decode cX8_ofBridge 5 = .ok (.ifCond .ne 5, 3) := by decide +kernel
theorem dX8_ofBridge_8 : decode cX8_ofBridge 8 = .ok (.iconst (-1), 1) := by decide +kernel
theorem dX8_ofBridge_9 : decode cX8_ofBridge 9 = .ok (.ireturn, 1) := by decide +kernel
theorem dX8_ofBridge_10 : decode cX8_ofBridge 10 = .ok (.iload_n 2, 1) := by decide +kernel
theorem dX8_ofBridge_11 : decode cX8_ofBridge 11 = .ok (.iconst 0, 1) := by decide +kernel
theorem dX8_ofBridge_12 : decode cX8_ofBridge 12 = .ok (.bipush 8, 2) := by decide +kernel
theorem dX8_ofBridge_14 : decode cX8_ofBridge 14 = .ok (.invokestatic 65, 3) := by decide +kernel
theorem dX8_ofBridge_17 : decode cX8_ofBridge 17 = .ok (.ifCond .eq 12, 3) := by decide +kernel
theorem dX8_ofBridge_20 : decode cX8_ofBridge 20 = .ok (.aload_n 0, 1) := by decide +kernel
theorem dX8_ofBridge_21 : decode cX8_ofBridge 21 = .ok (.iload_n 1, 1) := by decide +kernel
theorem dX8_ofBridge_22 : decode cX8_ofBridge 22 = .ok (.iload_n 2, 1) := by decide +kernel
theorem dX8_ofBridge_23 : decode cX8_ofBridge 23 = .ok (.invokevirtual 94, 3) := by decide +kernel
theorem dX8_ofBridge_26 : decode cX8_ofBridge 26 = .ok (.goto 5, 3) := by decide +kernel
theorem dX8_ofBridge_29 : decode cX8_ofBridge 29 = .ok (.bipush (-2), 2) := by decide +kernel
theorem dX8_ofBridge_31 : decode cX8_ofBridge 31 = .ok (.ireturn, 1) := by decide +kernel
theorem dX8_slicesOf_0 : decode cX8_slicesOf 0 = .ok (.iconst 0, 1) := by decide +kernel
theorem dX8_slicesOf_1 : decode cX8_slicesOf 1 = .ok (.istore_n 2, 1) := by decide +kernel
theorem dX8_slicesOf_2 : decode cX8_slicesOf 2 = .ok (.iconst 0, 1) := by decide +kernel
theorem dX8_slicesOf_3 : decode cX8_slicesOf 3 = .ok (.istore_n 3, 1) := by decide +kernel
theorem dX8_slicesOf_4 : decode cX8_slicesOf 4 = .ok (.iload_n 3, 1) := by decide +kernel
theorem dX8_slicesOf_5 : decode cX8_slicesOf 5 = .ok (.aload_n 0, 1) := by decide +kernel
theorem dX8_slicesOf_6 : decode cX8_slicesOf 6 = .ok (.getfield 7, 3) := by decide +kernel
theorem dX8_slicesOf_9 : decode cX8_slicesOf 9 = .ok (.iconst 3, 1) := by decide +kernel
theorem dX8_slicesOf_10 : decode cX8_slicesOf 10 = .ok (.iaload, 1) := by decide +kernel
theorem dX8_slicesOf_11 : decode cX8_slicesOf 11 = .ok (.if_icmp .ge 27, 3) := by decide +kernel
theorem dX8_slicesOf_14 : decode cX8_slicesOf 14 = .ok (.iload_n 2, 1) := by decide +kernel
theorem dX8_slicesOf_15 : decode cX8_slicesOf 15 = .ok (.aload_n 0, 1) := by decide +kernel
theorem dX8_slicesOf_16 : decode cX8_slicesOf 16 = .ok (.iload_n 3, 1) := by decide +kernel
theorem dX8_slicesOf_17 : decode cX8_slicesOf 17 = .ok (.iconst 0, 1) := by decide +kernel
theorem dX8_slicesOf_18 : decode cX8_slicesOf 18 = .ok (.invokevirtual 108, 3) := by decide +kernel
theorem dX8_slicesOf_21 : decode cX8_slicesOf 21 = .ok (.iload_n 1, 1) := by decide +kernel
theorem dX8_slicesOf_22 : decode cX8_slicesOf 22 = .ok (.if_icmp .ne 7, 3) := by decide +kernel
theorem dX8_slicesOf_25 : decode cX8_slicesOf 25 = .ok (.iconst 1, 1) := by decide +kernel
theorem dX8_slicesOf_26 : decode cX8_slicesOf 26 = .ok (.goto 4, 3) := by decide +kernel
theorem dX8_slicesOf_29 : decode cX8_slicesOf 29 = .ok (.iconst 0, 1) := by decide +kernel
theorem dX8_slicesOf_30 : decode cX8_slicesOf 30 = .ok (.iadd, 1) := by decide +kernel
theorem dX8_slicesOf_31 : decode cX8_slicesOf 31 = .ok (.istore_n 2, 1) := by decide +kernel
theorem dX8_slicesOf_32 : decode cX8_slicesOf 32 = .ok (.iinc 3 1, 3) := by decide +kernel
theorem dX8_slicesOf_35 : decode cX8_slicesOf 35 = .ok (.goto (-31), 3) := by decide +kernel
theorem dX8_slicesOf_38 : decode cX8_slicesOf 38 = .ok (.iload_n 2, 1) := by decide +kernel
theorem dX8_slicesOf_39 : decode cX8_slicesOf 39 = .ok (.ireturn, 1) := by decide +kernel
theorem dX8_firstMissing_0 : decode cX8_firstMissing 0 = .ok (.iconst 0, 1) := by decide +kernel
theorem dX8_firstMissing_1 : decode cX8_firstMissing 1 = .ok (.istore_n 2, 1) := by decide +kernel
theorem dX8_firstMissing_2 : decode cX8_firstMissing 2 = .ok (.iload_n 2, 1) := by decide +kernel
theorem dX8_firstMissing_3 : decode cX8_firstMissing 3 = .ok (.sipush 4000, 3) := by decide +kernel
theorem dX8_firstMissing_6 : decode cX8_firstMissing 6 = .ok (.if_icmp .ge 24, 3) := by decide +kernel
theorem dX8_firstMissing_9 : decode cX8_firstMissing 9 = .ok (.aload_n 0, 1) := by decide +kernel
theorem dX8_firstMissing_10 : decode cX8_firstMissing 10 = .ok (.getfield 14, 3) := by decide +kernel
theorem dX8_firstMissing_13 : decode cX8_firstMissing 13 = .ok (.sipush 4000, 3) := by decide +kernel
theorem dX8_firstMissing_16 : decode cX8_firstMissing 16 = .ok (.iload_n 1, 1) := by decide +kernel
theorem dX8_firstMissing_17 : decode cX8_firstMissing 17 = .ok (.imul, 1) := by decide +kernel
theorem dX8_firstMissing_18 : decode cX8_firstMissing 18 = .ok (.iload_n 2, 1) := by decide +kernel
theorem dX8_firstMissing_19 : decode cX8_firstMissing 19 = .ok (.iadd, 1) := by decide +kernel
theorem dX8_firstMissing_20 : decode cX8_firstMissing 20 = .ok (.iaload, 1) := by decide +kernel
theorem dX8_firstMissing_21 : decode cX8_firstMissing 21 = .ok (.ifCond .lt 9, 3) := by decide +kernel
theorem dX8_firstMissing_24 : decode cX8_firstMissing 24 = .ok (.iinc 2 1, 3) := by decide +kernel
theorem dX8_firstMissing_27 : decode cX8_firstMissing 27 = .ok (.goto (-25), 3) := by decide +kernel
theorem dX8_firstMissing_30 : decode cX8_firstMissing 30 = .ok (.iload_n 2, 1) := by decide +kernel
theorem dX8_firstMissing_31 : decode cX8_firstMissing 31 = .ok (.ireturn, 1) := by decide +kernel
theorem dX8_ofParcel_0 : decode cX8_ofParcel 0 = .ok (.aload_n 0, 1) := by decide +kernel
theorem dX8_ofParcel_1 : decode cX8_ofParcel 1 = .ok (.iload_n 1, 1) := by decide +kernel
theorem dX8_ofParcel_2 : decode cX8_ofParcel 2 = .ok (.invokevirtual 131, 3) := by decide +kernel
theorem dX8_ofParcel_5 : decode cX8_ofParcel 5 = .ok (.ifCond .ne 5, 3) := by decide +kernel
theorem dX8_ofParcel_8 : decode cX8_ofParcel 8 = .ok (.iconst (-1), 1) := by decide +kernel
theorem dX8_ofParcel_9 : decode cX8_ofParcel 9 = .ok (.ireturn, 1) := by decide +kernel
theorem dX8_ofParcel_10 : decode cX8_ofParcel 10 = .ok (.iload_n 2, 1) := by decide +kernel
theorem dX8_ofParcel_11 : decode cX8_ofParcel 11 = .ok (.iconst 0, 1) := by decide +kernel
theorem dX8_ofParcel_12 : decode cX8_ofParcel 12 = .ok (.bipush 6, 2) := by decide +kernel
theorem dX8_ofParcel_14 : decode cX8_ofParcel 14 = .ok (.invokestatic 65, 3) := by decide +kernel
theorem dX8_ofParcel_17 : decode cX8_ofParcel 17 = .ok (.ifCond .eq 10, 3) := by decide +kernel
theorem dX8_ofParcel_20 : decode cX8_ofParcel 20 = .ok (.aload_n 0, 1) := by decide +kernel
theorem dX8_ofParcel_21 : decode cX8_ofParcel 21 = .ok (.iload_n 1, 1) := by decide +kernel
theorem dX8_ofParcel_22 : decode cX8_ofParcel 22 = .ok (.iload_n 2, 1) := by decide +kernel
theorem dX8_ofParcel_23 : decode cX8_ofParcel 23 = .ok (.invokevirtual 102, 3) := by decide +kernel
theorem dX8_ofParcel_26 : decode cX8_ofParcel 26 = .ok (.ireturn, 1) := by decide +kernel
theorem dX8_ofParcel_27 : decode cX8_ofParcel 27 = .ok (.iload_n 2, 1) := by decide +kernel
theorem dX8_ofParcel_28 : decode cX8_ofParcel 28 = .ok (.tableswitch 104 7 13 #[44, 50, 58, 66, 72, 80, 96], 44) := by decide +kernel
theorem dX8_ofParcel_72 : decode cX8_ofParcel 72 = .ok (.aload_n 0, 1) := by decide +kernel
theorem dX8_ofParcel_73 : decode cX8_ofParcel 73 = .ok (.iload_n 1, 1) := by decide +kernel
theorem dX8_ofParcel_74 : decode cX8_ofParcel 74 = .ok (.invokevirtual 202, 3) := by decide +kernel
theorem dX8_ofParcel_77 : decode cX8_ofParcel 77 = .ok (.ireturn, 1) := by decide +kernel
theorem dX8_ofParcel_78 : decode cX8_ofParcel 78 = .ok (.aload_n 0, 1) := by decide +kernel
theorem dX8_ofParcel_79 : decode cX8_ofParcel 79 = .ok (.iload_n 1, 1) := by decide +kernel
theorem dX8_ofParcel_80 : decode cX8_ofParcel 80 = .ok (.bipush 12, 2) := by decide +kernel
theorem dX8_ofParcel_82 : decode cX8_ofParcel 82 = .ok (.invokevirtual 102, 3) := by decide +kernel
theorem dX8_ofParcel_85 : decode cX8_ofParcel 85 = .ok (.ireturn, 1) := by decide +kernel
theorem dX8_ofParcel_86 : decode cX8_ofParcel 86 = .ok (.aload_n 0, 1) := by decide +kernel
theorem dX8_ofParcel_87 : decode cX8_ofParcel 87 = .ok (.iload_n 1, 1) := by decide +kernel
theorem dX8_ofParcel_88 : decode cX8_ofParcel 88 = .ok (.bipush 8, 2) := by decide +kernel
theorem dX8_ofParcel_90 : decode cX8_ofParcel 90 = .ok (.invokevirtual 102, 3) := by decide +kernel
theorem dX8_ofParcel_93 : decode cX8_ofParcel 93 = .ok (.ireturn, 1) := by decide +kernel
theorem dX8_ofParcel_94 : decode cX8_ofParcel 94 = .ok (.aload_n 0, 1) := by decide +kernel
theorem dX8_ofParcel_95 : decode cX8_ofParcel 95 = .ok (.iload_n 1, 1) := by decide +kernel
theorem dX8_ofParcel_96 : decode cX8_ofParcel 96 = .ok (.invokevirtual 205, 3) := by decide +kernel
theorem dX8_ofParcel_99 : decode cX8_ofParcel 99 = .ok (.ireturn, 1) := by decide +kernel
theorem dX8_ofParcel_100 : decode cX8_ofParcel 100 = .ok (.aload_n 0, 1) := by decide +kernel
theorem dX8_ofParcel_101 : decode cX8_ofParcel 101 = .ok (.iload_n 1, 1) := by decide +kernel
theorem dX8_ofParcel_102 : decode cX8_ofParcel 102 = .ok (.bipush 10, 2) := by decide +kernel
theorem dX8_ofParcel_104 : decode cX8_ofParcel 104 = .ok (.invokevirtual 102, 3) := by decide +kernel
theorem dX8_ofParcel_107 : decode cX8_ofParcel 107 = .ok (.ireturn, 1) := by decide +kernel
theorem dX8_ofParcel_108 : decode cX8_ofParcel 108 = .ok (.aload_n 0, 1) := by decide +kernel
theorem dX8_ofParcel_109 : decode cX8_ofParcel 109 = .ok (.iload_n 1, 1) := by decide +kernel
theorem dX8_ofParcel_110 : decode cX8_ofParcel 110 = .ok (.iconst 3, 1) := by decide +kernel
theorem dX8_ofParcel_111 : decode cX8_ofParcel 111 = .ok (.invokevirtual 102, 3) := by decide +kernel
theorem dX8_ofParcel_114 : decode cX8_ofParcel 114 = .ok (.aload_n 0, 1) := by decide +kernel
theorem dX8_ofParcel_115 : decode cX8_ofParcel 115 = .ok (.iload_n 1, 1) := by decide +kernel
theorem dX8_ofParcel_116 : decode cX8_ofParcel 116 = .ok (.iconst 2, 1) := by decide +kernel
theorem dX8_ofParcel_117 : decode cX8_ofParcel 117 = .ok (.invokevirtual 102, 3) := by decide +kernel
theorem dX8_ofParcel_120 : decode cX8_ofParcel 120 = .ok (.invokestatic 158, 3) := by decide +kernel
theorem dX8_ofParcel_123 : decode cX8_ofParcel 123 = .ok (.ireturn, 1) := by decide +kernel
theorem dX8_ofParcel_124 : decode cX8_ofParcel 124 = .ok (.aload_n 0, 1) := by decide +kernel
theorem dX8_ofParcel_125 : decode cX8_ofParcel 125 = .ok (.iload_n 1, 1) := by decide +kernel
theorem dX8_ofParcel_126 : decode cX8_ofParcel 126 = .ok (.bipush 11, 2) := by decide +kernel
theorem dX8_ofParcel_128 : decode cX8_ofParcel 128 = .ok (.invokevirtual 102, 3) := by decide +kernel
theorem dX8_ofParcel_131 : decode cX8_ofParcel 131 = .ok (.ireturn, 1) := by decide +kernel
theorem dX8_ofParcel_132 : decode cX8_ofParcel 132 = .ok (.bipush (-2), 2) := by decide +kernel
theorem dX8_ofParcel_134 : decode cX8_ofParcel 134 = .ok (.ireturn, 1) := by decide +kernel
theorem dX8_byteAt_0 : decode cX8_byteAt 0 = .ok (.aload_n 0, 1) := by decide +kernel
theorem dX8_byteAt_1 : decode cX8_byteAt 1 = .ok (.iload_n 1, 1) := by decide +kernel
theorem dX8_byteAt_2 : decode cX8_byteAt 2 = .ok (.invokevirtual 131, 3) := by decide +kernel
theorem dX8_byteAt_5 : decode cX8_byteAt 5 = .ok (.ifCond .ne 5, 3) := by decide +kernel
theorem dX8_byteAt_8 : decode cX8_byteAt 8 = .ok (.iconst (-1), 1) := by decide +kernel
theorem dX8_byteAt_9 : decode cX8_byteAt 9 = .ok (.ireturn, 1) := by decide +kernel
theorem dX8_byteAt_10 : decode cX8_byteAt 10 = .ok (.iload_n 2, 1) := by decide +kernel
theorem dX8_byteAt_11 : decode cX8_byteAt 11 = .ok (.iconst 0, 1) := by decide +kernel
theorem dX8_byteAt_12 : decode cX8_byteAt 12 = .ok (.sipush 3999, 3) := by decide +kernel
theorem dX8_byteAt_15 : decode cX8_byteAt 15 = .ok (.invokestatic 65, 3) := by decide +kernel
theorem dX8_byteAt_18 : decode cX8_byteAt 18 = .ok (.ifCond .ne 6, 3) := by decide +kernel
theorem dX8_byteAt_21 : decode cX8_byteAt 21 = .ok (.bipush (-2), 2) := by decide +kernel
theorem dX8_byteAt_23 : decode cX8_byteAt 23 = .ok (.ireturn, 1) := by decide +kernel
theorem dX8_byteAt_24 : decode cX8_byteAt 24 = .ok (.aload_n 0, 1) := by decide +kernel
theorem dX8_byteAt_25 : decode cX8_byteAt 25 = .ok (.getfield 14, 3) := by decide +kernel
theorem dX8_byteAt_28 : decode cX8_byteAt 28 = .ok (.sipush 4000, 3) := by decide +kernel
theorem dX8_byteAt_31 : decode cX8_byteAt 31 = .ok (.iload_n 1, 1) := by decide +kernel
theorem dX8_byteAt_32 : decode cX8_byteAt 32 = .ok (.imul, 1) := by decide +kernel
theorem dX8_byteAt_33 : decode cX8_byteAt 33 = .ok (.iload_n 2, 1) := by decide +kernel
theorem dX8_byteAt_34 : decode cX8_byteAt 34 = .ok (.iadd, 1) := by decide +kernel
theorem dX8_byteAt_35 : decode cX8_byteAt 35 = .ok (.iaload, 1) := by decide +kernel
theorem dX8_byteAt_36 : decode cX8_byteAt 36 = .ok (.istore_n 3, 1) := by decide +kernel
theorem dX8_byteAt_37 : decode cX8_byteAt 37 = .ok (.iload_n 3, 1) := by decide +kernel
theorem dX8_byteAt_38 : decode cX8_byteAt 38 = .ok (.ifCond .ge 8, 3) := by decide +kernel
theorem dX8_byteAt_41 : decode cX8_byteAt 41 = .ok (.bipush (-6), 2) := by decide +kernel
theorem dX8_byteAt_43 : decode cX8_byteAt 43 = .ok (.goto 8, 3) := by decide +kernel
theorem dX8_byteAt_46 : decode cX8_byteAt 46 = .ok (.iload_n 3, 1) := by decide +kernel
theorem dX8_byteAt_47 : decode cX8_byteAt 47 = .ok (.iload_n 2, 1) := by decide +kernel
theorem dX8_byteAt_48 : decode cX8_byteAt 48 = .ok (.invokestatic 141, 3) := by decide +kernel
theorem dX8_byteAt_51 : decode cX8_byteAt 51 = .ok (.ireturn, 1) := by decide +kernel
theorem dX8_nextArrival_0 : decode cX8_nextArrival 0 = .ok (.bipush (-6), 2) := by decide +kernel
theorem dX8_nextArrival_2 : decode cX8_nextArrival 2 = .ok (.istore_n 1, 1) := by decide +kernel
theorem dX8_nextArrival_3 : decode cX8_nextArrival 3 = .ok (.iconst 0, 1) := by decide +kernel
theorem dX8_nextArrival_4 : decode cX8_nextArrival 4 = .ok (.istore_n 2, 1) := by decide +kernel
theorem dX8_nextArrival_5 : decode cX8_nextArrival 5 = .ok (.iload_n 2, 1) := by decide +kernel
theorem dX8_nextArrival_6 : decode cX8_nextArrival 6 = .ok (.aload_n 0, 1) := by decide +kernel
theorem dX8_nextArrival_7 : decode cX8_nextArrival 7 = .ok (.getfield 7, 3) := by decide +kernel
theorem dX8_nextArrival_10 : decode cX8_nextArrival 10 = .ok (.iconst 3, 1) := by decide +kernel
theorem dX8_nextArrival_11 : decode cX8_nextArrival 11 = .ok (.iaload, 1) := by decide +kernel
theorem dX8_nextArrival_12 : decode cX8_nextArrival 12 = .ok (.if_icmp .ge 36, 3) := by decide +kernel
theorem dX8_nextArrival_15 : decode cX8_nextArrival 15 = .ok (.iload_n 1, 1) := by decide +kernel
theorem dX8_nextArrival_16 : decode cX8_nextArrival 16 = .ok (.ifCond .lt 14, 3) := by decide +kernel
theorem dX8_nextArrival_19 : decode cX8_nextArrival 19 = .ok (.aload_n 0, 1) := by decide +kernel
theorem dX8_nextArrival_20 : decode cX8_nextArrival 20 = .ok (.iload_n 2, 1) := by decide +kernel
theorem dX8_nextArrival_21 : decode cX8_nextArrival 21 = .ok (.bipush 6, 2) := by decide +kernel
theorem dX8_nextArrival_23 : decode cX8_nextArrival 23 = .ok (.invokevirtual 108, 3) := by decide +kernel
theorem dX8_nextArrival_26 : decode cX8_nextArrival 26 = .ok (.iload_n 1, 1) := by decide +kernel
theorem dX8_nextArrival_27 : decode cX8_nextArrival 27 = .ok (.if_icmp .ge 13, 3) := by decide +kernel
theorem dX8_nextArrival_30 : decode cX8_nextArrival 30 = .ok (.aload_n 0, 1) := by decide +kernel
theorem dX8_nextArrival_31 : decode cX8_nextArrival 31 = .ok (.iload_n 2, 1) := by decide +kernel
theorem dX8_nextArrival_32 : decode cX8_nextArrival 32 = .ok (.bipush 6, 2) := by decide +kernel
theorem dX8_nextArrival_34 : decode cX8_nextArrival 34 = .ok (.invokevirtual 108, 3) := by decide +kernel
theorem dX8_nextArrival_37 : decode cX8_nextArrival 37 = .ok (.goto 4, 3) := by decide +kernel
theorem dX8_nextArrival_40 : decode cX8_nextArrival 40 = .ok (.iload_n 1, 1) := by decide +kernel
theorem dX8_nextArrival_41 : decode cX8_nextArrival 41 = .ok (.istore_n 1, 1) := by decide +kernel
theorem dX8_nextArrival_42 : decode cX8_nextArrival 42 = .ok (.iinc 2 1, 3) := by decide +kernel
theorem dX8_nextArrival_45 : decode cX8_nextArrival 45 = .ok (.goto (-40), 3) := by decide +kernel
theorem dX8_nextArrival_48 : decode cX8_nextArrival 48 = .ok (.iload_n 1, 1) := by decide +kernel
theorem dX8_nextArrival_49 : decode cX8_nextArrival 49 = .ok (.ireturn, 1) := by decide +kernel
theorem dX8_parcelsIn_0 : decode cX8_parcelsIn 0 = .ok (.iconst 0, 1) := by decide +kernel
theorem dX8_parcelsIn_1 : decode cX8_parcelsIn 1 = .ok (.istore_n 2, 1) := by decide +kernel
theorem dX8_parcelsIn_2 : decode cX8_parcelsIn 2 = .ok (.iconst 0, 1) := by decide +kernel
theorem dX8_parcelsIn_3 : decode cX8_parcelsIn 3 = .ok (.istore_n 3, 1) := by decide +kernel
theorem dX8_parcelsIn_4 : decode cX8_parcelsIn 4 = .ok (.iload_n 3, 1) := by decide +kernel
theorem dX8_parcelsIn_5 : decode cX8_parcelsIn 5 = .ok (.aload_n 0, 1) := by decide +kernel
theorem dX8_parcelsIn_6 : decode cX8_parcelsIn 6 = .ok (.getfield 7, 3) := by decide +kernel
theorem dX8_parcelsIn_9 : decode cX8_parcelsIn 9 = .ok (.iconst 2, 1) := by decide +kernel
theorem dX8_parcelsIn_10 : decode cX8_parcelsIn 10 = .ok (.iaload, 1) := by decide +kernel
theorem dX8_parcelsIn_11 : decode cX8_parcelsIn 11 = .ok (.if_icmp .ge 27, 3) := by decide +kernel
theorem dX8_parcelsIn_14 : decode cX8_parcelsIn 14 = .ok (.iload_n 2, 1) := by decide +kernel
theorem dX8_parcelsIn_15 : decode cX8_parcelsIn 15 = .ok (.aload_n 0, 1) := by decide +kernel
theorem dX8_parcelsIn_16 : decode cX8_parcelsIn 16 = .ok (.iload_n 3, 1) := by decide +kernel
theorem dX8_parcelsIn_17 : decode cX8_parcelsIn 17 = .ok (.iconst 5, 1) := by decide +kernel
theorem dX8_parcelsIn_18 : decode cX8_parcelsIn 18 = .ok (.invokevirtual 102, 3) := by decide +kernel
theorem dX8_parcelsIn_21 : decode cX8_parcelsIn 21 = .ok (.iload_n 1, 1) := by decide +kernel
theorem dX8_parcelsIn_22 : decode cX8_parcelsIn 22 = .ok (.if_icmp .ne 7, 3) := by decide +kernel
theorem dX8_parcelsIn_25 : decode cX8_parcelsIn 25 = .ok (.iconst 1, 1) := by decide +kernel
theorem dX8_parcelsIn_26 : decode cX8_parcelsIn 26 = .ok (.goto 4, 3) := by decide +kernel
theorem dX8_parcelsIn_29 : decode cX8_parcelsIn 29 = .ok (.iconst 0, 1) := by decide +kernel
theorem dX8_parcelsIn_30 : decode cX8_parcelsIn 30 = .ok (.iadd, 1) := by decide +kernel
theorem dX8_parcelsIn_31 : decode cX8_parcelsIn 31 = .ok (.istore_n 2, 1) := by decide +kernel
theorem dX8_parcelsIn_32 : decode cX8_parcelsIn 32 = .ok (.iinc 3 1, 3) := by decide +kernel
theorem dX8_parcelsIn_35 : decode cX8_parcelsIn 35 = .ok (.goto (-31), 3) := by decide +kernel
theorem dX8_parcelsIn_38 : decode cX8_parcelsIn 38 = .ok (.iload_n 2, 1) := by decide +kernel
theorem dX8_parcelsIn_39 : decode cX8_parcelsIn 39 = .ok (.ireturn, 1) := by decide +kernel
theorem dX8_count_0 : decode cX8_count 0 = .ok (.iload_n 1, 1) := by decide +kernel
theorem dX8_count_1 : decode cX8_count 1 = .ok (.iconst 0, 1) := by decide +kernel
theorem dX8_count_2 : decode cX8_count 2 = .ok (.bipush 6, 2) := by decide +kernel
theorem dX8_count_4 : decode cX8_count 4 = .ok (.invokestatic 65, 3) := by decide +kernel
theorem dX8_count_7 : decode cX8_count 7 = .ok (.ifCond .eq 10, 3) := by decide +kernel
theorem dX8_count_10 : decode cX8_count 10 = .ok (.aload_n 0, 1) := by decide +kernel
theorem dX8_count_11 : decode cX8_count 11 = .ok (.getfield 7, 3) := by decide +kernel
theorem dX8_count_14 : decode cX8_count 14 = .ok (.iload_n 1, 1) := by decide +kernel
theorem dX8_count_15 : decode cX8_count 15 = .ok (.iaload, 1) := by decide +kernel
theorem dX8_count_16 : decode cX8_count 16 = .ok (.ireturn, 1) := by decide +kernel
theorem dX8_count_17 : decode cX8_count 17 = .ok (.iload_n 1, 1) := by decide +kernel
theorem dX8_count_18 : decode cX8_count 18 = .ok (.bipush 11, 2) := by decide +kernel
theorem dX8_count_20 : decode cX8_count 20 = .ok (.bipush 17, 2) := by decide +kernel
theorem dX8_count_22 : decode cX8_count 22 = .ok (.invokestatic 65, 3) := by decide +kernel
theorem dX8_count_25 : decode cX8_count 25 = .ok (.ifCond .eq 16, 3) := by decide +kernel
theorem dX8_count_28 : decode cX8_count 28 = .ok (.aload_n 0, 1) := by decide +kernel
theorem dX8_count_29 : decode cX8_count 29 = .ok (.getfield 7, 3) := by decide +kernel
theorem dX8_count_32 : decode cX8_count 32 = .ok (.bipush 6, 2) := by decide +kernel
theorem dX8_count_34 : decode cX8_count 34 = .ok (.iload_n 1, 1) := by decide +kernel
theorem dX8_count_35 : decode cX8_count 35 = .ok (.iadd, 1) := by decide +kernel
theorem dX8_count_36 : decode cX8_count 36 = .ok (.bipush 10, 2) := by decide +kernel
theorem dX8_count_38 : decode cX8_count 38 = .ok (.isub, 1) := by decide +kernel
theorem dX8_count_39 : decode cX8_count 39 = .ok (.iaload, 1) := by decide +kernel
theorem dX8_count_40 : decode cX8_count 40 = .ok (.ireturn, 1) := by decide +kernel
theorem dX8_count_41 : decode cX8_count 41 = .ok (.iload_n 1, 1) := by decide +kernel
theorem dX8_count_42 : decode cX8_count 42 = .ok (.bipush 20, 2) := by decide +kernel
theorem dX8_count_44 : decode cX8_count 44 = .ok (.bipush 25, 2) := by decide +kernel
theorem dX8_count_46 : decode cX8_count 46 = .ok (.invokestatic 65, 3) := by decide +kernel
theorem dX8_count_49 : decode cX8_count 49 = .ok (.ifCond .eq 12, 3) := by decide +kernel
theorem dX8_count_52 : decode cX8_count 52 = .ok (.aload_n 0, 1) := by decide +kernel
theorem dX8_count_53 : decode cX8_count 53 = .ok (.iload_n 1, 1) := by decide +kernel
theorem dX8_count_54 : decode cX8_count 54 = .ok (.bipush 20, 2) := by decide +kernel
theorem dX8_count_56 : decode cX8_count 56 = .ok (.isub, 1) := by decide +kernel
theorem dX8_count_57 : decode cX8_count 57 = .ok (.invokevirtual 208, 3) := by decide +kernel
theorem dX8_count_60 : decode cX8_count 60 = .ok (.ireturn, 1) := by decide +kernel
theorem dX8_count_61 : decode cX8_count 61 = .ok (.iload_n 1, 1) := by decide +kernel
theorem dX8_count_62 : decode cX8_count 62 = .ok (.tableswitch 41 7 9 #[26, 31, 36], 26) := by decide +kernel
theorem dX8_count_88 : decode cX8_count 88 = .ok (.aload_n 0, 1) := by decide +kernel
theorem dX8_count_89 : decode cX8_count 89 = .ok (.getfield 211, 3) := by decide +kernel
theorem dX8_count_92 : decode cX8_count 92 = .ok (.ireturn, 1) := by decide +kernel
theorem dX8_count_93 : decode cX8_count 93 = .ok (.aload_n 0, 1) := by decide +kernel
theorem dX8_count_94 : decode cX8_count 94 = .ok (.getfield 73, 3) := by decide +kernel
theorem dX8_count_97 : decode cX8_count 97 = .ok (.ireturn, 1) := by decide +kernel
theorem dX8_count_98 : decode cX8_count 98 = .ok (.aload_n 0, 1) := by decide +kernel
theorem dX8_count_99 : decode cX8_count 99 = .ok (.invokevirtual 214, 3) := by decide +kernel
theorem dX8_count_102 : decode cX8_count 102 = .ok (.ireturn, 1) := by decide +kernel
theorem dX8_count_103 : decode cX8_count 103 = .ok (.bipush (-2), 2) := by decide +kernel
theorem dX8_count_105 : decode cX8_count 105 = .ok (.ireturn, 1) := by decide +kernel
theorem dX8_findRoute_0 : decode cX8_findRoute 0 = .ok (.aload_n 0, 1) := by decide +kernel
theorem dX8_findRoute_1 : decode cX8_findRoute 1 = .ok (.iconst 0, 1) := by decide +kernel
theorem dX8_findRoute_2 : decode cX8_findRoute 2 = .ok (.putfield 217, 3) := by decide +kernel
theorem dX8_findRoute_5 : decode cX8_findRoute 5 = .ok (.iload_n 1, 1) := by decide +kernel
theorem dX8_findRoute_6 : decode cX8_findRoute 6 = .ok (.istore_n 3, 1) := by decide +kernel
theorem dX8_findRoute_7 : decode cX8_findRoute 7 = .ok (.iload_n 3, 1) := by decide +kernel
theorem dX8_findRoute_8 : decode cX8_findRoute 8 = .ok (.iload_n 2, 1) := by decide +kernel
theorem dX8_findRoute_9 : decode cX8_findRoute 9 = .ok (.if_icmp .eq 61, 3) := by decide +kernel
theorem dX8_findRoute_12 : decode cX8_findRoute 12 = .ok (.aload_n 0, 1) := by decide +kernel
theorem dX8_findRoute_13 : decode cX8_findRoute 13 = .ok (.getfield 217, 3) := by decide +kernel
theorem dX8_findRoute_16 : decode cX8_findRoute 16 = .ok (.bipush 8, 2) := by decide +kernel
theorem dX8_findRoute_18 : decode cX8_findRoute 18 = .ok (.if_icmp .ge 52, 3) := by decide +kernel
theorem dX8_findRoute_21 : decode cX8_findRoute 21 = .ok (.aload_n 0, 1) := by decide +kernel
theorem dX8_findRoute_22 : decode cX8_findRoute 22 = .ok (.iload_n 3, 1) := by decide +kernel
theorem dX8_findRoute_23 : decode cX8_findRoute 23 = .ok (.iconst 3, 1) := by decide +kernel
theorem dX8_findRoute_24 : decode cX8_findRoute 24 = .ok (.iload_n 2, 1) := by decide +kernel
theorem dX8_findRoute_25 : decode cX8_findRoute 25 = .ok (.iadd, 1) := by decide +kernel
theorem dX8_findRoute_26 : decode cX8_findRoute 26 = .ok (.invokevirtual 152, 3) := by decide +kernel
theorem dX8_findRoute_29 : decode cX8_findRoute 29 = .ok (.istore 4, 2) := by decide +kernel
theorem dX8_findRoute_31 : decode cX8_findRoute 31 = .ok (.iload 4, 2) := by decide +kernel
theorem dX8_findRoute_33 : decode cX8_findRoute 33 = .ok (.ifCond .ge 5, 3) := by decide +kernel
theorem dX8_findRoute_36 : decode cX8_findRoute 36 = .ok (.iconst 0, 1) := by decide +kernel
theorem dX8_findRoute_37 : decode cX8_findRoute 37 = .ok (.ireturn, 1) := by decide +kernel
theorem dX8_findRoute_38 : decode cX8_findRoute 38 = .ok (.aload_n 0, 1) := by decide +kernel
theorem dX8_findRoute_39 : decode cX8_findRoute 39 = .ok (.getfield 44, 3) := by decide +kernel
theorem dX8_findRoute_42 : decode cX8_findRoute 42 = .ok (.aload_n 0, 1) := by decide +kernel
theorem dX8_findRoute_43 : decode cX8_findRoute 43 = .ok (.getfield 217, 3) := by decide +kernel
theorem dX8_findRoute_46 : decode cX8_findRoute 46 = .ok (.iload 4, 2) := by decide +kernel
theorem dX8_findRoute_48 : decode cX8_findRoute 48 = .ok (.iastore, 1) := by decide +kernel
theorem dX8_findRoute_49 : decode cX8_findRoute 49 = .ok (.aload_n 0, 1) := by decide +kernel
theorem dX8_findRoute_50 : decode cX8_findRoute 50 = .ok (.dup, 1) := by decide +kernel
theorem dX8_findRoute_51 : decode cX8_findRoute 51 = .ok (.getfield 217, 3) := by decide +kernel
theorem dX8_findRoute_54 : decode cX8_findRoute 54 = .ok (.iconst 1, 1) := by decide +kernel
theorem dX8_findRoute_55 : decode cX8_findRoute 55 = .ok (.iadd, 1) := by decide +kernel
theorem dX8_findRoute_56 : decode cX8_findRoute 56 = .ok (.putfield 217, 3) := by decide +kernel
theorem dX8_findRoute_59 : decode cX8_findRoute 59 = .ok (.aload_n 0, 1) := by decide +kernel
theorem dX8_findRoute_60 : decode cX8_findRoute 60 = .ok (.iload 4, 2) := by decide +kernel
theorem dX8_findRoute_62 : decode cX8_findRoute 62 = .ok (.iconst 1, 1) := by decide +kernel
theorem dX8_findRoute_63 : decode cX8_findRoute 63 = .ok (.invokevirtual 94, 3) := by decide +kernel
theorem dX8_findRoute_66 : decode cX8_findRoute 66 = .ok (.istore_n 3, 1) := by decide +kernel
theorem dX8_findRoute_67 : decode cX8_findRoute 67 = .ok (.goto (-60), 3) := by decide +kernel
theorem dX8_findRoute_70 : decode cX8_findRoute 70 = .ok (.iload_n 3, 1) := by decide +kernel
theorem dX8_findRoute_71 : decode cX8_findRoute 71 = .ok (.iload_n 2, 1) := by decide +kernel
theorem dX8_findRoute_72 : decode cX8_findRoute 72 = .ok (.if_icmp .ne 7, 3) := by decide +kernel
theorem dX8_findRoute_75 : decode cX8_findRoute 75 = .ok (.iconst 1, 1) := by decide +kernel
theorem dX8_findRoute_76 : decode cX8_findRoute 76 = .ok (.goto 4, 3) := by decide +kernel
theorem dX8_findRoute_79 : decode cX8_findRoute 79 = .ok (.iconst 0, 1) := by decide +kernel
theorem dX8_findRoute_80 : decode cX8_findRoute 80 = .ok (.ireturn, 1) := by decide +kernel
theorem dX8_leastRoom_0 : decode cX8_leastRoom 0 = .ok (.iload_n 1, 1) := by decide +kernel
theorem dX8_leastRoom_1 : decode cX8_leastRoom 1 = .ok (.iload_n 2, 1) := by decide +kernel
theorem dX8_leastRoom_2 : decode cX8_leastRoom 2 = .ok (.invokestatic 87, 3) := by decide +kernel
theorem dX8_leastRoom_5 : decode cX8_leastRoom 5 = .ok (.ifCond .ne 5, 3) := by decide +kernel
theorem dX8_leastRoom_8 : decode cX8_leastRoom 8 = .ok (.iconst (-1), 1) := by decide +kernel
theorem dX8_leastRoom_9 : decode cX8_leastRoom 9 = .ok (.ireturn, 1) := by decide +kernel
theorem dX8_leastRoom_10 : decode cX8_leastRoom 10 = .ok (.aload_n 0, 1) := by decide +kernel
theorem dX8_leastRoom_11 : decode cX8_leastRoom 11 = .ok (.iload_n 1, 1) := by decide +kernel
theorem dX8_leastRoom_12 : decode cX8_leastRoom 12 = .ok (.iload_n 2, 1) := by decide +kernel
theorem dX8_leastRoom_13 : decode cX8_leastRoom 13 = .ok (.invokevirtual 220, 3) := by decide +kernel
theorem dX8_leastRoom_16 : decode cX8_leastRoom 16 = .ok (.ifCond .ne 6, 3) := by decide +kernel
theorem dX8_leastRoom_19 : decode cX8_leastRoom 19 = .ok (.bipush (-6), 2) := by decide +kernel
theorem dX8_leastRoom_21 : decode cX8_leastRoom 21 = .ok (.ireturn, 1) := by decide +kernel
theorem dX8_leastRoom_22 : decode cX8_leastRoom 22 = .ok (.aload_n 0, 1) := by decide +kernel
theorem dX8_leastRoom_23 : decode cX8_leastRoom 23 = .ok (.aload_n 0, 1) := by decide +kernel
theorem dX8_leastRoom_24 : decode cX8_leastRoom 24 = .ok (.getfield 44, 3) := by decide +kernel
theorem dX8_leastRoom_27 : decode cX8_leastRoom 27 = .ok (.iconst 0, 1) := by decide +kernel
theorem dX8_leastRoom_28 : decode cX8_leastRoom 28 = .ok (.iaload, 1) := by decide +kernel
theorem dX8_leastRoom_29 : decode cX8_leastRoom 29 = .ok (.iconst 2, 1) := by decide +kernel
theorem dX8_leastRoom_30 : decode cX8_leastRoom 30 = .ok (.invokevirtual 94, 3) := by decide +kernel
theorem dX8_leastRoom_33 : decode cX8_leastRoom 33 = .ok (.istore_n 3, 1) := by decide +kernel
theorem dX8_leastRoom_34 : decode cX8_leastRoom 34 = .ok (.iconst 1, 1) := by decide +kernel
theorem dX8_leastRoom_35 : decode cX8_leastRoom 35 = .ok (.istore 4, 2) := by decide +kernel
theorem dX8_leastRoom_37 : decode cX8_leastRoom 37 = .ok (.iload 4, 2) := by decide +kernel
theorem dX8_leastRoom_39 : decode cX8_leastRoom 39 = .ok (.aload_n 0, 1) := by decide +kernel
theorem dX8_leastRoom_40 : decode cX8_leastRoom 40 = .ok (.getfield 217, 3) := by decide +kernel
theorem dX8_leastRoom_43 : decode cX8_leastRoom 43 = .ok (.if_icmp .ge 42, 3) := by decide +kernel
theorem dX8_leastRoom_46 : decode cX8_leastRoom 46 = .ok (.aload_n 0, 1) := by decide +kernel
theorem dX8_leastRoom_47 : decode cX8_leastRoom 47 = .ok (.aload_n 0, 1) := by decide +kernel
theorem dX8_leastRoom_48 : decode cX8_leastRoom 48 = .ok (.getfield 44, 3) := by decide +kernel
theorem dX8_leastRoom_51 : decode cX8_leastRoom 51 = .ok (.iload 4, 2) := by decide +kernel
theorem dX8_leastRoom_53 : decode cX8_leastRoom 53 = .ok (.iaload, 1) := by decide +kernel
theorem dX8_leastRoom_54 : decode cX8_leastRoom 54 = .ok (.iconst 2, 1) := by decide +kernel
theorem dX8_leastRoom_55 : decode cX8_leastRoom 55 = .ok (.invokevirtual 94, 3) := by decide +kernel
theorem dX8_leastRoom_58 : decode cX8_leastRoom 58 = .ok (.iload_n 3, 1) := by decide +kernel
theorem dX8_leastRoom_59 : decode cX8_leastRoom 59 = .ok (.if_icmp .ge 18, 3) := by decide +kernel
theorem dX8_leastRoom_62 : decode cX8_leastRoom 62 = .ok (.aload_n 0, 1) := by decide +kernel
theorem dX8_leastRoom_63 : decode cX8_leastRoom 63 = .ok (.aload_n 0, 1) := by decide +kernel
theorem dX8_leastRoom_64 : decode cX8_leastRoom 64 = .ok (.getfield 44, 3) := by decide +kernel
theorem dX8_leastRoom_67 : decode cX8_leastRoom 67 = .ok (.iload 4, 2) := by decide +kernel
theorem dX8_leastRoom_69 : decode cX8_leastRoom 69 = .ok (.iaload, 1) := by decide +kernel
theorem dX8_leastRoom_70 : decode cX8_leastRoom 70 = .ok (.iconst 2, 1) := by decide +kernel
theorem dX8_leastRoom_71 : decode cX8_leastRoom 71 = .ok (.invokevirtual 94, 3) := by decide +kernel
theorem dX8_leastRoom_74 : decode cX8_leastRoom 74 = .ok (.goto 4, 3) := by decide +kernel
theorem dX8_leastRoom_77 : decode cX8_leastRoom 77 = .ok (.iload_n 3, 1) := by decide +kernel
theorem dX8_leastRoom_78 : decode cX8_leastRoom 78 = .ok (.istore_n 3, 1) := by decide +kernel
theorem dX8_leastRoom_79 : decode cX8_leastRoom 79 = .ok (.iinc 4 1, 3) := by decide +kernel
theorem dX8_leastRoom_82 : decode cX8_leastRoom 82 = .ok (.goto (-45), 3) := by decide +kernel
theorem dX8_leastRoom_85 : decode cX8_leastRoom 85 = .ok (.iload_n 3, 1) := by decide +kernel
theorem dX8_leastRoom_86 : decode cX8_leastRoom 86 = .ok (.ireturn, 1) := by decide +kernel
theorem dX8_goOver_0 : decode cX8_goOver 0 = .ok (.aload_n 0, 1) := by decide +kernel
theorem dX8_goOver_1 : decode cX8_goOver 1 = .ok (.iload_n 1, 1) := by decide +kernel
theorem dX8_goOver_2 : decode cX8_goOver 2 = .ok (.iconst 2, 1) := by decide +kernel
theorem dX8_goOver_3 : decode cX8_goOver 3 = .ok (.invokevirtual 94, 3) := by decide +kernel
theorem dX8_goOver_6 : decode cX8_goOver 6 = .ok (.bipush 8, 2) := by decide +kernel
theorem dX8_goOver_8 : decode cX8_goOver 8 = .ok (.isub, 1) := by decide +kernel
theorem dX8_goOver_9 : decode cX8_goOver 9 = .ok (.bipush 8, 2) := by decide +kernel
theorem dX8_goOver_11 : decode cX8_goOver 11 = .ok (.idiv, 1) := by decide +kernel
theorem dX8_goOver_12 : decode cX8_goOver 12 = .ok (.bipush 8, 2) := by decide +kernel
theorem dX8_goOver_14 : decode cX8_goOver 14 = .ok (.imul, 1) := by decide +kernel
theorem dX8_goOver_15 : decode cX8_goOver 15 = .ok (.istore_n 2, 1) := by decide +kernel
theorem dX8_goOver_16 : decode cX8_goOver 16 = .ok (.iconst 0, 1) := by decide +kernel
theorem dX8_goOver_17 : decode cX8_goOver 17 = .ok (.istore_n 3, 1) := by decide +kernel
theorem dX8_goOver_18 : decode cX8_goOver 18 = .ok (.iconst 0, 1) := by decide +kernel
theorem dX8_goOver_19 : decode cX8_goOver 19 = .ok (.istore 4, 2) := by decide +kernel
theorem dX8_goOver_21 : decode cX8_goOver 21 = .ok (.iload 4, 2) := by decide +kernel
theorem dX8_goOver_23 : decode cX8_goOver 23 = .ok (.aload_n 0, 1) := by decide +kernel
theorem dX8_goOver_24 : decode cX8_goOver 24 = .ok (.getfield 223, 3) := by decide +kernel
theorem dX8_goOver_27 : decode cX8_goOver 27 = .ok (.if_icmp .ge 115, 3) := by decide +kernel
theorem dX8_goOver_30 : decode cX8_goOver 30 = .ok (.aload_n 0, 1) := by decide +kernel
theorem dX8_goOver_31 : decode cX8_goOver 31 = .ok (.getfield 47, 3) := by decide +kernel
theorem dX8_goOver_34 : decode cX8_goOver 34 = .ok (.iload 4, 2) := by decide +kernel
theorem dX8_goOver_36 : decode cX8_goOver 36 = .ok (.iaload, 1) := by decide +kernel
theorem dX8_goOver_37 : decode cX8_goOver 37 = .ok (.istore 5, 2) := by decide +kernel
theorem dX8_goOver_39 : decode cX8_goOver 39 = .ok (.iload 5, 2) := by decide +kernel
theorem dX8_goOver_41 : decode cX8_goOver 41 = .ok (.bipush 8, 2) := by decide +kernel
theorem dX8_goOver_43 : decode cX8_goOver 43 = .ok (.iadd, 1) := by decide +kernel
theorem dX8_goOver_44 : decode cX8_goOver 44 = .ok (.aload_n 0, 1) := by decide +kernel
theorem dX8_goOver_45 : decode cX8_goOver 45 = .ok (.iload_n 1, 1) := by decide +kernel
theorem dX8_goOver_46 : decode cX8_goOver 46 = .ok (.iconst 2, 1) := by decide +kernel
theorem dX8_goOver_47 : decode cX8_goOver 47 = .ok (.invokevirtual 94, 3) := by decide +kernel
theorem dX8_goOver_50 : decode cX8_goOver 50 = .ok (.if_icmp .le 7, 3) := by decide +kernel
theorem dX8_goOver_53 : decode cX8_goOver 53 = .ok (.iload_n 2, 1) := by decide +kernel
theorem dX8_goOver_54 : decode cX8_goOver 54 = .ok (.goto 5, 3) := by decide +kernel
theorem dX8_goOver_57 : decode cX8_goOver 57 = .ok (.iload 5, 2) := by decide +kernel
theorem dX8_goOver_59 : decode cX8_goOver 59 = .ok (.istore 6, 2) := by decide +kernel
theorem dX8_goOver_61 : decode cX8_goOver 61 = .ok (.iload 5, 2) := by decide +kernel
theorem dX8_goOver_63 : decode cX8_goOver 63 = .ok (.ifCond .le 73, 3) := by decide +kernel
theorem dX8_goOver_66 : decode cX8_goOver 66 = .ok (.iload 5, 2) := by decide +kernel
theorem dX8_goOver_68 : decode cX8_goOver 68 = .ok (.iload 6, 2) := by decide +kernel
theorem dX8_goOver_70 : decode cX8_goOver 70 = .ok (.if_icmp .ge 8, 3) := by decide +kernel
theorem dX8_goOver_73 : decode cX8_goOver 73 = .ok (.iload 5, 2) := by decide +kernel
theorem dX8_goOver_75 : decode cX8_goOver 75 = .ok (.goto 5, 3) := by decide +kernel
theorem dX8_goOver_78 : decode cX8_goOver 78 = .ok (.iload 6, 2) := by decide +kernel
theorem dX8_goOver_80 : decode cX8_goOver 80 = .ok (.istore 7, 2) := by decide +kernel
theorem dX8_goOver_82 : decode cX8_goOver 82 = .ok (.aload_n 0, 1) := by decide +kernel
theorem dX8_goOver_83 : decode cX8_goOver 83 = .ok (.getfield 53, 3) := by decide +kernel
theorem dX8_goOver_86 : decode cX8_goOver 86 = .ok (.iload_n 3, 1) := by decide +kernel
theorem dX8_goOver_87 : decode cX8_goOver 87 = .ok (.iload 7, 2) := by decide +kernel
theorem dX8_goOver_89 : decode cX8_goOver 89 = .ok (.iastore, 1) := by decide +kernel
theorem dX8_goOver_90 : decode cX8_goOver 90 = .ok (.aload_n 0, 1) := by decide +kernel
theorem dX8_goOver_91 : decode cX8_goOver 91 = .ok (.getfield 56, 3) := by decide +kernel
theorem dX8_goOver_94 : decode cX8_goOver 94 = .ok (.iload_n 3, 1) := by decide +kernel
theorem dX8_goOver_95 : decode cX8_goOver 95 = .ok (.aload_n 0, 1) := by decide +kernel
theorem dX8_goOver_96 : decode cX8_goOver 96 = .ok (.getfield 50, 3) := by decide +kernel
theorem dX8_goOver_99 : decode cX8_goOver 99 = .ok (.iload 4, 2) := by decide +kernel
theorem dX8_goOver_101 : decode cX8_goOver 101 = .ok (.iaload, 1) := by decide +kernel
theorem dX8_goOver_102 : decode cX8_goOver 102 = .ok (.aload_n 0, 1) := by decide +kernel
theorem dX8_goOver_103 : decode cX8_goOver 103 = .ok (.iload_n 1, 1) := by decide +kernel
theorem dX8_goOver_104 : decode cX8_goOver 104 = .ok (.iconst 3, 1) := by decide +kernel
theorem dX8_goOver_105 : decode cX8_goOver 105 = .ok (.invokevirtual 94, 3) := by decide +kernel
theorem dX8_goOver_108 : decode cX8_goOver 108 = .ok (.iadd, 1) := by decide +kernel
theorem dX8_goOver_109 : decode cX8_goOver 109 = .ok (.iload 7, 2) := by decide +kernel
theorem dX8_goOver_111 : decode cX8_goOver 111 = .ok (.bipush 8, 2) := by decide +kernel
theorem dX8_goOver_113 : decode cX8_goOver 113 = .ok (.iadd, 1) := by decide +kernel
theorem dX8_goOver_114 : decode cX8_goOver 114 = .ok (.aload_n 0, 1) := by decide +kernel
theorem dX8_goOver_115 : decode cX8_goOver 115 = .ok (.iload_n 1, 1) := by decide +kernel
theorem dX8_goOver_116 : decode cX8_goOver 116 = .ok (.iconst 4, 1) := by decide +kernel
theorem dX8_goOver_117 : decode cX8_goOver 117 = .ok (.invokevirtual 94, 3) := by decide +kernel
theorem dX8_goOver_120 : decode cX8_goOver 120 = .ok (.idiv, 1) := by decide +kernel
theorem dX8_goOver_121 : decode cX8_goOver 121 = .ok (.iadd, 1) := by decide +kernel
theorem dX8_goOver_122 : decode cX8_goOver 122 = .ok (.iastore, 1) := by decide +kernel
theorem dX8_goOver_123 : decode cX8_goOver 123 = .ok (.iinc 3 1, 3) := by decide +kernel
theorem dX8_goOver_126 : decode cX8_goOver 126 = .ok (.iload 5, 2) := by decide +kernel
theorem dX8_goOver_128 : decode cX8_goOver 128 = .ok (.iload 7, 2) := by decide +kernel
theorem dX8_goOver_130 : decode cX8_goOver 130 = .ok (.isub, 1) := by decide +kernel
theorem dX8_goOver_131 : decode cX8_goOver 131 = .ok (.istore 5, 2) := by decide +kernel
theorem dX8_goOver_133 : decode cX8_goOver 133 = .ok (.goto (-72), 3) := by decide +kernel
theorem dX8_goOver_136 : decode cX8_goOver 136 = .ok (.iinc 4 1, 3) := by decide +kernel
theorem dX8_goOver_139 : decode cX8_goOver 139 = .ok (.goto (-118), 3) := by decide +kernel
theorem dX8_goOver_142 : decode cX8_goOver 142 = .ok (.aload_n 0, 1) := by decide +kernel
theorem dX8_goOver_143 : decode cX8_goOver 143 = .ok (.iload_n 3, 1) := by decide +kernel
theorem dX8_goOver_144 : decode cX8_goOver 144 = .ok (.putfield 223, 3) := by decide +kernel
theorem dX8_goOver_147 : decode cX8_goOver 147 = .ok (.iconst 0, 1) := by decide +kernel
theorem dX8_goOver_148 : decode cX8_goOver 148 = .ok (.istore 4, 2) := by decide +kernel
theorem dX8_goOver_150 : decode cX8_goOver 150 = .ok (.iload 4, 2) := by decide +kernel
theorem dX8_goOver_152 : decode cX8_goOver 152 = .ok (.aload_n 0, 1) := by decide +kernel
theorem dX8_goOver_153 : decode cX8_goOver 153 = .ok (.getfield 223, 3) := by decide +kernel
theorem dX8_goOver_156 : decode cX8_goOver 156 = .ok (.if_icmp .ge 37, 3) := by decide +kernel
theorem dX8_goOver_159 : decode cX8_goOver 159 = .ok (.aload_n 0, 1) := by decide +kernel
theorem dX8_goOver_160 : decode cX8_goOver 160 = .ok (.getfield 47, 3) := by decide +kernel
theorem dX8_goOver_163 : decode cX8_goOver 163 = .ok (.iload 4, 2) := by decide +kernel
theorem dX8_goOver_165 : decode cX8_goOver 165 = .ok (.aload_n 0, 1) := by decide +kernel
theorem dX8_goOver_166 : decode cX8_goOver 166 = .ok (.getfield 53, 3) := by decide +kernel
theorem dX8_goOver_169 : decode cX8_goOver 169 = .ok (.iload 4, 2) := by decide +kernel
theorem dX8_goOver_171 : decode cX8_goOver 171 = .ok (.iaload, 1) := by decide +kernel
theorem dX8_goOver_172 : decode cX8_goOver 172 = .ok (.iastore, 1) := by decide +kernel
theorem dX8_goOver_173 : decode cX8_goOver 173 = .ok (.aload_n 0, 1) := by decide +kernel
theorem dX8_goOver_174 : decode cX8_goOver 174 = .ok (.getfield 50, 3) := by decide +kernel
theorem dX8_goOver_177 : decode cX8_goOver 177 = .ok (.iload 4, 2) := by decide +kernel
theorem dX8_goOver_179 : decode cX8_goOver 179 = .ok (.aload_n 0, 1) := by decide +kernel
theorem dX8_goOver_180 : decode cX8_goOver 180 = .ok (.getfield 56, 3) := by decide +kernel
theorem dX8_goOver_183 : decode cX8_goOver 183 = .ok (.iload 4, 2) := by decide +kernel
theorem dX8_goOver_185 : decode cX8_goOver 185 = .ok (.iaload, 1) := by decide +kernel
theorem dX8_goOver_186 : decode cX8_goOver 186 = .ok (.iastore, 1) := by decide +kernel
theorem dX8_goOver_187 : decode cX8_goOver 187 = .ok (.iinc 4 1, 3) := by decide +kernel
theorem dX8_goOver_190 : decode cX8_goOver 190 = .ok (.goto (-40), 3) := by decide +kernel
theorem dX8_goOver_193 : decode cX8_goOver 193 = .ok (.return_, 1) := by decide +kernel
theorem dX8_goAll_0 : decode cX8_goAll 0 = .ok (.aload_n 0, 1) := by decide +kernel
theorem dX8_goAll_1 : decode cX8_goAll 1 = .ok (.iload_n 1, 1) := by decide +kernel
theorem dX8_goAll_2 : decode cX8_goAll 2 = .ok (.iload_n 2, 1) := by decide +kernel
theorem dX8_goAll_3 : decode cX8_goAll 3 = .ok (.invokevirtual 220, 3) := by decide +kernel
theorem dX8_goAll_6 : decode cX8_goAll 6 = .ok (.ifCond .ne 5, 3) := by decide +kernel
theorem dX8_goAll_9 : decode cX8_goAll 9 = .ok (.iconst 0, 1) := by decide +kernel
theorem dX8_goAll_10 : decode cX8_goAll 10 = .ok (.ireturn, 1) := by decide +kernel
theorem dX8_goAll_11 : decode cX8_goAll 11 = .ok (.aload_n 0, 1) := by decide +kernel
theorem dX8_goAll_12 : decode cX8_goAll 12 = .ok (.iconst 1, 1) := by decide +kernel
theorem dX8_goAll_13 : decode cX8_goAll 13 = .ok (.putfield 223, 3) := by decide +kernel
theorem dX8_goAll_16 : decode cX8_goAll 16 = .ok (.aload_n 0, 1) := by decide +kernel
theorem dX8_goAll_17 : decode cX8_goAll 17 = .ok (.getfield 47, 3) := by decide +kernel
theorem dX8_goAll_20 : decode cX8_goAll 20 = .ok (.iconst 0, 1) := by decide +kernel
theorem dX8_goAll_21 : decode cX8_goAll 21 = .ok (.iload_n 3, 1) := by decide +kernel
theorem dX8_goAll_22 : decode cX8_goAll 22 = .ok (.iastore, 1) := by decide +kernel
theorem dX8_goAll_23 : decode cX8_goAll 23 = .ok (.aload_n 0, 1) := by decide +kernel
theorem dX8_goAll_24 : decode cX8_goAll 24 = .ok (.getfield 50, 3) := by decide +kernel
theorem dX8_goAll_27 : decode cX8_goAll 27 = .ok (.iconst 0, 1) := by decide +kernel
theorem dX8_goAll_28 : decode cX8_goAll 28 = .ok (.iconst 0, 1) := by decide +kernel
theorem dX8_goAll_29 : decode cX8_goAll 29 = .ok (.iastore, 1) := by decide +kernel
theorem dX8_goAll_30 : decode cX8_goAll 30 = .ok (.iconst 0, 1) := by decide +kernel
theorem dX8_goAll_31 : decode cX8_goAll 31 = .ok (.istore 4, 2) := by decide +kernel
theorem dX8_goAll_33 : decode cX8_goAll 33 = .ok (.iload 4, 2) := by decide +kernel
theorem dX8_goAll_35 : decode cX8_goAll 35 = .ok (.aload_n 0, 1) := by decide +kernel
theorem dX8_goAll_36 : decode cX8_goAll 36 = .ok (.getfield 217, 3) := by decide +kernel
theorem dX8_goAll_39 : decode cX8_goAll 39 = .ok (.if_icmp .ge 20, 3) := by decide +kernel
theorem dX8_goAll_42 : decode cX8_goAll 42 = .ok (.aload_n 0, 1) := by decide +kernel
theorem dX8_goAll_43 : decode cX8_goAll 43 = .ok (.aload_n 0, 1) := by decide +kernel
theorem dX8_goAll_44 : decode cX8_goAll 44 = .ok (.getfield 44, 3) := by decide +kernel
theorem dX8_goAll_47 : decode cX8_goAll 47 = .ok (.iload 4, 2) := by decide +kernel
theorem dX8_goAll_49 : decode cX8_goAll 49 = .ok (.iaload, 1) := by decide +kernel
theorem dX8_goAll_50 : decode cX8_goAll 50 = .ok (.invokevirtual 226, 3) := by decide +kernel
theorem dX8_goAll_53 : decode cX8_goAll 53 = .ok (.iinc 4 1, 3) := by decide +kernel
theorem dX8_goAll_56 : decode cX8_goAll 56 = .ok (.goto (-23), 3) := by decide +kernel
theorem dX8_goAll_59 : decode cX8_goAll 59 = .ok (.iconst 1, 1) := by decide +kernel
theorem dX8_goAll_60 : decode cX8_goAll 60 = .ok (.ireturn, 1) := by decide +kernel
theorem dX8_slices_0 : decode cX8_slices 0 = .ok (.iload_n 1, 1) := by decide +kernel
theorem dX8_slices_1 : decode cX8_slices 1 = .ok (.iload_n 2, 1) := by decide +kernel
theorem dX8_slices_2 : decode cX8_slices 2 = .ok (.invokestatic 87, 3) := by decide +kernel
theorem dX8_slices_5 : decode cX8_slices 5 = .ok (.ifCond .ne 5, 3) := by decide +kernel
theorem dX8_slices_8 : decode cX8_slices 8 = .ok (.iconst (-1), 1) := by decide +kernel
theorem dX8_slices_9 : decode cX8_slices 9 = .ok (.ireturn, 1) := by decide +kernel
theorem dX8_slices_10 : decode cX8_slices 10 = .ok (.iload_n 3, 1) := by decide +kernel
theorem dX8_slices_11 : decode cX8_slices 11 = .ok (.iconst 1, 1) := by decide +kernel
theorem dX8_slices_12 : decode cX8_slices 12 = .ok (.sipush 4000, 3) := by decide +kernel
theorem dX8_slices_15 : decode cX8_slices 15 = .ok (.invokestatic 65, 3) := by decide +kernel
theorem dX8_slices_18 : decode cX8_slices 18 = .ok (.ifCond .ne 6, 3) := by decide +kernel
theorem dX8_slices_21 : decode cX8_slices 21 = .ok (.bipush (-2), 2) := by decide +kernel
theorem dX8_slices_23 : decode cX8_slices 23 = .ok (.ireturn, 1) := by decide +kernel
theorem dX8_slices_24 : decode cX8_slices 24 = .ok (.aload_n 0, 1) := by decide +kernel
theorem dX8_slices_25 : decode cX8_slices 25 = .ok (.iload_n 1, 1) := by decide +kernel
theorem dX8_slices_26 : decode cX8_slices 26 = .ok (.iload_n 2, 1) := by decide +kernel
theorem dX8_slices_27 : decode cX8_slices 27 = .ok (.iload_n 3, 1) := by decide +kernel
theorem dX8_slices_28 : decode cX8_slices 28 = .ok (.invokevirtual 229, 3) := by decide +kernel
theorem dX8_slices_31 : decode cX8_slices 31 = .ok (.ifCond .eq 10, 3) := by decide +kernel
theorem dX8_slices_34 : decode cX8_slices 34 = .ok (.aload_n 0, 1) := by decide +kernel
theorem dX8_slices_35 : decode cX8_slices 35 = .ok (.getfield 223, 3) := by decide +kernel
theorem dX8_slices_38 : decode cX8_slices 38 = .ok (.goto 5, 3) := by decide +kernel
theorem dX8_slices_41 : decode cX8_slices 41 = .ok (.bipush (-6), 2) := by decide +kernel
theorem dX8_slices_43 : decode cX8_slices 43 = .ok (.ireturn, 1) := by decide +kernel
theorem dX8_time_0 : decode cX8_time 0 = .ok (.iload_n 1, 1) := by decide +kernel
theorem dX8_time_1 : decode cX8_time 1 = .ok (.iload_n 2, 1) := by decide +kernel
theorem dX8_time_2 : decode cX8_time 2 = .ok (.invokestatic 87, 3) := by decide +kernel
theorem dX8_time_5 : decode cX8_time 5 = .ok (.ifCond .ne 5, 3) := by decide +kernel
theorem dX8_time_8 : decode cX8_time 8 = .ok (.iconst (-1), 1) := by decide +kernel
theorem dX8_time_9 : decode cX8_time 9 = .ok (.ireturn, 1) := by decide +kernel
theorem dX8_time_10 : decode cX8_time 10 = .ok (.iload_n 3, 1) := by decide +kernel
theorem dX8_time_11 : decode cX8_time 11 = .ok (.iconst 1, 1) := by decide +kernel
theorem dX8_time_12 : decode cX8_time 12 = .ok (.sipush 4000, 3) := by decide +kernel
theorem dX8_time_15 : decode cX8_time 15 = .ok (.invokestatic 65, 3) := by decide +kernel
theorem dX8_time_18 : decode cX8_time 18 = .ok (.ifCond .ne 6, 3) := by decide +kernel
theorem dX8_time_21 : decode cX8_time 21 = .ok (.bipush (-2), 2) := by decide +kernel
theorem dX8_time_23 : decode cX8_time 23 = .ok (.ireturn, 1) := by decide +kernel
theorem dX8_time_24 : decode cX8_time 24 = .ok (.aload_n 0, 1) := by decide +kernel
theorem dX8_time_25 : decode cX8_time 25 = .ok (.iload_n 1, 1) := by decide +kernel
theorem dX8_time_26 : decode cX8_time 26 = .ok (.iload_n 2, 1) := by decide +kernel
theorem dX8_time_27 : decode cX8_time 27 = .ok (.iload_n 3, 1) := by decide +kernel
theorem dX8_time_28 : decode cX8_time 28 = .ok (.invokevirtual 229, 3) := by decide +kernel
theorem dX8_time_31 : decode cX8_time 31 = .ok (.ifCond .ne 6, 3) := by decide +kernel
theorem dX8_time_34 : decode cX8_time 34 = .ok (.bipush (-6), 2) := by decide +kernel
theorem dX8_time_36 : decode cX8_time 36 = .ok (.ireturn, 1) := by decide +kernel
theorem dX8_time_37 : decode cX8_time 37 = .ok (.iconst 0, 1) := by decide +kernel
theorem dX8_time_38 : decode cX8_time 38 = .ok (.istore 4, 2) := by decide +kernel
theorem dX8_time_40 : decode cX8_time 40 = .ok (.iconst 0, 1) := by decide +kernel
theorem dX8_time_41 : decode cX8_time 41 = .ok (.istore 5, 2) := by decide +kernel
theorem dX8_time_43 : decode cX8_time 43 = .ok (.iload 5, 2) := by decide +kernel
theorem dX8_time_45 : decode cX8_time 45 = .ok (.aload_n 0, 1) := by decide +kernel
theorem dX8_time_46 : decode cX8_time 46 = .ok (.getfield 223, 3) := by decide +kernel
theorem dX8_time_49 : decode cX8_time 49 = .ok (.if_icmp .ge 35, 3) := by decide +kernel
theorem dX8_time_52 : decode cX8_time 52 = .ok (.aload_n 0, 1) := by decide +kernel
theorem dX8_time_53 : decode cX8_time 53 = .ok (.getfield 50, 3) := by decide +kernel
theorem dX8_time_56 : decode cX8_time 56 = .ok (.iload 5, 2) := by decide +kernel
theorem dX8_time_58 : decode cX8_time 58 = .ok (.iaload, 1) := by decide +kernel
theorem dX8_time_59 : decode cX8_time 59 = .ok (.iload 4, 2) := by decide +kernel
theorem dX8_time_61 : decode cX8_time 61 = .ok (.if_icmp .le 13, 3) := by decide +kernel
theorem dX8_time_64 : decode cX8_time 64 = .ok (.aload_n 0, 1) := by decide +kernel
theorem dX8_time_65 : decode cX8_time 65 = .ok (.getfield 50, 3) := by decide +kernel
theorem dX8_time_68 : decode cX8_time 68 = .ok (.iload 5, 2) := by decide +kernel
theorem dX8_time_70 : decode cX8_time 70 = .ok (.iaload, 1) := by decide +kernel
theorem dX8_time_71 : decode cX8_time 71 = .ok (.goto 5, 3) := by decide +kernel
theorem dX8_time_74 : decode cX8_time 74 = .ok (.iload 4, 2) := by decide +kernel
theorem dX8_time_76 : decode cX8_time 76 = .ok (.istore 4, 2) := by decide +kernel
theorem dX8_time_78 : decode cX8_time 78 = .ok (.iinc 5 1, 3) := by decide +kernel
theorem dX8_time_81 : decode cX8_time 81 = .ok (.goto (-38), 3) := by decide +kernel
theorem dX8_time_84 : decode cX8_time 84 = .ok (.iload 4, 2) := by decide +kernel
theorem dX8_time_86 : decode cX8_time 86 = .ok (.ireturn, 1) := by decide +kernel
theorem dX8_stateIn_0 : decode cX8_stateIn 0 = .ok (.aload_n 0, 1) := by decide +kernel
theorem dX8_stateIn_1 : decode cX8_stateIn 1 = .ok (.iload_n 1, 1) := by decide +kernel
theorem dX8_stateIn_2 : decode cX8_stateIn 2 = .ok (.invokevirtual 131, 3) := by decide +kernel
theorem dX8_stateIn_5 : decode cX8_stateIn 5 = .ok (.ifCond .ne 5, 3) := by decide +kernel
theorem dX8_stateIn_8 : decode cX8_stateIn 8 = .ok (.iconst (-1), 1) := by decide +kernel
theorem dX8_stateIn_9 : decode cX8_stateIn 9 = .ok (.ireturn, 1) := by decide +kernel
theorem dX8_stateIn_10 : decode cX8_stateIn 10 = .ok (.iload_n 2, 1) := by decide +kernel
theorem dX8_stateIn_11 : decode cX8_stateIn 11 = .ok (.iconst 1, 1) := by decide +kernel
theorem dX8_stateIn_12 : decode cX8_stateIn 12 = .ok (.sipush 500, 3) := by decide +kernel
theorem dX8_stateIn_15 : decode cX8_stateIn 15 = .ok (.invokestatic 65, 3) := by decide +kernel
theorem dX8_stateIn_18 : decode cX8_stateIn 18 = .ok (.ifCond .ne 6, 3) := by decide +kernel
theorem dX8_stateIn_21 : decode cX8_stateIn 21 = .ok (.bipush (-2), 2) := by decide +kernel
theorem dX8_stateIn_23 : decode cX8_stateIn 23 = .ok (.ireturn, 1) := by decide +kernel
theorem dX8_stateIn_24 : decode cX8_stateIn 24 = .ok (.aload_n 0, 1) := by decide +kernel
theorem dX8_stateIn_25 : decode cX8_stateIn 25 = .ok (.invokevirtual 232, 3) := by decide +kernel
theorem dX8_stateIn_28 : decode cX8_stateIn 28 = .ok (.iconst 0, 1) := by decide +kernel
theorem dX8_stateIn_29 : decode cX8_stateIn 29 = .ok (.istore_n 3, 1) := by decide +kernel
theorem dX8_stateIn_30 : decode cX8_stateIn 30 = .ok (.iload_n 3, 1) := by decide +kernel
theorem dX8_stateIn_31 : decode cX8_stateIn 31 = .ok (.iload_n 2, 1) := by decide +kernel
theorem dX8_stateIn_32 : decode cX8_stateIn 32 = .ok (.if_icmp .ge 13, 3) := by decide +kernel
theorem dX8_stateIn_35 : decode cX8_stateIn 35 = .ok (.aload_n 0, 1) := by decide +kernel
theorem dX8_stateIn_36 : decode cX8_stateIn 36 = .ok (.invokevirtual 193, 3) := by decide +kernel
theorem dX8_stateIn_39 : decode cX8_stateIn 39 = .ok (.iinc 3 1, 3) := by decide +kernel
theorem dX8_stateIn_42 : decode cX8_stateIn 42 = .ok (.goto (-12), 3) := by decide +kernel
theorem dX8_stateIn_45 : decode cX8_stateIn 45 = .ok (.aload_n 0, 1) := by decide +kernel
theorem dX8_stateIn_46 : decode cX8_stateIn 46 = .ok (.iload_n 1, 1) := by decide +kernel
theorem dX8_stateIn_47 : decode cX8_stateIn 47 = .ok (.iconst 5, 1) := by decide +kernel
theorem dX8_stateIn_48 : decode cX8_stateIn 48 = .ok (.invokevirtual 102, 3) := by decide +kernel
theorem dX8_stateIn_51 : decode cX8_stateIn 51 = .ok (.istore_n 3, 1) := by decide +kernel
theorem dX8_stateIn_52 : decode cX8_stateIn 52 = .ok (.aload_n 0, 1) := by decide +kernel
theorem dX8_stateIn_53 : decode cX8_stateIn 53 = .ok (.invokevirtual 235, 3) := by decide +kernel
theorem dX8_stateIn_56 : decode cX8_stateIn 56 = .ok (.iload_n 3, 1) := by decide +kernel
theorem dX8_stateIn_57 : decode cX8_stateIn 57 = .ok (.ireturn, 1) := by decide +kernel
theorem dX8_doneIn_0 : decode cX8_doneIn 0 = .ok (.aload_n 0, 1) := by decide +kernel
theorem dX8_doneIn_1 : decode cX8_doneIn 1 = .ok (.iload_n 1, 1) := by decide +kernel
theorem dX8_doneIn_2 : decode cX8_doneIn 2 = .ok (.invokevirtual 131, 3) := by decide +kernel
theorem dX8_doneIn_5 : decode cX8_doneIn 5 = .ok (.ifCond .ne 5, 3) := by decide +kernel
theorem dX8_doneIn_8 : decode cX8_doneIn 8 = .ok (.iconst (-1), 1) := by decide +kernel
theorem dX8_doneIn_9 : decode cX8_doneIn 9 = .ok (.ireturn, 1) := by decide +kernel
theorem dX8_doneIn_10 : decode cX8_doneIn 10 = .ok (.aload_n 0, 1) := by decide +kernel
theorem dX8_doneIn_11 : decode cX8_doneIn 11 = .ok (.invokevirtual 232, 3) := by decide +kernel
theorem dX8_doneIn_14 : decode cX8_doneIn 14 = .ok (.iconst 0, 1) := by decide +kernel
theorem dX8_doneIn_15 : decode cX8_doneIn 15 = .ok (.istore_n 2, 1) := by decide +kernel
theorem dX8_doneIn_16 : decode cX8_doneIn 16 = .ok (.iload_n 2, 1) := by decide +kernel
theorem dX8_doneIn_17 : decode cX8_doneIn 17 = .ok (.sipush 1000, 3) := by decide +kernel
theorem dX8_doneIn_20 : decode cX8_doneIn 20 = .ok (.if_icmp .gt 22, 3) := by decide +kernel
theorem dX8_doneIn_23 : decode cX8_doneIn 23 = .ok (.aload_n 0, 1) := by decide +kernel
theorem dX8_doneIn_24 : decode cX8_doneIn 24 = .ok (.iload_n 1, 1) := by decide +kernel
theorem dX8_doneIn_25 : decode cX8_doneIn 25 = .ok (.iconst 5, 1) := by decide +kernel
theorem dX8_doneIn_26 : decode cX8_doneIn 26 = .ok (.invokevirtual 102, 3) := by decide +kernel
theorem dX8_doneIn_29 : decode cX8_doneIn 29 = .ok (.ifCond .ne 13, 3) := by decide +kernel
theorem dX8_doneIn_32 : decode cX8_doneIn 32 = .ok (.aload_n 0, 1) := by decide +kernel
theorem dX8_doneIn_33 : decode cX8_doneIn 33 = .ok (.invokevirtual 193, 3) := by decide +kernel
theorem dX8_doneIn_36 : decode cX8_doneIn 36 = .ok (.iinc 2 1, 3) := by decide +kernel
theorem dX8_doneIn_39 : decode cX8_doneIn 39 = .ok (.goto (-23), 3) := by decide +kernel
theorem dX8_doneIn_42 : decode cX8_doneIn 42 = .ok (.aload_n 0, 1) := by decide +kernel
theorem dX8_doneIn_43 : decode cX8_doneIn 43 = .ok (.invokevirtual 235, 3) := by decide +kernel
theorem dX8_doneIn_46 : decode cX8_doneIn 46 = .ok (.iload_n 2, 1) := by decide +kernel
theorem dX8_doneIn_47 : decode cX8_doneIn 47 = .ok (.sipush 1000, 3) := by decide +kernel
theorem dX8_doneIn_50 : decode cX8_doneIn 50 = .ok (.if_icmp .le 8, 3) := by decide +kernel
theorem dX8_doneIn_53 : decode cX8_doneIn 53 = .ok (.bipush (-6), 2) := by decide +kernel
theorem dX8_doneIn_55 : decode cX8_doneIn 55 = .ok (.goto 4, 3) := by decide +kernel
theorem dX8_doneIn_58 : decode cX8_doneIn 58 = .ok (.iload_n 2, 1) := by decide +kernel
theorem dX8_doneIn_59 : decode cX8_doneIn 59 = .ok (.ireturn, 1) := by decide +kernel
theorem dX8_gap_0 : decode cX8_gap 0 = .ok (.aload_n 0, 1) := by decide +kernel
theorem dX8_gap_1 : decode cX8_gap 1 = .ok (.iload_n 1, 1) := by decide +kernel
theorem dX8_gap_2 : decode cX8_gap 2 = .ok (.invokevirtual 131, 3) := by decide +kernel
theorem dX8_gap_5 : decode cX8_gap 5 = .ok (.ifCond .ne 5, 3) := by decide +kernel
theorem dX8_gap_8 : decode cX8_gap 8 = .ok (.iconst (-1), 1) := by decide +kernel
theorem dX8_gap_9 : decode cX8_gap 9 = .ok (.ireturn, 1) := by decide +kernel
theorem dX8_gap_10 : decode cX8_gap 10 = .ok (.iload_n 2, 1) := by decide +kernel
theorem dX8_gap_11 : decode cX8_gap 11 = .ok (.iconst 0, 1) := by decide +kernel
theorem dX8_gap_12 : decode cX8_gap 12 = .ok (.iconst 1, 1) := by decide +kernel
theorem dX8_gap_13 : decode cX8_gap 13 = .ok (.invokestatic 65, 3) := by decide +kernel
theorem dX8_gap_16 : decode cX8_gap 16 = .ok (.ifCond .ne 6, 3) := by decide +kernel
theorem dX8_gap_19 : decode cX8_gap 19 = .ok (.bipush (-2), 2) := by decide +kernel
theorem dX8_gap_21 : decode cX8_gap 21 = .ok (.ireturn, 1) := by decide +kernel
theorem dX8_gap_22 : decode cX8_gap 22 = .ok (.aload_n 0, 1) := by decide +kernel
theorem dX8_gap_23 : decode cX8_gap 23 = .ok (.iload_n 1, 1) := by decide +kernel
theorem dX8_gap_24 : decode cX8_gap 24 = .ok (.bipush 12, 2) := by decide +kernel
theorem dX8_gap_26 : decode cX8_gap 26 = .ok (.invokevirtual 102, 3) := by decide +kernel
theorem dX8_gap_29 : decode cX8_gap 29 = .ok (.ifCond .ne 6, 3) := by decide +kernel
theorem dX8_gap_32 : decode cX8_gap 32 = .ok (.bipush (-6), 2) := by decide +kernel
theorem dX8_gap_34 : decode cX8_gap 34 = .ok (.ireturn, 1) := by decide +kernel
theorem dX8_gap_35 : decode cX8_gap 35 = .ok (.aload_n 0, 1) := by decide +kernel
theorem dX8_gap_36 : decode cX8_gap 36 = .ok (.iload_n 1, 1) := by decide +kernel
theorem dX8_gap_37 : decode cX8_gap 37 = .ok (.invokevirtual 205, 3) := by decide +kernel
theorem dX8_gap_40 : decode cX8_gap 40 = .ok (.istore_n 3, 1) := by decide +kernel
theorem dX8_gap_41 : decode cX8_gap 41 = .ok (.iload_n 2, 1) := by decide +kernel
theorem dX8_gap_42 : decode cX8_gap 42 = .ok (.ifCond .ne 5, 3) := by decide +kernel
theorem dX8_gap_45 : decode cX8_gap 45 = .ok (.iload_n 3, 1) := by decide +kernel
theorem dX8_gap_46 : decode cX8_gap 46 = .ok (.ireturn, 1) := by decide +kernel
theorem dX8_gap_47 : decode cX8_gap 47 = .ok (.iload_n 3, 1) := by decide +kernel
theorem dX8_gap_48 : decode cX8_gap 48 = .ok (.istore 4, 2) := by decide +kernel
theorem dX8_gap_50 : decode cX8_gap 50 = .ok (.iload 4, 2) := by decide +kernel
theorem dX8_gap_52 : decode cX8_gap 52 = .ok (.sipush 4000, 3) := by decide +kernel
theorem dX8_gap_55 : decode cX8_gap 55 = .ok (.if_icmp .ge 25, 3) := by decide +kernel
theorem dX8_gap_58 : decode cX8_gap 58 = .ok (.aload_n 0, 1) := by decide +kernel
theorem dX8_gap_59 : decode cX8_gap 59 = .ok (.getfield 14, 3) := by decide +kernel
theorem dX8_gap_62 : decode cX8_gap 62 = .ok (.sipush 4000, 3) := by decide +kernel
theorem dX8_gap_65 : decode cX8_gap 65 = .ok (.iload_n 1, 1) := by decide +kernel
theorem dX8_gap_66 : decode cX8_gap 66 = .ok (.imul, 1) := by decide +kernel
theorem dX8_gap_67 : decode cX8_gap 67 = .ok (.iload 4, 2) := by decide +kernel
theorem dX8_gap_69 : decode cX8_gap 69 = .ok (.iadd, 1) := by decide +kernel
theorem dX8_gap_70 : decode cX8_gap 70 = .ok (.iaload, 1) := by decide +kernel
theorem dX8_gap_71 : decode cX8_gap 71 = .ok (.ifCond .ge 9, 3) := by decide +kernel
theorem dX8_gap_74 : decode cX8_gap 74 = .ok (.iinc 4 1, 3) := by decide +kernel
theorem dX8_gap_77 : decode cX8_gap 77 = .ok (.goto (-27), 3) := by decide +kernel
theorem dX8_gap_80 : decode cX8_gap 80 = .ok (.aload_n 0, 1) := by decide +kernel
theorem dX8_gap_81 : decode cX8_gap 81 = .ok (.iload_n 1, 1) := by decide +kernel
theorem dX8_gap_82 : decode cX8_gap 82 = .ok (.bipush 8, 2) := by decide +kernel
theorem dX8_gap_84 : decode cX8_gap 84 = .ok (.invokevirtual 102, 3) := by decide +kernel
theorem dX8_gap_87 : decode cX8_gap 87 = .ok (.istore 5, 2) := by decide +kernel
theorem dX8_gap_89 : decode cX8_gap 89 = .ok (.iload 4, 2) := by decide +kernel
theorem dX8_gap_91 : decode cX8_gap 91 = .ok (.sipush 4000, 3) := by decide +kernel
theorem dX8_gap_94 : decode cX8_gap 94 = .ok (.if_icmp .ge 10, 3) := by decide +kernel
theorem dX8_gap_97 : decode cX8_gap 97 = .ok (.iload 4, 2) := by decide +kernel
theorem dX8_gap_99 : decode cX8_gap 99 = .ok (.iload_n 3, 1) := by decide +kernel
theorem dX8_gap_100 : decode cX8_gap 100 = .ok (.isub, 1) := by decide +kernel
theorem dX8_gap_101 : decode cX8_gap 101 = .ok (.goto 17, 3) := by decide +kernel
theorem dX8_gap_104 : decode cX8_gap 104 = .ok (.iload 5, 2) := by decide +kernel
theorem dX8_gap_106 : decode cX8_gap 106 = .ok (.ifCond .lt 10, 3) := by decide +kernel
theorem dX8_gap_109 : decode cX8_gap 109 = .ok (.iload 5, 2) := by decide +kernel
theorem dX8_gap_111 : decode cX8_gap 111 = .ok (.iload_n 3, 1) := by decide +kernel
theorem dX8_gap_112 : decode cX8_gap 112 = .ok (.isub, 1) := by decide +kernel
theorem dX8_gap_113 : decode cX8_gap 113 = .ok (.goto 5, 3) := by decide +kernel
theorem dX8_gap_116 : decode cX8_gap 116 = .ok (.bipush (-6), 2) := by decide +kernel
theorem dX8_gap_118 : decode cX8_gap 118 = .ok (.ireturn, 1) := by decide +kernel
theorem dX8_put_0 : decode cX8_put 0 = .ok (.iconst 0, 1) := by decide +kernel
theorem dX8_put_1 : decode cX8_put 1 = .ok (.istore_n 3, 1) := by decide +kernel
theorem dX8_put_2 : decode cX8_put 2 = .ok (.lload_n 1, 1) := by decide +kernel
theorem dX8_put_3 : decode cX8_put 3 = .ok (.lstore 4, 2) := by decide +kernel
theorem dX8_put_5 : decode cX8_put 5 = .ok (.iload_n 3, 1) := by decide +kernel
theorem dX8_put_6 : decode cX8_put 6 = .ok (.bipush 8, 2) := by decide +kernel
theorem dX8_put_8 : decode cX8_put 8 = .ok (.if_icmp .ge 47, 3) := by decide +kernel
theorem dX8_put_11 : decode cX8_put 11 = .ok (.lload 4, 2) := by decide +kernel
theorem dX8_put_13 : decode cX8_put 13 = .ok (.ldc2_w 238, 3) := by decide +kernel
theorem dX8_put_16 : decode cX8_put 16 = .ok (.land, 1) := by decide +kernel
theorem dX8_put_17 : decode cX8_put 17 = .ok (.lconst 0, 1) := by decide +kernel
theorem dX8_put_18 : decode cX8_put 18 = .ok (.lcmp, 1) := by decide +kernel
theorem dX8_put_19 : decode cX8_put 19 = .ok (.ifCond .eq 36, 3) := by decide +kernel
theorem dX8_put_22 : decode cX8_put 22 = .ok (.lload 4, 2) := by decide +kernel
theorem dX8_put_24 : decode cX8_put 24 = .ok (.ldc2_w 238, 3) := by decide +kernel
theorem dX8_put_27 : decode cX8_put 27 = .ok (.land, 1) := by decide +kernel
theorem dX8_put_28 : decode cX8_put 28 = .ok (.l2i, 1) := by decide +kernel
theorem dX8_put_29 : decode cX8_put 29 = .ok (.bipush 33, 2) := by decide +kernel
theorem dX8_put_31 : decode cX8_put 31 = .ok (.bipush 126, 2) := by decide +kernel
theorem dX8_put_33 : decode cX8_put 33 = .ok (.invokestatic 65, 3) := by decide +kernel
theorem dX8_put_36 : decode cX8_put 36 = .ok (.ifCond .ne 6, 3) := by decide +kernel
theorem dX8_put_39 : decode cX8_put 39 = .ok (.bipush (-2), 2) := by decide +kernel
theorem dX8_put_41 : decode cX8_put 41 = .ok (.ireturn, 1) := by decide +kernel
theorem dX8_put_42 : decode cX8_put 42 = .ok (.iinc 3 1, 3) := by decide +kernel
theorem dX8_put_45 : decode cX8_put 45 = .ok (.lload 4, 2) := by decide +kernel
theorem dX8_put_47 : decode cX8_put 47 = .ok (.bipush 8, 2) := by decide +kernel
theorem dX8_put_49 : decode cX8_put 49 = .ok (.lushr, 1) := by decide +kernel
theorem dX8_put_50 : decode cX8_put 50 = .ok (.lstore 4, 2) := by decide +kernel
theorem dX8_put_52 : decode cX8_put 52 = .ok (.goto (-47), 3) := by decide +kernel
theorem dX8_put_55 : decode cX8_put 55 = .ok (.iload_n 3, 1) := by decide +kernel
theorem dX8_put_56 : decode cX8_put 56 = .ok (.ifCond .eq 10, 3) := by decide +kernel
theorem dX8_put_59 : decode cX8_put 59 = .ok (.lload 4, 2) := by decide +kernel
theorem dX8_put_61 : decode cX8_put 61 = .ok (.lconst 0, 1) := by decide +kernel
theorem dX8_put_62 : decode cX8_put 62 = .ok (.lcmp, 1) := by decide +kernel
theorem dX8_put_63 : decode cX8_put 63 = .ok (.ifCond .eq 6, 3) := by decide +kernel
theorem dX8_put_66 : decode cX8_put 66 = .ok (.bipush (-2), 2) := by decide +kernel
theorem dX8_put_68 : decode cX8_put 68 = .ok (.ireturn, 1) := by decide +kernel
theorem dX8_put_69 : decode cX8_put 69 = .ok (.aload_n 0, 1) := by decide +kernel
theorem dX8_put_70 : decode cX8_put 70 = .ok (.getfield 211, 3) := by decide +kernel
theorem dX8_put_73 : decode cX8_put 73 = .ok (.iload_n 3, 1) := by decide +kernel
theorem dX8_put_74 : decode cX8_put 74 = .ok (.iadd, 1) := by decide +kernel
theorem dX8_put_75 : decode cX8_put 75 = .ok (.bipush 80, 2) := by decide +kernel
theorem dX8_put_77 : decode cX8_put 77 = .ok (.if_icmp .le 6, 3) := by decide +kernel
theorem dX8_put_80 : decode cX8_put 80 = .ok (.bipush (-4), 2) := by decide +kernel
theorem dX8_put_82 : decode cX8_put 82 = .ok (.ireturn, 1) := by decide +kernel
theorem dX8_put_83 : decode cX8_put 83 = .ok (.iconst 0, 1) := by decide +kernel
theorem dX8_put_84 : decode cX8_put 84 = .ok (.istore 6, 2) := by decide +kernel
theorem dX8_put_86 : decode cX8_put 86 = .ok (.iload 6, 2) := by decide +kernel
theorem dX8_put_88 : decode cX8_put 88 = .ok (.iload_n 3, 1) := by decide +kernel
theorem dX8_put_89 : decode cX8_put 89 = .ok (.if_icmp .ge 37, 3) := by decide +kernel
theorem dX8_put_92 : decode cX8_put 92 = .ok (.aload_n 0, 1) := by decide +kernel
theorem dX8_put_93 : decode cX8_put 93 = .ok (.getfield 41, 3) := by decide +kernel
theorem dX8_put_96 : decode cX8_put 96 = .ok (.aload_n 0, 1) := by decide +kernel
theorem dX8_put_97 : decode cX8_put 97 = .ok (.getfield 211, 3) := by decide +kernel
theorem dX8_put_100 : decode cX8_put 100 = .ok (.iload 6, 2) := by decide +kernel
theorem dX8_put_102 : decode cX8_put 102 = .ok (.iadd, 1) := by decide +kernel
theorem dX8_put_103 : decode cX8_put 103 = .ok (.lload_n 1, 1) := by decide +kernel
theorem dX8_put_104 : decode cX8_put 104 = .ok (.bipush 8, 2) := by decide +kernel
theorem dX8_put_106 : decode cX8_put 106 = .ok (.iload_n 3, 1) := by decide +kernel
theorem dX8_put_107 : decode cX8_put 107 = .ok (.iconst 1, 1) := by decide +kernel
theorem dX8_put_108 : decode cX8_put 108 = .ok (.isub, 1) := by decide +kernel
theorem dX8_put_109 : decode cX8_put 109 = .ok (.iload 6, 2) := by decide +kernel
theorem dX8_put_111 : decode cX8_put 111 = .ok (.isub, 1) := by decide +kernel
theorem dX8_put_112 : decode cX8_put 112 = .ok (.imul, 1) := by decide +kernel
theorem dX8_put_113 : decode cX8_put 113 = .ok (.lshr, 1) := by decide +kernel
theorem dX8_put_114 : decode cX8_put 114 = .ok (.ldc2_w 238, 3) := by decide +kernel
theorem dX8_put_117 : decode cX8_put 117 = .ok (.land, 1) := by decide +kernel
theorem dX8_put_118 : decode cX8_put 118 = .ok (.l2i, 1) := by decide +kernel
theorem dX8_put_119 : decode cX8_put 119 = .ok (.iastore, 1) := by decide +kernel
theorem dX8_put_120 : decode cX8_put 120 = .ok (.iinc 6 1, 3) := by decide +kernel
theorem dX8_put_123 : decode cX8_put 123 = .ok (.goto (-37), 3) := by decide +kernel
theorem dX8_put_126 : decode cX8_put 126 = .ok (.aload_n 0, 1) := by decide +kernel
theorem dX8_put_127 : decode cX8_put 127 = .ok (.dup, 1) := by decide +kernel
theorem dX8_put_128 : decode cX8_put 128 = .ok (.getfield 211, 3) := by decide +kernel
theorem dX8_put_131 : decode cX8_put 131 = .ok (.iload_n 3, 1) := by decide +kernel
theorem dX8_put_132 : decode cX8_put 132 = .ok (.iadd, 1) := by decide +kernel
theorem dX8_put_133 : decode cX8_put 133 = .ok (.putfield 211, 3) := by decide +kernel
theorem dX8_put_136 : decode cX8_put 136 = .ok (.aload_n 0, 1) := by decide +kernel
theorem dX8_put_137 : decode cX8_put 137 = .ok (.getfield 211, 3) := by decide +kernel
theorem dX8_put_140 : decode cX8_put 140 = .ok (.ireturn, 1) := by decide +kernel
theorem dX8_wipe_0 : decode cX8_wipe 0 = .ok (.aload_n 0, 1) := by decide +kernel
theorem dX8_wipe_1 : decode cX8_wipe 1 = .ok (.getfield 211, 3) := by decide +kernel
theorem dX8_wipe_4 : decode cX8_wipe 4 = .ok (.istore_n 1, 1) := by decide +kernel
theorem dX8_wipe_5 : decode cX8_wipe 5 = .ok (.aload_n 0, 1) := by decide +kernel
theorem dX8_wipe_6 : decode cX8_wipe 6 = .ok (.iconst 0, 1) := by decide +kernel
theorem dX8_wipe_7 : decode cX8_wipe 7 = .ok (.putfield 211, 3) := by decide +kernel
theorem dX8_wipe_10 : decode cX8_wipe 10 = .ok (.iload_n 1, 1) := by decide +kernel
theorem dX8_wipe_11 : decode cX8_wipe 11 = .ok (.ireturn, 1) := by decide +kernel
theorem dX8_next_0 : decode cX8_next 0 = .ok (.aload_n 0, 1) := by decide +kernel
theorem dX8_next_1 : decode cX8_next 1 = .ok (.getfield 240, 3) := by decide +kernel
theorem dX8_next_4 : decode cX8_next 4 = .ok (.aload_n 0, 1) := by decide +kernel
theorem dX8_next_5 : decode cX8_next 5 = .ok (.getfield 211, 3) := by decide +kernel
theorem dX8_next_8 : decode cX8_next 8 = .ok (.if_icmp .ge 15, 3) := by decide +kernel
theorem dX8_next_11 : decode cX8_next 11 = .ok (.aload_n 0, 1) := by decide +kernel
theorem dX8_next_12 : decode cX8_next 12 = .ok (.getfield 41, 3) := by decide +kernel
theorem dX8_next_15 : decode cX8_next 15 = .ok (.aload_n 0, 1) := by decide +kernel
theorem dX8_next_16 : decode cX8_next 16 = .ok (.getfield 240, 3) := by decide +kernel
theorem dX8_next_19 : decode cX8_next 19 = .ok (.iaload, 1) := by decide +kernel
theorem dX8_next_20 : decode cX8_next 20 = .ok (.goto 4, 3) := by decide +kernel
theorem dX8_next_23 : decode cX8_next 23 = .ok (.iconst 0, 1) := by decide +kernel
theorem dX8_next_24 : decode cX8_next 24 = .ok (.ireturn, 1) := by decide +kernel
theorem dX8_takeSign_0 : decode cX8_takeSign 0 = .ok (.aload_n 0, 1) := by decide +kernel
theorem dX8_takeSign_1 : decode cX8_takeSign 1 = .ok (.aload_n 0, 1) := by decide +kernel
theorem dX8_takeSign_2 : decode cX8_takeSign 2 = .ok (.getfield 243, 3) := by decide +kernel
theorem dX8_takeSign_5 : decode cX8_takeSign 5 = .ok (.ifCond .ne 11, 3) := by decide +kernel
theorem dX8_takeSign_8 : decode cX8_takeSign 8 = .ok (.aload_n 0, 1) := by decide +kernel
theorem dX8_takeSign_9 : decode cX8_takeSign 9 = .ok (.invokevirtual 247, 3) := by decide +kernel
theorem dX8_takeSign_12 : decode cX8_takeSign 12 = .ok (.iload_n 1, 1) := by decide +kernel
theorem dX8_takeSign_13 : decode cX8_takeSign 13 = .ok (.if_icmp .eq 7, 3) := by decide +kernel
theorem dX8_takeSign_16 : decode cX8_takeSign 16 = .ok (.iconst 1, 1) := by decide +kernel
theorem dX8_takeSign_17 : decode cX8_takeSign 17 = .ok (.goto 4, 3) := by decide +kernel
theorem dX8_takeSign_20 : decode cX8_takeSign 20 = .ok (.iconst 0, 1) := by decide +kernel
theorem dX8_takeSign_21 : decode cX8_takeSign 21 = .ok (.putfield 243, 3) := by decide +kernel
theorem dX8_takeSign_24 : decode cX8_takeSign 24 = .ok (.aload_n 0, 1) := by decide +kernel
theorem dX8_takeSign_25 : decode cX8_takeSign 25 = .ok (.dup, 1) := by decide +kernel
theorem dX8_takeSign_26 : decode cX8_takeSign 26 = .ok (.getfield 240, 3) := by decide +kernel
theorem dX8_takeSign_29 : decode cX8_takeSign 29 = .ok (.aload_n 0, 1) := by decide +kernel
theorem dX8_takeSign_30 : decode cX8_takeSign 30 = .ok (.getfield 243, 3) := by decide +kernel
theorem dX8_takeSign_33 : decode cX8_takeSign 33 = .ok (.ifCond .eq 7, 3) := by decide +kernel
theorem dX8_takeSign_36 : decode cX8_takeSign 36 = .ok (.iconst 0, 1) := by decide +kernel
theorem dX8_takeSign_37 : decode cX8_takeSign 37 = .ok (.goto 4, 3) := by decide +kernel
theorem dX8_takeSign_40 : decode cX8_takeSign 40 = .ok (.iconst 1, 1) := by decide +kernel
theorem dX8_takeSign_41 : decode cX8_takeSign 41 = .ok (.iadd, 1) := by decide +kernel
theorem dX8_takeSign_42 : decode cX8_takeSign 42 = .ok (.putfield 240, 3) := by decide +kernel
theorem dX8_takeSign_45 : decode cX8_takeSign 45 = .ok (.return_, 1) := by decide +kernel
theorem dX8_takeOne_0 : decode cX8_takeOne 0 = .ok (.aload_n 0, 1) := by decide +kernel
theorem dX8_takeOne_1 : decode cX8_takeOne 1 = .ok (.aload_n 0, 1) := by decide +kernel
theorem dX8_takeOne_2 : decode cX8_takeOne 2 = .ok (.getfield 243, 3) := by decide +kernel
theorem dX8_takeOne_5 : decode cX8_takeOne 5 = .ok (.ifCond .ne 16, 3) := by decide +kernel
theorem dX8_takeOne_8 : decode cX8_takeOne 8 = .ok (.aload_n 0, 1) := by decide +kernel
theorem dX8_takeOne_9 : decode cX8_takeOne 9 = .ok (.invokevirtual 247, 3) := by decide +kernel
theorem dX8_takeOne_12 : decode cX8_takeOne 12 = .ok (.bipush 48, 2) := by decide +kernel
theorem dX8_takeOne_14 : decode cX8_takeOne 14 = .ok (.iload_n 2, 1) := by decide +kernel
theorem dX8_takeOne_15 : decode cX8_takeOne 15 = .ok (.invokestatic 65, 3) := by decide +kernel
theorem dX8_takeOne_18 : decode cX8_takeOne 18 = .ok (.ifCond .ne 7, 3) := by decide +kernel
theorem dX8_takeOne_21 : decode cX8_takeOne 21 = .ok (.iconst 1, 1) := by decide +kernel
theorem dX8_takeOne_22 : decode cX8_takeOne 22 = .ok (.goto 4, 3) := by decide +kernel
theorem dX8_takeOne_25 : decode cX8_takeOne 25 = .ok (.iconst 0, 1) := by decide +kernel
theorem dX8_takeOne_26 : decode cX8_takeOne 26 = .ok (.putfield 243, 3) := by decide +kernel
theorem dX8_takeOne_29 : decode cX8_takeOne 29 = .ok (.aload_n 0, 1) := by decide +kernel
theorem dX8_takeOne_30 : decode cX8_takeOne 30 = .ok (.getfield 243, 3) := by decide +kernel
theorem dX8_takeOne_33 : decode cX8_takeOne 33 = .ok (.ifCond .ne 33, 3) := by decide +kernel
theorem dX8_takeOne_36 : decode cX8_takeOne 36 = .ok (.aload_n 0, 1) := by decide +kernel
theorem dX8_takeOne_37 : decode cX8_takeOne 37 = .ok (.getfield 62, 3) := by decide +kernel
theorem dX8_takeOne_40 : decode cX8_takeOne 40 = .ok (.iconst 4, 1) := by decide +kernel
theorem dX8_takeOne_41 : decode cX8_takeOne 41 = .ok (.aload_n 0, 1) := by decide +kernel
theorem dX8_takeOne_42 : decode cX8_takeOne 42 = .ok (.getfield 250, 3) := by decide +kernel
theorem dX8_takeOne_45 : decode cX8_takeOne 45 = .ok (.imul, 1) := by decide +kernel
theorem dX8_takeOne_46 : decode cX8_takeOne 46 = .ok (.iload_n 1, 1) := by decide +kernel
theorem dX8_takeOne_47 : decode cX8_takeOne 47 = .ok (.iadd, 1) := by decide +kernel
theorem dX8_takeOne_48 : decode cX8_takeOne 48 = .ok (.aload_n 0, 1) := by decide +kernel
theorem dX8_takeOne_49 : decode cX8_takeOne 49 = .ok (.invokevirtual 247, 3) := by decide +kernel
theorem dX8_takeOne_52 : decode cX8_takeOne 52 = .ok (.bipush 48, 2) := by decide +kernel
theorem dX8_takeOne_54 : decode cX8_takeOne 54 = .ok (.isub, 1) := by decide +kernel
theorem dX8_takeOne_55 : decode cX8_takeOne 55 = .ok (.iastore, 1) := by decide +kernel
theorem dX8_takeOne_56 : decode cX8_takeOne 56 = .ok (.aload_n 0, 1) := by decide +kernel
theorem dX8_takeOne_57 : decode cX8_takeOne 57 = .ok (.dup, 1) := by decide +kernel
theorem dX8_takeOne_58 : decode cX8_takeOne 58 = .ok (.getfield 240, 3) := by decide +kernel
theorem dX8_takeOne_61 : decode cX8_takeOne 61 = .ok (.iconst 1, 1) := by decide +kernel
theorem dX8_takeOne_62 : decode cX8_takeOne 62 = .ok (.iadd, 1) := by decide +kernel
theorem dX8_takeOne_63 : decode cX8_takeOne 63 = .ok (.putfield 240, 3) := by decide +kernel
theorem dX8_takeOne_66 : decode cX8_takeOne 66 = .ok (.return_, 1) := by decide +kernel
theorem dX8_takeNumber_0 : decode cX8_takeNumber 0 = .ok (.aload_n 0, 1) := by decide +kernel
theorem dX8_takeNumber_1 : decode cX8_takeNumber 1 = .ok (.iload_n 1, 1) := by decide +kernel
theorem dX8_takeNumber_2 : decode cX8_takeNumber 2 = .ok (.bipush 57, 2) := by decide +kernel
theorem dX8_takeNumber_4 : decode cX8_takeNumber 4 = .ok (.invokevirtual 253, 3) := by decide +kernel
theorem dX8_takeNumber_7 : decode cX8_takeNumber 7 = .ok (.iconst 4, 1) := by decide +kernel
theorem dX8_takeNumber_8 : decode cX8_takeNumber 8 = .ok (.aload_n 0, 1) := by decide +kernel
theorem dX8_takeNumber_9 : decode cX8_takeNumber 9 = .ok (.getfield 250, 3) := by decide +kernel
theorem dX8_takeNumber_12 : decode cX8_takeNumber 12 = .ok (.imul, 1) := by decide +kernel
theorem dX8_takeNumber_13 : decode cX8_takeNumber 13 = .ok (.iload_n 1, 1) := by decide +kernel
theorem dX8_takeNumber_14 : decode cX8_takeNumber 14 = .ok (.iadd, 1) := by decide +kernel
theorem dX8_takeNumber_15 : decode cX8_takeNumber 15 = .ok (.istore_n 2, 1) := by decide +kernel
theorem dX8_takeNumber_16 : decode cX8_takeNumber 16 = .ok (.aload_n 0, 1) := by decide +kernel
theorem dX8_takeNumber_17 : decode cX8_takeNumber 17 = .ok (.getfield 243, 3) := by decide +kernel
theorem dX8_takeNumber_20 : decode cX8_takeNumber 20 = .ok (.ifCond .ne 16, 3) := by decide +kernel
theorem dX8_takeNumber_23 : decode cX8_takeNumber 23 = .ok (.aload_n 0, 1) := by decide +kernel
theorem dX8_takeNumber_24 : decode cX8_takeNumber 24 = .ok (.getfield 62, 3) := by decide +kernel
theorem dX8_takeNumber_27 : decode cX8_takeNumber 27 = .ok (.iload_n 2, 1) := by decide +kernel
theorem dX8_takeNumber_28 : decode cX8_takeNumber 28 = .ok (.iaload, 1) := by decide +kernel
theorem dX8_takeNumber_29 : decode cX8_takeNumber 29 = .ok (.ifCond .le 7, 3) := by decide +kernel
theorem dX8_takeNumber_32 : decode cX8_takeNumber 32 = .ok (.iconst 1, 1) := by decide +kernel
theorem dX8_takeNumber_33 : decode cX8_takeNumber 33 = .ok (.goto 4, 3) := by decide +kernel
theorem dX8_takeNumber_36 : decode cX8_takeNumber 36 = .ok (.iconst 0, 1) := by decide +kernel
theorem dX8_takeNumber_37 : decode cX8_takeNumber 37 = .ok (.istore_n 3, 1) := by decide +kernel
theorem dX8_takeNumber_38 : decode cX8_takeNumber 38 = .ok (.iload_n 3, 1) := by decide +kernel
theorem dX8_takeNumber_39 : decode cX8_takeNumber 39 = .ok (.ifCond .eq 75, 3) := by decide +kernel
theorem dX8_takeNumber_42 : decode cX8_takeNumber 42 = .ok (.aload_n 0, 1) := by decide +kernel
theorem dX8_takeNumber_43 : decode cX8_takeNumber 43 = .ok (.invokevirtual 247, 3) := by decide +kernel
theorem dX8_takeNumber_46 : decode cX8_takeNumber 46 = .ok (.bipush 48, 2) := by decide +kernel
theorem dX8_takeNumber_48 : decode cX8_takeNumber 48 = .ok (.bipush 57, 2) := by decide +kernel
theorem dX8_takeNumber_50 : decode cX8_takeNumber 50 = .ok (.invokestatic 65, 3) := by decide +kernel
theorem dX8_takeNumber_53 : decode cX8_takeNumber 53 = .ok (.ifCond .eq 61, 3) := by decide +kernel
theorem dX8_takeNumber_56 : decode cX8_takeNumber 56 = .ok (.bipush 10, 2) := by decide +kernel
theorem dX8_takeNumber_58 : decode cX8_takeNumber 58 = .ok (.aload_n 0, 1) := by decide +kernel
theorem dX8_takeNumber_59 : decode cX8_takeNumber 59 = .ok (.getfield 62, 3) := by decide +kernel
theorem dX8_takeNumber_62 : decode cX8_takeNumber 62 = .ok (.iload_n 2, 1) := by decide +kernel
theorem dX8_takeNumber_63 : decode cX8_takeNumber 63 = .ok (.iaload, 1) := by decide +kernel
theorem dX8_takeNumber_64 : decode cX8_takeNumber 64 = .ok (.imul, 1) := by decide +kernel
theorem dX8_takeNumber_65 : decode cX8_takeNumber 65 = .ok (.aload_n 0, 1) := by decide +kernel
theorem dX8_takeNumber_66 : decode cX8_takeNumber 66 = .ok (.invokevirtual 247, 3) := by decide +kernel
theorem dX8_takeNumber_69 : decode cX8_takeNumber 69 = .ok (.iadd, 1) := by decide +kernel
theorem dX8_takeNumber_70 : decode cX8_takeNumber 70 = .ok (.bipush 48, 2) := by decide +kernel
theorem dX8_takeNumber_72 : decode cX8_takeNumber 72 = .ok (.isub, 1) := by decide +kernel
theorem dX8_takeNumber_73 : decode cX8_takeNumber 73 = .ok (.istore 4, 2) := by decide +kernel
theorem dX8_takeNumber_75 : decode cX8_takeNumber 75 = .ok (.iload 4, 2) := by decide +kernel
theorem dX8_takeNumber_77 : decode cX8_takeNumber 77 = .ok (.sipush 4999, 3) := by decide +kernel
theorem dX8_takeNumber_80 : decode cX8_takeNumber 80 = .ok (.if_icmp .le 13, 3) := by decide +kernel
theorem dX8_takeNumber_83 : decode cX8_takeNumber 83 = .ok (.aload_n 0, 1) := by decide +kernel
theorem dX8_takeNumber_84 : decode cX8_takeNumber 84 = .ok (.iconst 1, 1) := by decide +kernel
theorem dX8_takeNumber_85 : decode cX8_takeNumber 85 = .ok (.putfield 243, 3) := by decide +kernel
theorem dX8_takeNumber_88 : decode cX8_takeNumber 88 = .ok (.iconst 0, 1) := by decide +kernel
theorem dX8_takeNumber_89 : decode cX8_takeNumber 89 = .ok (.istore_n 3, 1) := by decide +kernel
theorem dX8_takeNumber_90 : decode cX8_takeNumber 90 = .ok (.goto 21, 3) := by decide +kernel
theorem dX8_takeNumber_93 : decode cX8_takeNumber 93 = .ok (.aload_n 0, 1) := by decide +kernel
theorem dX8_takeNumber_94 : decode cX8_takeNumber 94 = .ok (.getfield 62, 3) := by decide +kernel
theorem dX8_takeNumber_97 : decode cX8_takeNumber 97 = .ok (.iload_n 2, 1) := by decide +kernel
theorem dX8_takeNumber_98 : decode cX8_takeNumber 98 = .ok (.iload 4, 2) := by decide +kernel
theorem dX8_takeNumber_100 : decode cX8_takeNumber 100 = .ok (.iastore, 1) := by decide +kernel
theorem dX8_takeNumber_101 : decode cX8_takeNumber 101 = .ok (.aload_n 0, 1) := by decide +kernel
theorem dX8_takeNumber_102 : decode cX8_takeNumber 102 = .ok (.dup, 1) := by decide +kernel
theorem dX8_takeNumber_103 : decode cX8_takeNumber 103 = .ok (.getfield 240, 3) := by decide +kernel
theorem dX8_takeNumber_106 : decode cX8_takeNumber 106 = .ok (.iconst 1, 1) := by decide +kernel
theorem dX8_takeNumber_107 : decode cX8_takeNumber 107 = .ok (.iadd, 1) := by decide +kernel
theorem dX8_takeNumber_108 : decode cX8_takeNumber 108 = .ok (.putfield 240, 3) := by decide +kernel
theorem dX8_takeNumber_111 : decode cX8_takeNumber 111 = .ok (.goto (-73), 3) := by decide +kernel
theorem dX8_takeNumber_114 : decode cX8_takeNumber 114 = .ok (.return_, 1) := by decide +kernel
theorem dX8_takeIf_0 : decode cX8_takeIf 0 = .ok (.aload_n 0, 1) := by decide +kernel
theorem dX8_takeIf_1 : decode cX8_takeIf 1 = .ok (.getfield 243, 3) := by decide +kernel
theorem dX8_takeIf_4 : decode cX8_takeIf 4 = .ok (.ifCond .ne 15, 3) := by decide +kernel
theorem dX8_takeIf_7 : decode cX8_takeIf 7 = .ok (.aload_n 0, 1) := by decide +kernel
theorem dX8_takeIf_8 : decode cX8_takeIf 8 = .ok (.invokevirtual 247, 3) := by decide +kernel
theorem dX8_takeIf_11 : decode cX8_takeIf 11 = .ok (.iload_n 1, 1) := by decide +kernel
theorem dX8_takeIf_12 : decode cX8_takeIf 12 = .ok (.if_icmp .ne 7, 3) := by decide +kernel
theorem dX8_takeIf_15 : decode cX8_takeIf 15 = .ok (.iconst 1, 1) := by decide +kernel
theorem dX8_takeIf_16 : decode cX8_takeIf 16 = .ok (.goto 4, 3) := by decide +kernel
theorem dX8_takeIf_19 : decode cX8_takeIf 19 = .ok (.iconst 0, 1) := by decide +kernel
theorem dX8_takeIf_20 : decode cX8_takeIf 20 = .ok (.istore_n 3, 1) := by decide +kernel
theorem dX8_takeIf_21 : decode cX8_takeIf 21 = .ok (.aload_n 0, 1) := by decide +kernel
theorem dX8_takeIf_22 : decode cX8_takeIf 22 = .ok (.dup, 1) := by decide +kernel
theorem dX8_takeIf_23 : decode cX8_takeIf 23 = .ok (.getfield 240, 3) := by decide +kernel
theorem dX8_takeIf_26 : decode cX8_takeIf 26 = .ok (.iload_n 3, 1) := by decide +kernel
theorem dX8_takeIf_27 : decode cX8_takeIf 27 = .ok (.ifCond .eq 7, 3) := by decide +kernel
theorem dX8_takeIf_30 : decode cX8_takeIf 30 = .ok (.iconst 1, 1) := by decide +kernel
theorem dX8_takeIf_31 : decode cX8_takeIf 31 = .ok (.goto 4, 3) := by decide +kernel
theorem dX8_takeIf_34 : decode cX8_takeIf 34 = .ok (.iconst 0, 1) := by decide +kernel
theorem dX8_takeIf_35 : decode cX8_takeIf 35 = .ok (.iadd, 1) := by decide +kernel
theorem dX8_takeIf_36 : decode cX8_takeIf 36 = .ok (.putfield 240, 3) := by decide +kernel
theorem dX8_takeIf_39 : decode cX8_takeIf 39 = .ok (.aload_n 0, 1) := by decide +kernel
theorem dX8_takeIf_40 : decode cX8_takeIf 40 = .ok (.getfield 62, 3) := by decide +kernel
theorem dX8_takeIf_43 : decode cX8_takeIf 43 = .ok (.iconst 4, 1) := by decide +kernel
theorem dX8_takeIf_44 : decode cX8_takeIf 44 = .ok (.aload_n 0, 1) := by decide +kernel
theorem dX8_takeIf_45 : decode cX8_takeIf 45 = .ok (.getfield 250, 3) := by decide +kernel
theorem dX8_takeIf_48 : decode cX8_takeIf 48 = .ok (.imul, 1) := by decide +kernel
theorem dX8_takeIf_49 : decode cX8_takeIf 49 = .ok (.iload_n 2, 1) := by decide +kernel
theorem dX8_takeIf_50 : decode cX8_takeIf 50 = .ok (.iadd, 1) := by decide +kernel
theorem dX8_takeIf_51 : decode cX8_takeIf 51 = .ok (.iload_n 3, 1) := by decide +kernel
theorem dX8_takeIf_52 : decode cX8_takeIf 52 = .ok (.ifCond .eq 7, 3) := by decide +kernel
theorem dX8_takeIf_55 : decode cX8_takeIf 55 = .ok (.iconst 1, 1) := by decide +kernel
theorem dX8_takeIf_56 : decode cX8_takeIf 56 = .ok (.goto 4, 3) := by decide +kernel
theorem dX8_takeIf_59 : decode cX8_takeIf 59 = .ok (.iconst 0, 1) := by decide +kernel
theorem dX8_takeIf_60 : decode cX8_takeIf 60 = .ok (.iastore, 1) := by decide +kernel
theorem dX8_takeIf_61 : decode cX8_takeIf 61 = .ok (.return_, 1) := by decide +kernel
theorem dX8_takeOrder_0 : decode cX8_takeOrder 0 = .ok (.aload_n 0, 1) := by decide +kernel
theorem dX8_takeOrder_1 : decode cX8_takeOrder 1 = .ok (.invokevirtual 247, 3) := by decide +kernel
theorem dX8_takeOrder_4 : decode cX8_takeOrder 4 = .ok (.istore_n 1, 1) := by decide +kernel
theorem dX8_takeOrder_5 : decode cX8_takeOrder 5 = .ok (.aload_n 0, 1) := by decide +kernel
theorem dX8_takeOrder_6 : decode cX8_takeOrder 6 = .ok (.dup, 1) := by decide +kernel
theorem dX8_takeOrder_7 : decode cX8_takeOrder 7 = .ok (.getfield 240, 3) := by decide +kernel
theorem dX8_takeOrder_10 : decode cX8_takeOrder 10 = .ok (.iconst 1, 1) := by decide +kernel
theorem dX8_takeOrder_11 : decode cX8_takeOrder 11 = .ok (.iadd, 1) := by decide +kernel
theorem dX8_takeOrder_12 : decode cX8_takeOrder 12 = .ok (.putfield 240, 3) := by decide +kernel
theorem dX8_takeOrder_15 : decode cX8_takeOrder 15 = .ok (.iload_n 1, 1) := by decide +kernel
theorem dX8_takeOrder_16 : decode cX8_takeOrder 16 = .ok (.lookupswitch 130 #[(102, 85), (114, 122), (115, 44), (116, 122)], 44) := by decide +kernel
theorem dX8_takeOrder_60 : decode cX8_takeOrder 60 = .ok (.aload_n 0, 1) := by decide +kernel
theorem dX8_takeOrder_61 : decode cX8_takeOrder 61 = .ok (.iconst 0, 1) := by decide +kernel
theorem dX8_takeOrder_62 : decode cX8_takeOrder 62 = .ok (.bipush 55, 2) := by decide +kernel
theorem dX8_takeOrder_64 : decode cX8_takeOrder 64 = .ok (.invokevirtual 253, 3) := by decide +kernel
theorem dX8_takeOrder_67 : decode cX8_takeOrder 67 = .ok (.aload_n 0, 1) := by decide +kernel
theorem dX8_takeOrder_68 : decode cX8_takeOrder 68 = .ok (.bipush 62, 2) := by decide +kernel
theorem dX8_takeOrder_70 : decode cX8_takeOrder 70 = .ok (.invokevirtual 256, 3) := by decide +kernel
theorem dX8_takeOrder_73 : decode cX8_takeOrder 73 = .ok (.aload_n 0, 1) := by decide +kernel
theorem dX8_takeOrder_74 : decode cX8_takeOrder 74 = .ok (.iconst 1, 1) := by decide +kernel
theorem dX8_takeOrder_75 : decode cX8_takeOrder 75 = .ok (.bipush 55, 2) := by decide +kernel
theorem dX8_takeOrder_77 : decode cX8_takeOrder 77 = .ok (.invokevirtual 253, 3) := by decide +kernel
theorem dX8_takeOrder_80 : decode cX8_takeOrder 80 = .ok (.aload_n 0, 1) := by decide +kernel
theorem dX8_takeOrder_81 : decode cX8_takeOrder 81 = .ok (.bipush 42, 2) := by decide +kernel
theorem dX8_takeOrder_83 : decode cX8_takeOrder 83 = .ok (.invokevirtual 256, 3) := by decide +kernel
theorem dX8_takeOrder_86 : decode cX8_takeOrder 86 = .ok (.aload_n 0, 1) := by decide +kernel
theorem dX8_takeOrder_87 : decode cX8_takeOrder 87 = .ok (.iconst 2, 1) := by decide +kernel
theorem dX8_takeOrder_88 : decode cX8_takeOrder 88 = .ok (.invokevirtual 259, 3) := by decide +kernel
theorem dX8_takeOrder_91 : decode cX8_takeOrder 91 = .ok (.aload_n 0, 1) := by decide +kernel
theorem dX8_takeOrder_92 : decode cX8_takeOrder 92 = .ok (.bipush 33, 2) := by decide +kernel
theorem dX8_takeOrder_94 : decode cX8_takeOrder 94 = .ok (.iconst 3, 1) := by decide +kernel
theorem dX8_takeOrder_95 : decode cX8_takeOrder 95 = .ok (.invokevirtual 262, 3) := by decide +kernel
theorem dX8_takeOrder_98 : decode cX8_takeOrder 98 = .ok (.goto 63, 3) := by decide +kernel
theorem dX8_takeOrder_101 : decode cX8_takeOrder 101 = .ok (.aload_n 0, 1) := by decide +kernel
theorem dX8_takeOrder_102 : decode cX8_takeOrder 102 = .ok (.iconst 0, 1) := by decide +kernel
theorem dX8_takeOrder_103 : decode cX8_takeOrder 103 = .ok (.invokevirtual 259, 3) := by decide +kernel
theorem dX8_takeOrder_106 : decode cX8_takeOrder 106 = .ok (.aload_n 0, 1) := by decide +kernel
theorem dX8_takeOrder_107 : decode cX8_takeOrder 107 = .ok (.bipush 43, 2) := by decide +kernel
theorem dX8_takeOrder_109 : decode cX8_takeOrder 109 = .ok (.invokevirtual 256, 3) := by decide +kernel
theorem dX8_takeOrder_112 : decode cX8_takeOrder 112 = .ok (.aload_n 0, 1) := by decide +kernel
theorem dX8_takeOrder_113 : decode cX8_takeOrder 113 = .ok (.iconst 1, 1) := by decide +kernel
theorem dX8_takeOrder_114 : decode cX8_takeOrder 114 = .ok (.invokevirtual 259, 3) := by decide +kernel
theorem dX8_takeOrder_117 : decode cX8_takeOrder 117 = .ok (.aload_n 0, 1) := by decide +kernel
theorem dX8_takeOrder_118 : decode cX8_takeOrder 118 = .ok (.bipush 42, 2) := by decide +kernel
theorem dX8_takeOrder_120 : decode cX8_takeOrder 120 = .ok (.invokevirtual 256, 3) := by decide +kernel
theorem dX8_takeOrder_123 : decode cX8_takeOrder 123 = .ok (.aload_n 0, 1) := by decide +kernel
theorem dX8_takeOrder_124 : decode cX8_takeOrder 124 = .ok (.iconst 2, 1) := by decide +kernel
theorem dX8_takeOrder_125 : decode cX8_takeOrder 125 = .ok (.invokevirtual 259, 3) := by decide +kernel
theorem dX8_takeOrder_128 : decode cX8_takeOrder 128 = .ok (.aload_n 0, 1) := by decide +kernel
theorem dX8_takeOrder_129 : decode cX8_takeOrder 129 = .ok (.bipush 46, 2) := by decide +kernel
theorem dX8_takeOrder_131 : decode cX8_takeOrder 131 = .ok (.iconst 3, 1) := by decide +kernel
theorem dX8_takeOrder_132 : decode cX8_takeOrder 132 = .ok (.invokevirtual 262, 3) := by decide +kernel
theorem dX8_takeOrder_135 : decode cX8_takeOrder 135 = .ok (.goto 26, 3) := by decide +kernel
theorem dX8_takeOrder_138 : decode cX8_takeOrder 138 = .ok (.aload_n 0, 1) := by decide +kernel
theorem dX8_takeOrder_139 : decode cX8_takeOrder 139 = .ok (.iconst 0, 1) := by decide +kernel
theorem dX8_takeOrder_140 : decode cX8_takeOrder 140 = .ok (.invokevirtual 259, 3) := by decide +kernel
theorem dX8_takeOrder_143 : decode cX8_takeOrder 143 = .ok (.goto 18, 3) := by decide +kernel
theorem dX8_takeOrder_146 : decode cX8_takeOrder 146 = .ok (.aload_n 0, 1) := by decide +kernel
theorem dX8_takeOrder_147 : decode cX8_takeOrder 147 = .ok (.dup, 1) := by decide +kernel
theorem dX8_takeOrder_148 : decode cX8_takeOrder 148 = .ok (.getfield 240, 3) := by decide +kernel
theorem dX8_takeOrder_151 : decode cX8_takeOrder 151 = .ok (.iconst 1, 1) := by decide +kernel
theorem dX8_takeOrder_152 : decode cX8_takeOrder 152 = .ok (.isub, 1) := by decide +kernel
theorem dX8_takeOrder_153 : decode cX8_takeOrder 153 = .ok (.putfield 240, 3) := by decide +kernel
theorem dX8_takeOrder_156 : decode cX8_takeOrder 156 = .ok (.aload_n 0, 1) := by decide +kernel
theorem dX8_takeOrder_157 : decode cX8_takeOrder 157 = .ok (.iconst 1, 1) := by decide +kernel
theorem dX8_takeOrder_158 : decode cX8_takeOrder 158 = .ok (.putfield 243, 3) := by decide +kernel
theorem dX8_takeOrder_161 : decode cX8_takeOrder 161 = .ok (.aload_n 0, 1) := by decide +kernel
theorem dX8_takeOrder_162 : decode cX8_takeOrder 162 = .ok (.getfield 243, 3) := by decide +kernel
theorem dX8_takeOrder_165 : decode cX8_takeOrder 165 = .ok (.ifCond .ne 23, 3) := by decide +kernel
theorem dX8_takeOrder_168 : decode cX8_takeOrder 168 = .ok (.aload_n 0, 1) := by decide +kernel
theorem dX8_takeOrder_169 : decode cX8_takeOrder 169 = .ok (.getfield 59, 3) := by decide +kernel
theorem dX8_takeOrder_172 : decode cX8_takeOrder 172 = .ok (.aload_n 0, 1) := by decide +kernel
theorem dX8_takeOrder_173 : decode cX8_takeOrder 173 = .ok (.getfield 250, 3) := by decide +kernel
theorem dX8_takeOrder_176 : decode cX8_takeOrder 176 = .ok (.iload_n 1, 1) := by decide +kernel
theorem dX8_takeOrder_177 : decode cX8_takeOrder 177 = .ok (.iastore, 1) := by decide +kernel
theorem dX8_takeOrder_178 : decode cX8_takeOrder 178 = .ok (.aload_n 0, 1) := by decide +kernel
theorem dX8_takeOrder_179 : decode cX8_takeOrder 179 = .ok (.dup, 1) := by decide +kernel
theorem dX8_takeOrder_180 : decode cX8_takeOrder 180 = .ok (.getfield 250, 3) := by decide +kernel
theorem dX8_takeOrder_183 : decode cX8_takeOrder 183 = .ok (.iconst 1, 1) := by decide +kernel
theorem dX8_takeOrder_184 : decode cX8_takeOrder 184 = .ok (.iadd, 1) := by decide +kernel
theorem dX8_takeOrder_185 : decode cX8_takeOrder 185 = .ok (.putfield 250, 3) := by decide +kernel
theorem dX8_takeOrder_188 : decode cX8_takeOrder 188 = .ok (.return_, 1) := by decide +kernel
theorem dX8_fault_0 : decode cX8_fault 0 = .ok (.aload_n 0, 1) := by decide +kernel
theorem dX8_fault_1 : decode cX8_fault 1 = .ok (.iconst 0, 1) := by decide +kernel
theorem dX8_fault_2 : decode cX8_fault 2 = .ok (.putfield 240, 3) := by decide +kernel
theorem dX8_fault_5 : decode cX8_fault 5 = .ok (.aload_n 0, 1) := by decide +kernel
theorem dX8_fault_6 : decode cX8_fault 6 = .ok (.iconst 0, 1) := by decide +kernel
theorem dX8_fault_7 : decode cX8_fault 7 = .ok (.putfield 243, 3) := by decide +kernel
theorem dX8_fault_10 : decode cX8_fault 10 = .ok (.aload_n 0, 1) := by decide +kernel
theorem dX8_fault_11 : decode cX8_fault 11 = .ok (.iconst 0, 1) := by decide +kernel
theorem dX8_fault_12 : decode cX8_fault 12 = .ok (.putfield 250, 3) := by decide +kernel
theorem dX8_fault_15 : decode cX8_fault 15 = .ok (.aload_n 0, 1) := by decide +kernel
theorem dX8_fault_16 : decode cX8_fault 16 = .ok (.invokevirtual 265, 3) := by decide +kernel
theorem dX8_fault_19 : decode cX8_fault 19 = .ok (.aload_n 0, 1) := by decide +kernel
theorem dX8_fault_20 : decode cX8_fault 20 = .ok (.getfield 243, 3) := by decide +kernel
theorem dX8_fault_23 : decode cX8_fault 23 = .ok (.ifCond .ne 34, 3) := by decide +kernel
theorem dX8_fault_26 : decode cX8_fault 26 = .ok (.aload_n 0, 1) := by decide +kernel
theorem dX8_fault_27 : decode cX8_fault 27 = .ok (.getfield 240, 3) := by decide +kernel
theorem dX8_fault_30 : decode cX8_fault 30 = .ok (.aload_n 0, 1) := by decide +kernel
theorem dX8_fault_31 : decode cX8_fault 31 = .ok (.getfield 211, 3) := by decide +kernel
theorem dX8_fault_34 : decode cX8_fault 34 = .ok (.if_icmp .ge 23, 3) := by decide +kernel
theorem dX8_fault_37 : decode cX8_fault 37 = .ok (.aload_n 0, 1) := by decide +kernel
theorem dX8_fault_38 : decode cX8_fault 38 = .ok (.bipush 59, 2) := by decide +kernel
theorem dX8_fault_40 : decode cX8_fault 40 = .ok (.invokevirtual 256, 3) := by decide +kernel
theorem dX8_fault_43 : decode cX8_fault 43 = .ok (.aload_n 0, 1) := by decide +kernel
theorem dX8_fault_44 : decode cX8_fault 44 = .ok (.getfield 243, 3) := by decide +kernel
theorem dX8_fault_47 : decode cX8_fault 47 = .ok (.ifCond .ne (-28), 3) := by decide +kernel
theorem dX8_fault_50 : decode cX8_fault 50 = .ok (.aload_n 0, 1) := by decide +kernel
theorem dX8_fault_51 : decode cX8_fault 51 = .ok (.invokevirtual 265, 3) := by decide +kernel
theorem dX8_fault_54 : decode cX8_fault 54 = .ok (.goto (-35), 3) := by decide +kernel
theorem dX8_fault_57 : decode cX8_fault 57 = .ok (.aload_n 0, 1) := by decide +kernel
theorem dX8_fault_58 : decode cX8_fault 58 = .ok (.getfield 243, 3) := by decide +kernel
theorem dX8_fault_61 : decode cX8_fault 61 = .ok (.ifCond .eq 10, 3) := by decide +kernel
theorem dX8_fault_64 : decode cX8_fault 64 = .ok (.aload_n 0, 1) := by decide +kernel
theorem dX8_fault_65 : decode cX8_fault 65 = .ok (.getfield 240, 3) := by decide +kernel
theorem dX8_fault_68 : decode cX8_fault 68 = .ok (.goto 5, 3) := by decide +kernel
theorem dX8_fault_71 : decode cX8_fault 71 = .ok (.bipush (-6), 2) := by decide +kernel
theorem dX8_fault_73 : decode cX8_fault 73 = .ok (.ireturn, 1) := by decide +kernel
theorem dX8_carry_0 : decode cX8_carry 0 = .ok (.iconst 4, 1) := by decide +kernel
theorem dX8_carry_1 : decode cX8_carry 1 = .ok (.iload_n 1, 1) := by decide +kernel
theorem dX8_carry_2 : decode cX8_carry 2 = .ok (.imul, 1) := by decide +kernel
theorem dX8_carry_3 : decode cX8_carry 3 = .ok (.istore_n 2, 1) := by decide +kernel
theorem dX8_carry_4 : decode cX8_carry 4 = .ok (.aload_n 0, 1) := by decide +kernel
theorem dX8_carry_5 : decode cX8_carry 5 = .ok (.getfield 59, 3) := by decide +kernel
theorem dX8_carry_8 : decode cX8_carry 8 = .ok (.iload_n 1, 1) := by decide +kernel
theorem dX8_carry_9 : decode cX8_carry 9 = .ok (.iaload, 1) := by decide +kernel
theorem dX8_carry_10 : decode cX8_carry 10 = .ok (.lookupswitch 125 #[(102, 74), (114, 113), (115, 34)], 34) := by decide +kernel
theorem dX8_carry_44 : decode cX8_carry 44 = .ok (.aload_n 0, 1) := by decide +kernel
theorem dX8_carry_45 : decode cX8_carry 45 = .ok (.aload_n 0, 1) := by decide +kernel
theorem dX8_carry_46 : decode cX8_carry 46 = .ok (.getfield 62, 3) := by decide +kernel
theorem dX8_carry_49 : decode cX8_carry 49 = .ok (.iload_n 2, 1) := by decide +kernel
theorem dX8_carry_50 : decode cX8_carry 50 = .ok (.iaload, 1) := by decide +kernel
theorem dX8_carry_51 : decode cX8_carry 51 = .ok (.aload_n 0, 1) := by decide +kernel
theorem dX8_carry_52 : decode cX8_carry 52 = .ok (.getfield 62, 3) := by decide +kernel
theorem dX8_carry_55 : decode cX8_carry 55 = .ok (.iload_n 2, 1) := by decide +kernel
theorem dX8_carry_56 : decode cX8_carry 56 = .ok (.iconst 1, 1) := by decide +kernel
theorem dX8_carry_57 : decode cX8_carry 57 = .ok (.iadd, 1) := by decide +kernel
theorem dX8_carry_58 : decode cX8_carry 58 = .ok (.iaload, 1) := by decide +kernel
theorem dX8_carry_59 : decode cX8_carry 59 = .ok (.aload_n 0, 1) := by decide +kernel
theorem dX8_carry_60 : decode cX8_carry 60 = .ok (.getfield 62, 3) := by decide +kernel
theorem dX8_carry_63 : decode cX8_carry 63 = .ok (.iload_n 2, 1) := by decide +kernel
theorem dX8_carry_64 : decode cX8_carry 64 = .ok (.iconst 2, 1) := by decide +kernel
theorem dX8_carry_65 : decode cX8_carry 65 = .ok (.iadd, 1) := by decide +kernel
theorem dX8_carry_66 : decode cX8_carry 66 = .ok (.iaload, 1) := by decide +kernel
theorem dX8_carry_67 : decode cX8_carry 67 = .ok (.iconst 0, 1) := by decide +kernel
theorem dX8_carry_68 : decode cX8_carry 68 = .ok (.bipush 41, 2) := by decide +kernel
theorem dX8_carry_70 : decode cX8_carry 70 = .ok (.aload_n 0, 1) := by decide +kernel
theorem dX8_carry_71 : decode cX8_carry 71 = .ok (.getfield 62, 3) := by decide +kernel
theorem dX8_carry_74 : decode cX8_carry 74 = .ok (.iload_n 2, 1) := by decide +kernel
theorem dX8_carry_75 : decode cX8_carry 75 = .ok (.iconst 3, 1) := by decide +kernel
theorem dX8_carry_76 : decode cX8_carry 76 = .ok (.iadd, 1) := by decide +kernel
theorem dX8_carry_77 : decode cX8_carry 77 = .ok (.iaload, 1) := by decide +kernel
theorem dX8_carry_78 : decode cX8_carry 78 = .ok (.isub, 1) := by decide +kernel
theorem dX8_carry_79 : decode cX8_carry 79 = .ok (.iconst 0, 1) := by decide +kernel
theorem dX8_carry_80 : decode cX8_carry 80 = .ok (.invokevirtual 127, 3) := by decide +kernel
theorem dX8_carry_83 : decode cX8_carry 83 = .ok (.ireturn, 1) := by decide +kernel
theorem dX8_carry_84 : decode cX8_carry 84 = .ok (.aload_n 0, 1) := by decide +kernel
theorem dX8_carry_85 : decode cX8_carry 85 = .ok (.aload_n 0, 1) := by decide +kernel
theorem dX8_carry_86 : decode cX8_carry 86 = .ok (.getfield 62, 3) := by decide +kernel
theorem dX8_carry_89 : decode cX8_carry 89 = .ok (.iload_n 2, 1) := by decide +kernel
theorem dX8_carry_90 : decode cX8_carry 90 = .ok (.iaload, 1) := by decide +kernel
theorem dX8_carry_91 : decode cX8_carry 91 = .ok (.aload_n 0, 1) := by decide +kernel
theorem dX8_carry_92 : decode cX8_carry 92 = .ok (.getfield 62, 3) := by decide +kernel
theorem dX8_carry_95 : decode cX8_carry 95 = .ok (.iload_n 2, 1) := by decide +kernel
theorem dX8_carry_96 : decode cX8_carry 96 = .ok (.iconst 1, 1) := by decide +kernel
theorem dX8_carry_97 : decode cX8_carry 97 = .ok (.iadd, 1) := by decide +kernel
theorem dX8_carry_98 : decode cX8_carry 98 = .ok (.iaload, 1) := by decide +kernel
theorem dX8_carry_99 : decode cX8_carry 99 = .ok (.aload_n 0, 1) := by decide +kernel
theorem dX8_carry_100 : decode cX8_carry 100 = .ok (.getfield 62, 3) := by decide +kernel
theorem dX8_carry_103 : decode cX8_carry 103 = .ok (.iload_n 2, 1) := by decide +kernel
theorem dX8_carry_104 : decode cX8_carry 104 = .ok (.iconst 2, 1) := by decide +kernel
theorem dX8_carry_105 : decode cX8_carry 105 = .ok (.iadd, 1) := by decide +kernel
theorem dX8_carry_106 : decode cX8_carry 106 = .ok (.iaload, 1) := by decide +kernel
theorem dX8_carry_107 : decode cX8_carry 107 = .ok (.aload_n 0, 1) := by decide +kernel
theorem dX8_carry_108 : decode cX8_carry 108 = .ok (.getfield 62, 3) := by decide +kernel
theorem dX8_carry_111 : decode cX8_carry 111 = .ok (.iload_n 2, 1) := by decide +kernel
theorem dX8_carry_112 : decode cX8_carry 112 = .ok (.iconst 3, 1) := by decide +kernel
theorem dX8_carry_113 : decode cX8_carry 113 = .ok (.iadd, 1) := by decide +kernel
theorem dX8_carry_114 : decode cX8_carry 114 = .ok (.iaload, 1) := by decide +kernel
theorem dX8_carry_115 : decode cX8_carry 115 = .ok (.sipush 255, 3) := by decide +kernel
theorem dX8_carry_118 : decode cX8_carry 118 = .ok (.iconst 0, 1) := by decide +kernel
theorem dX8_carry_119 : decode cX8_carry 119 = .ok (.invokevirtual 138, 3) := by decide +kernel
theorem dX8_carry_122 : decode cX8_carry 122 = .ok (.ireturn, 1) := by decide +kernel
theorem dX8_carry_123 : decode cX8_carry 123 = .ok (.aload_n 0, 1) := by decide +kernel
theorem dX8_carry_124 : decode cX8_carry 124 = .ok (.aload_n 0, 1) := by decide +kernel
theorem dX8_carry_125 : decode cX8_carry 125 = .ok (.getfield 62, 3) := by decide +kernel
theorem dX8_carry_128 : decode cX8_carry 128 = .ok (.iload_n 2, 1) := by decide +kernel
theorem dX8_carry_129 : decode cX8_carry 129 = .ok (.iaload, 1) := by decide +kernel
theorem dX8_carry_130 : decode cX8_carry 130 = .ok (.iconst 0, 1) := by decide +kernel
theorem dX8_carry_131 : decode cX8_carry 131 = .ok (.invokevirtual 134, 3) := by decide +kernel
theorem dX8_carry_134 : decode cX8_carry 134 = .ok (.ireturn, 1) := by decide +kernel
theorem dX8_carry_135 : decode cX8_carry 135 = .ok (.aload_n 0, 1) := by decide +kernel
theorem dX8_carry_136 : decode cX8_carry 136 = .ok (.aload_n 0, 1) := by decide +kernel
theorem dX8_carry_137 : decode cX8_carry 137 = .ok (.getfield 62, 3) := by decide +kernel
theorem dX8_carry_140 : decode cX8_carry 140 = .ok (.iload_n 2, 1) := by decide +kernel
theorem dX8_carry_141 : decode cX8_carry 141 = .ok (.iaload, 1) := by decide +kernel
theorem dX8_carry_142 : decode cX8_carry 142 = .ok (.iconst 0, 1) := by decide +kernel
theorem dX8_carry_143 : decode cX8_carry 143 = .ok (.invokevirtual 196, 3) := by decide +kernel
theorem dX8_carry_146 : decode cX8_carry 146 = .ok (.ireturn, 1) := by decide +kernel
theorem dX8_carryOut_0 : decode cX8_carryOut 0 = .ok (.aload_n 0, 1) := by decide +kernel
theorem dX8_carryOut_1 : decode cX8_carryOut 1 = .ok (.invokevirtual 268, 3) := by decide +kernel
theorem dX8_carryOut_4 : decode cX8_carryOut 4 = .ok (.ifCond .lt 6, 3) := by decide +kernel
theorem dX8_carryOut_7 : decode cX8_carryOut 7 = .ok (.bipush (-3), 2) := by decide +kernel
theorem dX8_carryOut_9 : decode cX8_carryOut 9 = .ok (.ireturn, 1) := by decide +kernel
theorem dX8_carryOut_10 : decode cX8_carryOut 10 = .ok (.aload_n 0, 1) := by decide +kernel
theorem dX8_carryOut_11 : decode cX8_carryOut 11 = .ok (.invokevirtual 84, 3) := by decide +kernel
theorem dX8_carryOut_14 : decode cX8_carryOut 14 = .ok (.iconst 0, 1) := by decide +kernel
theorem dX8_carryOut_15 : decode cX8_carryOut 15 = .ok (.istore_n 1, 1) := by decide +kernel
theorem dX8_carryOut_16 : decode cX8_carryOut 16 = .ok (.iload_n 1, 1) := by decide +kernel
theorem dX8_carryOut_17 : decode cX8_carryOut 17 = .ok (.aload_n 0, 1) := by decide +kernel
theorem dX8_carryOut_18 : decode cX8_carryOut 18 = .ok (.getfield 250, 3) := by decide +kernel
theorem dX8_carryOut_21 : decode cX8_carryOut 21 = .ok (.if_icmp .ge 17, 3) := by decide +kernel
theorem dX8_carryOut_24 : decode cX8_carryOut 24 = .ok (.aload_n 0, 1) := by decide +kernel
theorem dX8_carryOut_25 : decode cX8_carryOut 25 = .ok (.iload_n 1, 1) := by decide +kernel
theorem dX8_carryOut_26 : decode cX8_carryOut 26 = .ok (.invokevirtual 271, 3) := by decide +kernel
theorem dX8_carryOut_29 : decode cX8_carryOut 29 = .ok (.ifCond .lt 9, 3) := by decide +kernel
theorem dX8_carryOut_32 : decode cX8_carryOut 32 = .ok (.iinc 1 1, 3) := by decide +kernel
theorem dX8_carryOut_35 : decode cX8_carryOut 35 = .ok (.goto (-19), 3) := by decide +kernel
theorem dX8_carryOut_38 : decode cX8_carryOut 38 = .ok (.aload_n 0, 1) := by decide +kernel
theorem dX8_carryOut_39 : decode cX8_carryOut 39 = .ok (.iconst 0, 1) := by decide +kernel
theorem dX8_carryOut_40 : decode cX8_carryOut 40 = .ok (.putfield 211, 3) := by decide +kernel
theorem dX8_carryOut_43 : decode cX8_carryOut 43 = .ok (.iload_n 1, 1) := by decide +kernel
theorem dX8_carryOut_44 : decode cX8_carryOut 44 = .ok (.ireturn, 1) := by decide +kernel
theorem dX8_undo_0 : decode cX8_undo 0 = .ok (.aload_n 0, 1) := by decide +kernel
theorem dX8_undo_1 : decode cX8_undo 1 = .ok (.getfield 73, 3) := by decide +kernel
theorem dX8_undo_4 : decode cX8_undo 4 = .ok (.ifCond .ne 6, 3) := by decide +kernel
theorem dX8_undo_7 : decode cX8_undo 7 = .ok (.bipush (-5), 2) := by decide +kernel
theorem dX8_undo_9 : decode cX8_undo 9 = .ok (.ireturn, 1) := by decide +kernel
theorem dX8_undo_10 : decode cX8_undo 10 = .ok (.aload_n 0, 1) := by decide +kernel
theorem dX8_undo_11 : decode cX8_undo 11 = .ok (.dup, 1) := by decide +kernel
theorem dX8_undo_12 : decode cX8_undo 12 = .ok (.getfield 73, 3) := by decide +kernel
theorem dX8_undo_15 : decode cX8_undo 15 = .ok (.iconst 1, 1) := by decide +kernel
theorem dX8_undo_16 : decode cX8_undo 16 = .ok (.isub, 1) := by decide +kernel
theorem dX8_undo_17 : decode cX8_undo 17 = .ok (.putfield 73, 3) := by decide +kernel
theorem dX8_undo_20 : decode cX8_undo 20 = .ok (.aload_n 0, 1) := by decide +kernel
theorem dX8_undo_21 : decode cX8_undo 21 = .ok (.getfield 77, 3) := by decide +kernel
theorem dX8_undo_24 : decode cX8_undo 24 = .ok (.aload_n 0, 1) := by decide +kernel
theorem dX8_undo_25 : decode cX8_undo 25 = .ok (.getfield 73, 3) := by decide +kernel
theorem dX8_undo_28 : decode cX8_undo 28 = .ok (.iadd, 1) := by decide +kernel
theorem dX8_undo_29 : decode cX8_undo 29 = .ok (.bipush 6, 2) := by decide +kernel
theorem dX8_undo_31 : decode cX8_undo 31 = .ok (.irem, 1) := by decide +kernel
theorem dX8_undo_32 : decode cX8_undo 32 = .ok (.istore_n 1, 1) := by decide +kernel
theorem dX8_undo_33 : decode cX8_undo 33 = .ok (.iconst 0, 1) := by decide +kernel
theorem dX8_undo_34 : decode cX8_undo 34 = .ok (.istore_n 2, 1) := by decide +kernel
theorem dX8_undo_35 : decode cX8_undo 35 = .ok (.iload_n 2, 1) := by decide +kernel
theorem dX8_undo_36 : decode cX8_undo 36 = .ok (.sipush 3506, 3) := by decide +kernel
theorem dX8_undo_39 : decode cX8_undo 39 = .ok (.if_icmp .ge 27, 3) := by decide +kernel
theorem dX8_undo_42 : decode cX8_undo 42 = .ok (.aload_n 0, 1) := by decide +kernel
theorem dX8_undo_43 : decode cX8_undo 43 = .ok (.getfield 7, 3) := by decide +kernel
theorem dX8_undo_46 : decode cX8_undo 46 = .ok (.iload_n 2, 1) := by decide +kernel
theorem dX8_undo_47 : decode cX8_undo 47 = .ok (.aload_n 0, 1) := by decide +kernel
theorem dX8_undo_48 : decode cX8_undo 48 = .ok (.getfield 17, 3) := by decide +kernel
theorem dX8_undo_51 : decode cX8_undo 51 = .ok (.sipush 3506, 3) := by decide +kernel
theorem dX8_undo_54 : decode cX8_undo 54 = .ok (.iload_n 1, 1) := by decide +kernel
theorem dX8_undo_55 : decode cX8_undo 55 = .ok (.imul, 1) := by decide +kernel
theorem dX8_undo_56 : decode cX8_undo 56 = .ok (.iload_n 2, 1) := by decide +kernel
theorem dX8_undo_57 : decode cX8_undo 57 = .ok (.iadd, 1) := by decide +kernel
theorem dX8_undo_58 : decode cX8_undo 58 = .ok (.iaload, 1) := by decide +kernel
theorem dX8_undo_59 : decode cX8_undo 59 = .ok (.iastore, 1) := by decide +kernel
theorem dX8_undo_60 : decode cX8_undo 60 = .ok (.iinc 2 1, 3) := by decide +kernel
theorem dX8_undo_63 : decode cX8_undo 63 = .ok (.goto (-28), 3) := by decide +kernel
theorem dX8_undo_66 : decode cX8_undo 66 = .ok (.iconst 0, 1) := by decide +kernel
theorem dX8_undo_67 : decode cX8_undo 67 = .ok (.istore_n 2, 1) := by decide +kernel
theorem dX8_undo_68 : decode cX8_undo 68 = .ok (.iload_n 2, 1) := by decide +kernel
theorem dX8_undo_69 : decode cX8_undo 69 = .ok (.aload_n 0, 1) := by decide +kernel
theorem dX8_undo_70 : decode cX8_undo 70 = .ok (.invokevirtual 80, 3) := by decide +kernel
theorem dX8_undo_73 : decode cX8_undo 73 = .ok (.if_icmp .ge 26, 3) := by decide +kernel
theorem dX8_undo_76 : decode cX8_undo 76 = .ok (.aload_n 0, 1) := by decide +kernel
theorem dX8_undo_77 : decode cX8_undo 77 = .ok (.getfield 14, 3) := by decide +kernel
theorem dX8_undo_80 : decode cX8_undo 80 = .ok (.iload_n 2, 1) := by decide +kernel
theorem dX8_undo_81 : decode cX8_undo 81 = .ok (.aload_n 0, 1) := by decide +kernel
theorem dX8_undo_82 : decode cX8_undo 82 = .ok (.getfield 21, 3) := by decide +kernel
theorem dX8_undo_85 : decode cX8_undo 85 = .ok (.ldc 13, 2) := by decide +kernel
theorem dX8_undo_87 : decode cX8_undo 87 = .ok (.iload_n 1, 1) := by decide +kernel
theorem dX8_undo_88 : decode cX8_undo 88 = .ok (.imul, 1) := by decide +kernel
theorem dX8_undo_89 : decode cX8_undo 89 = .ok (.iload_n 2, 1) := by decide +kernel
theorem dX8_undo_90 : decode cX8_undo 90 = .ok (.iadd, 1) := by decide +kernel
theorem dX8_undo_91 : decode cX8_undo 91 = .ok (.iaload, 1) := by decide +kernel
theorem dX8_undo_92 : decode cX8_undo 92 = .ok (.iastore, 1) := by decide +kernel
theorem dX8_undo_93 : decode cX8_undo 93 = .ok (.iinc 2 1, 3) := by decide +kernel
theorem dX8_undo_96 : decode cX8_undo 96 = .ok (.goto (-28), 3) := by decide +kernel
theorem dX8_undo_99 : decode cX8_undo 99 = .ok (.aload_n 0, 1) := by decide +kernel
theorem dX8_undo_100 : decode cX8_undo 100 = .ok (.getfield 73, 3) := by decide +kernel
theorem dX8_undo_103 : decode cX8_undo 103 = .ok (.ireturn, 1) := by decide +kernel
theorem dX8_save_0 : decode cX8_save 0 = .ok (.iload_n 1, 1) := by decide +kernel
theorem dX8_save_1 : decode cX8_save 1 = .ok (.iconst 0, 1) := by decide +kernel
theorem dX8_save_2 : decode cX8_save 2 = .ok (.iconst 1, 1) := by decide +kernel
theorem dX8_save_3 : decode cX8_save 3 = .ok (.invokestatic 65, 3) := by decide +kernel
theorem dX8_save_6 : decode cX8_save 6 = .ok (.ifCond .ne 6, 3) := by decide +kernel
theorem dX8_save_9 : decode cX8_save 9 = .ok (.bipush (-2), 2) := by decide +kernel
theorem dX8_save_11 : decode cX8_save 11 = .ok (.ireturn, 1) := by decide +kernel
theorem dX8_save_12 : decode cX8_save 12 = .ok (.iconst 0, 1) := by decide +kernel
theorem dX8_save_13 : decode cX8_save 13 = .ok (.istore_n 2, 1) := by decide +kernel
theorem dX8_save_14 : decode cX8_save 14 = .ok (.iload_n 2, 1) := by decide +kernel
theorem dX8_save_15 : decode cX8_save 15 = .ok (.sipush 3506, 3) := by decide +kernel
theorem dX8_save_18 : decode cX8_save 18 = .ok (.if_icmp .ge 27, 3) := by decide +kernel
theorem dX8_save_21 : decode cX8_save 21 = .ok (.aload_n 0, 1) := by decide +kernel
theorem dX8_save_22 : decode cX8_save 22 = .ok (.getfield 24, 3) := by decide +kernel
theorem dX8_save_25 : decode cX8_save 25 = .ok (.sipush 3506, 3) := by decide +kernel
theorem dX8_save_28 : decode cX8_save 28 = .ok (.iload_n 1, 1) := by decide +kernel
theorem dX8_save_29 : decode cX8_save 29 = .ok (.imul, 1) := by decide +kernel
theorem dX8_save_30 : decode cX8_save 30 = .ok (.iload_n 2, 1) := by decide +kernel
theorem dX8_save_31 : decode cX8_save 31 = .ok (.iadd, 1) := by decide +kernel
theorem dX8_save_32 : decode cX8_save 32 = .ok (.aload_n 0, 1) := by decide +kernel
theorem dX8_save_33 : decode cX8_save 33 = .ok (.getfield 7, 3) := by decide +kernel
theorem dX8_save_36 : decode cX8_save 36 = .ok (.iload_n 2, 1) := by decide +kernel
theorem dX8_save_37 : decode cX8_save 37 = .ok (.iaload, 1) := by decide +kernel
theorem dX8_save_38 : decode cX8_save 38 = .ok (.iastore, 1) := by decide +kernel
theorem dX8_save_39 : decode cX8_save 39 = .ok (.iinc 2 1, 3) := by decide +kernel
theorem dX8_save_42 : decode cX8_save 42 = .ok (.goto (-28), 3) := by decide +kernel
theorem dX8_save_45 : decode cX8_save 45 = .ok (.iconst 0, 1) := by decide +kernel
theorem dX8_save_46 : decode cX8_save 46 = .ok (.istore_n 2, 1) := by decide +kernel
theorem dX8_save_47 : decode cX8_save 47 = .ok (.iload_n 2, 1) := by decide +kernel
theorem dX8_save_48 : decode cX8_save 48 = .ok (.aload_n 0, 1) := by decide +kernel
theorem dX8_save_49 : decode cX8_save 49 = .ok (.invokevirtual 80, 3) := by decide +kernel
theorem dX8_save_52 : decode cX8_save 52 = .ok (.if_icmp .ge 26, 3) := by decide +kernel
theorem dX8_save_55 : decode cX8_save 55 = .ok (.aload_n 0, 1) := by decide +kernel
theorem dX8_save_56 : decode cX8_save 56 = .ok (.getfield 28, 3) := by decide +kernel
theorem dX8_save_59 : decode cX8_save 59 = .ok (.ldc 13, 2) := by decide +kernel
theorem dX8_save_61 : decode cX8_save 61 = .ok (.iload_n 1, 1) := by decide +kernel
theorem dX8_save_62 : decode cX8_save 62 = .ok (.imul, 1) := by decide +kernel
theorem dX8_save_63 : decode cX8_save 63 = .ok (.iload_n 2, 1) := by decide +kernel
theorem dX8_save_64 : decode cX8_save 64 = .ok (.iadd, 1) := by decide +kernel
theorem dX8_save_65 : decode cX8_save 65 = .ok (.aload_n 0, 1) := by decide +kernel
theorem dX8_save_66 : decode cX8_save 66 = .ok (.getfield 14, 3) := by decide +kernel
theorem dX8_save_69 : decode cX8_save 69 = .ok (.iload_n 2, 1) := by decide +kernel
theorem dX8_save_70 : decode cX8_save 70 = .ok (.iaload, 1) := by decide +kernel
theorem dX8_save_71 : decode cX8_save 71 = .ok (.iastore, 1) := by decide +kernel
theorem dX8_save_72 : decode cX8_save 72 = .ok (.iinc 2 1, 3) := by decide +kernel
theorem dX8_save_75 : decode cX8_save 75 = .ok (.goto (-28), 3) := by decide +kernel
theorem dX8_save_78 : decode cX8_save 78 = .ok (.aload_n 0, 1) := by decide +kernel
theorem dX8_save_79 : decode cX8_save 79 = .ok (.getfield 31, 3) := by decide +kernel
theorem dX8_save_82 : decode cX8_save 82 = .ok (.iload_n 1, 1) := by decide +kernel
theorem dX8_save_83 : decode cX8_save 83 = .ok (.iconst 1, 1) := by decide +kernel
theorem dX8_save_84 : decode cX8_save 84 = .ok (.bastore, 1) := by decide +kernel
theorem dX8_save_85 : decode cX8_save 85 = .ok (.aload_n 0, 1) := by decide +kernel
theorem dX8_save_86 : decode cX8_save 86 = .ok (.getfield 7, 3) := by decide +kernel
theorem dX8_save_89 : decode cX8_save 89 = .ok (.iconst 0, 1) := by decide +kernel
theorem dX8_save_90 : decode cX8_save 90 = .ok (.iaload, 1) := by decide +kernel
theorem dX8_save_91 : decode cX8_save 91 = .ok (.ireturn, 1) := by decide +kernel
theorem dX8_restore_0 : decode cX8_restore 0 = .ok (.iload_n 1, 1) := by decide +kernel
theorem dX8_restore_1 : decode cX8_restore 1 = .ok (.iconst 0, 1) := by decide +kernel
theorem dX8_restore_2 : decode cX8_restore 2 = .ok (.iconst 1, 1) := by decide +kernel
theorem dX8_restore_3 : decode cX8_restore 3 = .ok (.invokestatic 65, 3) := by decide +kernel
theorem dX8_restore_6 : decode cX8_restore 6 = .ok (.ifCond .ne 6, 3) := by decide +kernel
theorem dX8_restore_9 : decode cX8_restore 9 = .ok (.bipush (-2), 2) := by decide +kernel
theorem dX8_restore_11 : decode cX8_restore 11 = .ok (.ireturn, 1) := by decide +kernel
theorem dX8_restore_12 : decode cX8_restore 12 = .ok (.aload_n 0, 1) := by decide +kernel
theorem dX8_restore_13 : decode cX8_restore 13 = .ok (.getfield 31, 3) := by decide +kernel
theorem dX8_restore_16 : decode cX8_restore 16 = .ok (.iload_n 1, 1) := by decide +kernel
theorem dX8_restore_17 : decode cX8_restore 17 = .ok (.baload, 1) := by decide +kernel
theorem dX8_restore_18 : decode cX8_restore 18 = .ok (.ifCond .ne 6, 3) := by decide +kernel
theorem dX8_restore_21 : decode cX8_restore 21 = .ok (.bipush (-5), 2) := by decide +kernel
theorem dX8_restore_23 : decode cX8_restore 23 = .ok (.ireturn, 1) := by decide +kernel
theorem dX8_restore_24 : decode cX8_restore 24 = .ok (.aload_n 0, 1) := by decide +kernel
theorem dX8_restore_25 : decode cX8_restore 25 = .ok (.invokevirtual 84, 3) := by decide +kernel
theorem dX8_restore_28 : decode cX8_restore 28 = .ok (.iconst 0, 1) := by decide +kernel
theorem dX8_restore_29 : decode cX8_restore 29 = .ok (.istore_n 2, 1) := by decide +kernel
theorem dX8_restore_30 : decode cX8_restore 30 = .ok (.iload_n 2, 1) := by decide +kernel
theorem dX8_restore_31 : decode cX8_restore 31 = .ok (.sipush 3506, 3) := by decide +kernel
theorem dX8_restore_34 : decode cX8_restore 34 = .ok (.if_icmp .ge 27, 3) := by decide +kernel
theorem dX8_restore_37 : decode cX8_restore 37 = .ok (.aload_n 0, 1) := by decide +kernel
theorem dX8_restore_38 : decode cX8_restore 38 = .ok (.getfield 7, 3) := by decide +kernel
theorem dX8_restore_41 : decode cX8_restore 41 = .ok (.iload_n 2, 1) := by decide +kernel
theorem dX8_restore_42 : decode cX8_restore 42 = .ok (.aload_n 0, 1) := by decide +kernel
theorem dX8_restore_43 : decode cX8_restore 43 = .ok (.getfield 24, 3) := by decide +kernel
theorem dX8_restore_46 : decode cX8_restore 46 = .ok (.sipush 3506, 3) := by decide +kernel
theorem dX8_restore_49 : decode cX8_restore 49 = .ok (.iload_n 1, 1) := by decide +kernel
theorem dX8_restore_50 : decode cX8_restore 50 = .ok (.imul, 1) := by decide +kernel
theorem dX8_restore_51 : decode cX8_restore 51 = .ok (.iload_n 2, 1) := by decide +kernel
theorem dX8_restore_52 : decode cX8_restore 52 = .ok (.iadd, 1) := by decide +kernel
theorem dX8_restore_53 : decode cX8_restore 53 = .ok (.iaload, 1) := by decide +kernel
theorem dX8_restore_54 : decode cX8_restore 54 = .ok (.iastore, 1) := by decide +kernel
theorem dX8_restore_55 : decode cX8_restore 55 = .ok (.iinc 2 1, 3) := by decide +kernel
theorem dX8_restore_58 : decode cX8_restore 58 = .ok (.goto (-28), 3) := by decide +kernel
theorem dX8_restore_61 : decode cX8_restore 61 = .ok (.iconst 0, 1) := by decide +kernel
theorem dX8_restore_62 : decode cX8_restore 62 = .ok (.istore_n 2, 1) := by decide +kernel
theorem dX8_restore_63 : decode cX8_restore 63 = .ok (.iload_n 2, 1) := by decide +kernel
theorem dX8_restore_64 : decode cX8_restore 64 = .ok (.aload_n 0, 1) := by decide +kernel
theorem dX8_restore_65 : decode cX8_restore 65 = .ok (.invokevirtual 80, 3) := by decide +kernel
theorem dX8_restore_68 : decode cX8_restore 68 = .ok (.if_icmp .ge 26, 3) := by decide +kernel
theorem dX8_restore_71 : decode cX8_restore 71 = .ok (.aload_n 0, 1) := by decide +kernel
theorem dX8_restore_72 : decode cX8_restore 72 = .ok (.getfield 14, 3) := by decide +kernel
theorem dX8_restore_75 : decode cX8_restore 75 = .ok (.iload_n 2, 1) := by decide +kernel
theorem dX8_restore_76 : decode cX8_restore 76 = .ok (.aload_n 0, 1) := by decide +kernel
theorem dX8_restore_77 : decode cX8_restore 77 = .ok (.getfield 28, 3) := by decide +kernel
theorem dX8_restore_80 : decode cX8_restore 80 = .ok (.ldc 13, 2) := by decide +kernel
theorem dX8_restore_82 : decode cX8_restore 82 = .ok (.iload_n 1, 1) := by decide +kernel
theorem dX8_restore_83 : decode cX8_restore 83 = .ok (.imul, 1) := by decide +kernel
theorem dX8_restore_84 : decode cX8_restore 84 = .ok (.iload_n 2, 1) := by decide +kernel
theorem dX8_restore_85 : decode cX8_restore 85 = .ok (.iadd, 1) := by decide +kernel
theorem dX8_restore_86 : decode cX8_restore 86 = .ok (.iaload, 1) := by decide +kernel
theorem dX8_restore_87 : decode cX8_restore 87 = .ok (.iastore, 1) := by decide +kernel
theorem dX8_restore_88 : decode cX8_restore 88 = .ok (.iinc 2 1, 3) := by decide +kernel
theorem dX8_restore_91 : decode cX8_restore 91 = .ok (.goto (-28), 3) := by decide +kernel
theorem dX8_restore_94 : decode cX8_restore 94 = .ok (.aload_n 0, 1) := by decide +kernel
theorem dX8_restore_95 : decode cX8_restore 95 = .ok (.getfield 7, 3) := by decide +kernel
theorem dX8_restore_98 : decode cX8_restore 98 = .ok (.iconst 0, 1) := by decide +kernel
theorem dX8_restore_99 : decode cX8_restore 99 = .ok (.iaload, 1) := by decide +kernel
theorem dX8_restore_100 : decode cX8_restore 100 = .ok (.ireturn, 1) := by decide +kernel
theorem dL_law_0 : decode cL_law 0 = .ok (.new 7, 3) := by decide +kernel
theorem dL_law_3 : decode cL_law 3 = .ok (.dup, 1) := by decide +kernel
theorem dL_law_4 : decode cL_law 4 = .ok (.invokespecial 9, 3) := by decide +kernel
theorem dL_law_7 : decode cL_law 7 = .ok (.astore_n 1, 1) := by decide +kernel
theorem dL_law_8 : decode cL_law 8 = .ok (.new 10, 3) := by decide +kernel
theorem dL_law_11 : decode cL_law 11 = .ok (.dup, 1) := by decide +kernel
theorem dL_law_12 : decode cL_law 12 = .ok (.invokespecial 12, 3) := by decide +kernel
theorem dL_law_15 : decode cL_law 15 = .ok (.astore_n 2, 1) := by decide +kernel
theorem dL_law_16 : decode cL_law 16 = .ok (.iconst 0, 1) := by decide +kernel
theorem dL_law_17 : decode cL_law 17 = .ok (.istore_n 3, 1) := by decide +kernel
theorem dL_law_18 : decode cL_law 18 = .ok (.iload_n 3, 1) := by decide +kernel
theorem dL_law_19 : decode cL_law 19 = .ok (.aload_n 0, 1) := by decide +kernel
theorem dL_law_20 : decode cL_law 20 = .ok (.arraylength, 1) := by decide +kernel
theorem dL_law_21 : decode cL_law 21 = .ok (.bipush 6, 2) := by decide +kernel
theorem dL_law_23 : decode cL_law 23 = .ok (.isub, 1) := by decide +kernel
theorem dL_law_24 : decode cL_law 24 = .ok (.if_icmp .gt 1022, 3) := by decide +kernel
theorem dL_law_27 : decode cL_law 27 = .ok (.aload_n 0, 1) := by decide +kernel
theorem dL_law_28 : decode cL_law 28 = .ok (.iload_n 3, 1) := by decide +kernel
theorem dL_law_29 : decode cL_law 29 = .ok (.iaload, 1) := by decide +kernel
theorem dL_law_30 : decode cL_law 30 = .ok (.bipush 31, 2) := by decide +kernel
theorem dL_law_32 : decode cL_law 32 = .ok (.iand, 1) := by decide +kernel
theorem dL_law_33 : decode cL_law 33 = .ok (.tableswitch 1007 0 25 #[119, 172, 235, 278, 321, 384, 407, 470, 493, 526, 559, 592, 625, 648, 681, 724, 767, 800, 823, 856, 909, 922, 935, 948, 961, 984], 119) := by decide +kernel
theorem dL_law_152 : decode cL_law 152 = .ok (.aload_n 1, 1) := by decide +kernel
theorem dL_law_153 : decode cL_law 153 = .ok (.aload_n 0, 1) := by decide +kernel
theorem dL_law_154 : decode cL_law 154 = .ok (.iload_n 3, 1) := by decide +kernel
theorem dL_law_155 : decode cL_law 155 = .ok (.iconst 1, 1) := by decide +kernel
theorem dL_law_156 : decode cL_law 156 = .ok (.iadd, 1) := by decide +kernel
theorem dL_law_157 : decode cL_law 157 = .ok (.iaload, 1) := by decide +kernel
theorem dL_law_158 : decode cL_law 158 = .ok (.aload_n 0, 1) := by decide +kernel
theorem dL_law_159 : decode cL_law 159 = .ok (.iload_n 3, 1) := by decide +kernel
theorem dL_law_160 : decode cL_law 160 = .ok (.iconst 2, 1) := by decide +kernel
theorem dL_law_161 : decode cL_law 161 = .ok (.iadd, 1) := by decide +kernel
theorem dL_law_162 : decode cL_law 162 = .ok (.iaload, 1) := by decide +kernel
theorem dL_law_163 : decode cL_law 163 = .ok (.aload_n 0, 1) := by decide +kernel
theorem dL_law_164 : decode cL_law 164 = .ok (.iload_n 3, 1) := by decide +kernel
theorem dL_law_165 : decode cL_law 165 = .ok (.iconst 3, 1) := by decide +kernel
theorem dL_law_166 : decode cL_law 166 = .ok (.iadd, 1) := by decide +kernel
theorem dL_law_167 : decode cL_law 167 = .ok (.iaload, 1) := by decide +kernel
theorem dL_law_168 : decode cL_law 168 = .ok (.aload_n 0, 1) := by decide +kernel
theorem dL_law_169 : decode cL_law 169 = .ok (.iload_n 3, 1) := by decide +kernel
theorem dL_law_170 : decode cL_law 170 = .ok (.iconst 4, 1) := by decide +kernel
theorem dL_law_171 : decode cL_law 171 = .ok (.iadd, 1) := by decide +kernel
theorem dL_law_172 : decode cL_law 172 = .ok (.iaload, 1) := by decide +kernel
theorem dL_law_173 : decode cL_law 173 = .ok (.invokevirtual 13, 3) := by decide +kernel
theorem dL_law_176 : decode cL_law 176 = .ok (.aload_n 2, 1) := by decide +kernel
theorem dL_law_177 : decode cL_law 177 = .ok (.aload_n 0, 1) := by decide +kernel
theorem dL_law_178 : decode cL_law 178 = .ok (.iload_n 3, 1) := by decide +kernel
theorem dL_law_179 : decode cL_law 179 = .ok (.iconst 1, 1) := by decide +kernel
theorem dL_law_180 : decode cL_law 180 = .ok (.iadd, 1) := by decide +kernel
theorem dL_law_181 : decode cL_law 181 = .ok (.iaload, 1) := by decide +kernel
theorem dL_law_182 : decode cL_law 182 = .ok (.aload_n 0, 1) := by decide +kernel
theorem dL_law_183 : decode cL_law 183 = .ok (.iload_n 3, 1) := by decide +kernel
theorem dL_law_184 : decode cL_law 184 = .ok (.iconst 2, 1) := by decide +kernel
theorem dL_law_185 : decode cL_law 185 = .ok (.iadd, 1) := by decide +kernel
theorem dL_law_186 : decode cL_law 186 = .ok (.iaload, 1) := by decide +kernel
theorem dL_law_187 : decode cL_law 187 = .ok (.aload_n 0, 1) := by decide +kernel
theorem dL_law_188 : decode cL_law 188 = .ok (.iload_n 3, 1) := by decide +kernel
theorem dL_law_189 : decode cL_law 189 = .ok (.iconst 3, 1) := by decide +kernel
theorem dL_law_190 : decode cL_law 190 = .ok (.iadd, 1) := by decide +kernel
theorem dL_law_191 : decode cL_law 191 = .ok (.iaload, 1) := by decide +kernel
theorem dL_law_192 : decode cL_law 192 = .ok (.aload_n 0, 1) := by decide +kernel
theorem dL_law_193 : decode cL_law 193 = .ok (.iload_n 3, 1) := by decide +kernel
theorem dL_law_194 : decode cL_law 194 = .ok (.iconst 4, 1) := by decide +kernel
theorem dL_law_195 : decode cL_law 195 = .ok (.iadd, 1) := by decide +kernel
theorem dL_law_196 : decode cL_law 196 = .ok (.iaload, 1) := by decide +kernel
theorem dL_law_197 : decode cL_law 197 = .ok (.invokevirtual 17, 3) := by decide +kernel
theorem dL_law_200 : decode cL_law 200 = .ok (.if_icmp .eq 840, 3) := by decide +kernel
theorem dL_law_203 : decode cL_law 203 = .ok (.iconst 0, 1) := by decide +kernel
theorem dL_law_204 : decode cL_law 204 = .ok (.ireturn, 1) := by decide +kernel
theorem dL_law_205 : decode cL_law 205 = .ok (.aload_n 1, 1) := by decide +kernel
theorem dL_law_206 : decode cL_law 206 = .ok (.aload_n 0, 1) := by decide +kernel
theorem dL_law_207 : decode cL_law 207 = .ok (.iload_n 3, 1) := by decide +kernel
theorem dL_law_208 : decode cL_law 208 = .ok (.iconst 1, 1) := by decide +kernel
theorem dL_law_209 : decode cL_law 209 = .ok (.iadd, 1) := by decide +kernel
theorem dL_law_210 : decode cL_law 210 = .ok (.iaload, 1) := by decide +kernel
theorem dL_law_211 : decode cL_law 211 = .ok (.aload_n 0, 1) := by decide +kernel
theorem dL_law_212 : decode cL_law 212 = .ok (.iload_n 3, 1) := by decide +kernel
theorem dL_law_213 : decode cL_law 213 = .ok (.iconst 2, 1) := by decide +kernel
theorem dL_law_214 : decode cL_law 214 = .ok (.iadd, 1) := by decide +kernel
theorem dL_law_215 : decode cL_law 215 = .ok (.iaload, 1) := by decide +kernel
theorem dL_law_216 : decode cL_law 216 = .ok (.aload_n 0, 1) := by decide +kernel
theorem dL_law_217 : decode cL_law 217 = .ok (.iload_n 3, 1) := by decide +kernel
theorem dL_law_218 : decode cL_law 218 = .ok (.iconst 3, 1) := by decide +kernel
theorem dL_law_219 : decode cL_law 219 = .ok (.iadd, 1) := by decide +kernel
theorem dL_law_220 : decode cL_law 220 = .ok (.iaload, 1) := by decide +kernel
theorem dL_law_221 : decode cL_law 221 = .ok (.aload_n 0, 1) := by decide +kernel
theorem dL_law_222 : decode cL_law 222 = .ok (.iload_n 3, 1) := by decide +kernel
theorem dL_law_223 : decode cL_law 223 = .ok (.iconst 4, 1) := by decide +kernel
theorem dL_law_224 : decode cL_law 224 = .ok (.iadd, 1) := by decide +kernel
theorem dL_law_225 : decode cL_law 225 = .ok (.iaload, 1) := by decide +kernel
theorem dL_law_226 : decode cL_law 226 = .ok (.aload_n 0, 1) := by decide +kernel
theorem dL_law_227 : decode cL_law 227 = .ok (.iload_n 3, 1) := by decide +kernel
theorem dL_law_228 : decode cL_law 228 = .ok (.iconst 5, 1) := by decide +kernel
theorem dL_law_229 : decode cL_law 229 = .ok (.iadd, 1) := by decide +kernel
theorem dL_law_230 : decode cL_law 230 = .ok (.iaload, 1) := by decide +kernel
theorem dL_law_231 : decode cL_law 231 = .ok (.invokevirtual 18, 3) := by decide +kernel
theorem dL_law_234 : decode cL_law 234 = .ok (.aload_n 2, 1) := by decide +kernel
theorem dL_law_235 : decode cL_law 235 = .ok (.aload_n 0, 1) := by decide +kernel
theorem dL_law_236 : decode cL_law 236 = .ok (.iload_n 3, 1) := by decide +kernel
theorem dL_law_237 : decode cL_law 237 = .ok (.iconst 1, 1) := by decide +kernel
theorem dL_law_238 : decode cL_law 238 = .ok (.iadd, 1) := by decide +kernel
theorem dL_law_239 : decode cL_law 239 = .ok (.iaload, 1) := by decide +kernel
theorem dL_law_240 : decode cL_law 240 = .ok (.aload_n 0, 1) := by decide +kernel
theorem dL_law_241 : decode cL_law 241 = .ok (.iload_n 3, 1) := by decide +kernel
theorem dL_law_242 : decode cL_law 242 = .ok (.iconst 2, 1) := by decide +kernel
theorem dL_law_243 : decode cL_law 243 = .ok (.iadd, 1) := by decide +kernel
theorem dL_law_244 : decode cL_law 244 = .ok (.iaload, 1) := by decide +kernel
theorem dL_law_245 : decode cL_law 245 = .ok (.aload_n 0, 1) := by decide +kernel
theorem dL_law_246 : decode cL_law 246 = .ok (.iload_n 3, 1) := by decide +kernel
theorem dL_law_247 : decode cL_law 247 = .ok (.iconst 3, 1) := by decide +kernel
theorem dL_law_248 : decode cL_law 248 = .ok (.iadd, 1) := by decide +kernel
theorem dL_law_249 : decode cL_law 249 = .ok (.iaload, 1) := by decide +kernel
theorem dL_law_250 : decode cL_law 250 = .ok (.aload_n 0, 1) := by decide +kernel
theorem dL_law_251 : decode cL_law 251 = .ok (.iload_n 3, 1) := by decide +kernel
theorem dL_law_252 : decode cL_law 252 = .ok (.iconst 4, 1) := by decide +kernel
theorem dL_law_253 : decode cL_law 253 = .ok (.iadd, 1) := by decide +kernel
theorem dL_law_254 : decode cL_law 254 = .ok (.iaload, 1) := by decide +kernel
theorem dL_law_255 : decode cL_law 255 = .ok (.aload_n 0, 1) := by decide +kernel
theorem dL_law_256 : decode cL_law 256 = .ok (.iload_n 3, 1) := by decide +kernel
theorem dL_law_257 : decode cL_law 257 = .ok (.iconst 5, 1) := by decide +kernel
theorem dL_law_258 : decode cL_law 258 = .ok (.iadd, 1) := by decide +kernel
theorem dL_law_259 : decode cL_law 259 = .ok (.iaload, 1) := by decide +kernel
theorem dL_law_260 : decode cL_law 260 = .ok (.invokevirtual 22, 3) := by decide +kernel
theorem dL_law_263 : decode cL_law 263 = .ok (.if_icmp .eq 777, 3) := by decide +kernel
theorem dL_law_266 : decode cL_law 266 = .ok (.iconst 0, 1) := by decide +kernel
theorem dL_law_267 : decode cL_law 267 = .ok (.ireturn, 1) := by decide +kernel
theorem dL_law_268 : decode cL_law 268 = .ok (.aload_n 1, 1) := by decide +kernel
theorem dL_law_269 : decode cL_law 269 = .ok (.aload_n 0, 1) := by decide +kernel
theorem dL_law_270 : decode cL_law 270 = .ok (.iload_n 3, 1) := by decide +kernel
theorem dL_law_271 : decode cL_law 271 = .ok (.iconst 1, 1) := by decide +kernel
theorem dL_law_272 : decode cL_law 272 = .ok (.iadd, 1) := by decide +kernel
theorem dL_law_273 : decode cL_law 273 = .ok (.iaload, 1) := by decide +kernel
theorem dL_law_274 : decode cL_law 274 = .ok (.aload_n 0, 1) := by decide +kernel
theorem dL_law_275 : decode cL_law 275 = .ok (.iload_n 3, 1) := by decide +kernel
theorem dL_law_276 : decode cL_law 276 = .ok (.iconst 2, 1) := by decide +kernel
theorem dL_law_277 : decode cL_law 277 = .ok (.iadd, 1) := by decide +kernel
theorem dL_law_278 : decode cL_law 278 = .ok (.iaload, 1) := by decide +kernel
theorem dL_law_279 : decode cL_law 279 = .ok (.aload_n 0, 1) := by decide +kernel
theorem dL_law_280 : decode cL_law 280 = .ok (.iload_n 3, 1) := by decide +kernel
theorem dL_law_281 : decode cL_law 281 = .ok (.iconst 3, 1) := by decide +kernel
theorem dL_law_282 : decode cL_law 282 = .ok (.iadd, 1) := by decide +kernel
theorem dL_law_283 : decode cL_law 283 = .ok (.iaload, 1) := by decide +kernel
theorem dL_law_284 : decode cL_law 284 = .ok (.invokevirtual 23, 3) := by decide +kernel
theorem dL_law_287 : decode cL_law 287 = .ok (.aload_n 2, 1) := by decide +kernel
theorem dL_law_288 : decode cL_law 288 = .ok (.aload_n 0, 1) := by decide +kernel
theorem dL_law_289 : decode cL_law 289 = .ok (.iload_n 3, 1) := by decide +kernel
theorem dL_law_290 : decode cL_law 290 = .ok (.iconst 1, 1) := by decide +kernel
theorem dL_law_291 : decode cL_law 291 = .ok (.iadd, 1) := by decide +kernel
theorem dL_law_292 : decode cL_law 292 = .ok (.iaload, 1) := by decide +kernel
theorem dL_law_293 : decode cL_law 293 = .ok (.aload_n 0, 1) := by decide +kernel
theorem dL_law_294 : decode cL_law 294 = .ok (.iload_n 3, 1) := by decide +kernel
theorem dL_law_295 : decode cL_law 295 = .ok (.iconst 2, 1) := by decide +kernel
theorem dL_law_296 : decode cL_law 296 = .ok (.iadd, 1) := by decide +kernel
theorem dL_law_297 : decode cL_law 297 = .ok (.iaload, 1) := by decide +kernel
theorem dL_law_298 : decode cL_law 298 = .ok (.aload_n 0, 1) := by decide +kernel
theorem dL_law_299 : decode cL_law 299 = .ok (.iload_n 3, 1) := by decide +kernel
theorem dL_law_300 : decode cL_law 300 = .ok (.iconst 3, 1) := by decide +kernel
theorem dL_law_301 : decode cL_law 301 = .ok (.iadd, 1) := by decide +kernel
theorem dL_law_302 : decode cL_law 302 = .ok (.iaload, 1) := by decide +kernel
theorem dL_law_303 : decode cL_law 303 = .ok (.invokevirtual 27, 3) := by decide +kernel
theorem dL_law_306 : decode cL_law 306 = .ok (.if_icmp .eq 734, 3) := by decide +kernel
theorem dL_law_309 : decode cL_law 309 = .ok (.iconst 0, 1) := by decide +kernel
theorem dL_law_310 : decode cL_law 310 = .ok (.ireturn, 1) := by decide +kernel
theorem dL_law_311 : decode cL_law 311 = .ok (.aload_n 1, 1) := by decide +kernel
theorem dL_law_312 : decode cL_law 312 = .ok (.aload_n 0, 1) := by decide +kernel
theorem dL_law_313 : decode cL_law 313 = .ok (.iload_n 3, 1) := by decide +kernel
theorem dL_law_314 : decode cL_law 314 = .ok (.iconst 1, 1) := by decide +kernel
theorem dL_law_315 : decode cL_law 315 = .ok (.iadd, 1) := by decide +kernel
theorem dL_law_316 : decode cL_law 316 = .ok (.iaload, 1) := by decide +kernel
theorem dL_law_317 : decode cL_law 317 = .ok (.aload_n 0, 1) := by decide +kernel
theorem dL_law_318 : decode cL_law 318 = .ok (.iload_n 3, 1) := by decide +kernel
theorem dL_law_319 : decode cL_law 319 = .ok (.iconst 2, 1) := by decide +kernel
theorem dL_law_320 : decode cL_law 320 = .ok (.iadd, 1) := by decide +kernel
theorem dL_law_321 : decode cL_law 321 = .ok (.iaload, 1) := by decide +kernel
theorem dL_law_322 : decode cL_law 322 = .ok (.aload_n 0, 1) := by decide +kernel
theorem dL_law_323 : decode cL_law 323 = .ok (.iload_n 3, 1) := by decide +kernel
theorem dL_law_324 : decode cL_law 324 = .ok (.iconst 3, 1) := by decide +kernel
theorem dL_law_325 : decode cL_law 325 = .ok (.iadd, 1) := by decide +kernel
theorem dL_law_326 : decode cL_law 326 = .ok (.iaload, 1) := by decide +kernel
theorem dL_law_327 : decode cL_law 327 = .ok (.invokevirtual 28, 3) := by decide +kernel
theorem dL_law_330 : decode cL_law 330 = .ok (.aload_n 2, 1) := by decide +kernel
theorem dL_law_331 : decode cL_law 331 = .ok (.aload_n 0, 1) := by decide +kernel
theorem dL_law_332 : decode cL_law 332 = .ok (.iload_n 3, 1) := by decide +kernel
theorem dL_law_333 : decode cL_law 333 = .ok (.iconst 1, 1) := by decide +kernel
theorem dL_law_334 : decode cL_law 334 = .ok (.iadd, 1) := by decide +kernel
theorem dL_law_335 : decode cL_law 335 = .ok (.iaload, 1) := by decide +kernel
theorem dL_law_336 : decode cL_law 336 = .ok (.aload_n 0, 1) := by decide +kernel
theorem dL_law_337 : decode cL_law 337 = .ok (.iload_n 3, 1) := by decide +kernel
theorem dL_law_338 : decode cL_law 338 = .ok (.iconst 2, 1) := by decide +kernel
theorem dL_law_339 : decode cL_law 339 = .ok (.iadd, 1) := by decide +kernel
theorem dL_law_340 : decode cL_law 340 = .ok (.iaload, 1) := by decide +kernel
theorem dL_law_341 : decode cL_law 341 = .ok (.aload_n 0, 1) := by decide +kernel
theorem dL_law_342 : decode cL_law 342 = .ok (.iload_n 3, 1) := by decide +kernel
theorem dL_law_343 : decode cL_law 343 = .ok (.iconst 3, 1) := by decide +kernel
theorem dL_law_344 : decode cL_law 344 = .ok (.iadd, 1) := by decide +kernel
theorem dL_law_345 : decode cL_law 345 = .ok (.iaload, 1) := by decide +kernel
theorem dL_law_346 : decode cL_law 346 = .ok (.invokevirtual 31, 3) := by decide +kernel
theorem dL_law_349 : decode cL_law 349 = .ok (.if_icmp .eq 691, 3) := by decide +kernel
theorem dL_law_352 : decode cL_law 352 = .ok (.iconst 0, 1) := by decide +kernel
theorem dL_law_353 : decode cL_law 353 = .ok (.ireturn, 1) := by decide +kernel
theorem dL_law_354 : decode cL_law 354 = .ok (.aload_n 1, 1) := by decide +kernel
theorem dL_law_355 : decode cL_law 355 = .ok (.aload_n 0, 1) := by decide +kernel
theorem dL_law_356 : decode cL_law 356 = .ok (.iload_n 3, 1) := by decide +kernel
theorem dL_law_357 : decode cL_law 357 = .ok (.iconst 1, 1) := by decide +kernel
theorem dL_law_358 : decode cL_law 358 = .ok (.iadd, 1) := by decide +kernel
theorem dL_law_359 : decode cL_law 359 = .ok (.iaload, 1) := by decide +kernel
theorem dL_law_360 : decode cL_law 360 = .ok (.aload_n 0, 1) := by decide +kernel
theorem dL_law_361 : decode cL_law 361 = .ok (.iload_n 3, 1) := by decide +kernel
theorem dL_law_362 : decode cL_law 362 = .ok (.iconst 2, 1) := by decide +kernel
theorem dL_law_363 : decode cL_law 363 = .ok (.iadd, 1) := by decide +kernel
theorem dL_law_364 : decode cL_law 364 = .ok (.iaload, 1) := by decide +kernel
theorem dL_law_365 : decode cL_law 365 = .ok (.aload_n 0, 1) := by decide +kernel
theorem dL_law_366 : decode cL_law 366 = .ok (.iload_n 3, 1) := by decide +kernel
theorem dL_law_367 : decode cL_law 367 = .ok (.iconst 3, 1) := by decide +kernel
theorem dL_law_368 : decode cL_law 368 = .ok (.iadd, 1) := by decide +kernel
theorem dL_law_369 : decode cL_law 369 = .ok (.iaload, 1) := by decide +kernel
theorem dL_law_370 : decode cL_law 370 = .ok (.aload_n 0, 1) := by decide +kernel
theorem dL_law_371 : decode cL_law 371 = .ok (.iload_n 3, 1) := by decide +kernel
theorem dL_law_372 : decode cL_law 372 = .ok (.iconst 4, 1) := by decide +kernel
theorem dL_law_373 : decode cL_law 373 = .ok (.iadd, 1) := by decide +kernel
theorem dL_law_374 : decode cL_law 374 = .ok (.iaload, 1) := by decide +kernel
theorem dL_law_375 : decode cL_law 375 = .ok (.aload_n 0, 1) := by decide +kernel
theorem dL_law_376 : decode cL_law 376 = .ok (.iload_n 3, 1) := by decide +kernel
theorem dL_law_377 : decode cL_law 377 = .ok (.iconst 5, 1) := by decide +kernel
theorem dL_law_378 : decode cL_law 378 = .ok (.iadd, 1) := by decide +kernel
theorem dL_law_379 : decode cL_law 379 = .ok (.iaload, 1) := by decide +kernel
theorem dL_law_380 : decode cL_law 380 = .ok (.invokevirtual 32, 3) := by decide +kernel
theorem dL_law_383 : decode cL_law 383 = .ok (.aload_n 2, 1) := by decide +kernel
theorem dL_law_384 : decode cL_law 384 = .ok (.aload_n 0, 1) := by decide +kernel
theorem dL_law_385 : decode cL_law 385 = .ok (.iload_n 3, 1) := by decide +kernel
theorem dL_law_386 : decode cL_law 386 = .ok (.iconst 1, 1) := by decide +kernel
theorem dL_law_387 : decode cL_law 387 = .ok (.iadd, 1) := by decide +kernel
theorem dL_law_388 : decode cL_law 388 = .ok (.iaload, 1) := by decide +kernel
theorem dL_law_389 : decode cL_law 389 = .ok (.aload_n 0, 1) := by decide +kernel
theorem dL_law_390 : decode cL_law 390 = .ok (.iload_n 3, 1) := by decide +kernel
theorem dL_law_391 : decode cL_law 391 = .ok (.iconst 2, 1) := by decide +kernel
theorem dL_law_392 : decode cL_law 392 = .ok (.iadd, 1) := by decide +kernel
theorem dL_law_393 : decode cL_law 393 = .ok (.iaload, 1) := by decide +kernel
theorem dL_law_394 : decode cL_law 394 = .ok (.aload_n 0, 1) := by decide +kernel
theorem dL_law_395 : decode cL_law 395 = .ok (.iload_n 3, 1) := by decide +kernel
theorem dL_law_396 : decode cL_law 396 = .ok (.iconst 3, 1) := by decide +kernel
theorem dL_law_397 : decode cL_law 397 = .ok (.iadd, 1) := by decide +kernel
theorem dL_law_398 : decode cL_law 398 = .ok (.iaload, 1) := by decide +kernel
theorem dL_law_399 : decode cL_law 399 = .ok (.aload_n 0, 1) := by decide +kernel
theorem dL_law_400 : decode cL_law 400 = .ok (.iload_n 3, 1) := by decide +kernel
theorem dL_law_401 : decode cL_law 401 = .ok (.iconst 4, 1) := by decide +kernel
theorem dL_law_402 : decode cL_law 402 = .ok (.iadd, 1) := by decide +kernel
theorem dL_law_403 : decode cL_law 403 = .ok (.iaload, 1) := by decide +kernel
theorem dL_law_404 : decode cL_law 404 = .ok (.aload_n 0, 1) := by decide +kernel
theorem dL_law_405 : decode cL_law 405 = .ok (.iload_n 3, 1) := by decide +kernel
theorem dL_law_406 : decode cL_law 406 = .ok (.iconst 5, 1) := by decide +kernel
theorem dL_law_407 : decode cL_law 407 = .ok (.iadd, 1) := by decide +kernel
theorem dL_law_408 : decode cL_law 408 = .ok (.iaload, 1) := by decide +kernel
theorem dL_law_409 : decode cL_law 409 = .ok (.invokevirtual 35, 3) := by decide +kernel
theorem dL_law_412 : decode cL_law 412 = .ok (.if_icmp .eq 628, 3) := by decide +kernel
theorem dL_law_415 : decode cL_law 415 = .ok (.iconst 0, 1) := by decide +kernel
theorem dL_law_416 : decode cL_law 416 = .ok (.ireturn, 1) := by decide +kernel
theorem dL_law_417 : decode cL_law 417 = .ok (.aload_n 1, 1) := by decide +kernel
theorem dL_law_418 : decode cL_law 418 = .ok (.aload_n 0, 1) := by decide +kernel
theorem dL_law_419 : decode cL_law 419 = .ok (.iload_n 3, 1) := by decide +kernel
theorem dL_law_420 : decode cL_law 420 = .ok (.iconst 1, 1) := by decide +kernel
theorem dL_law_421 : decode cL_law 421 = .ok (.iadd, 1) := by decide +kernel
theorem dL_law_422 : decode cL_law 422 = .ok (.iaload, 1) := by decide +kernel
theorem dL_law_423 : decode cL_law 423 = .ok (.invokevirtual 36, 3) := by decide +kernel
theorem dL_law_426 : decode cL_law 426 = .ok (.aload_n 2, 1) := by decide +kernel
theorem dL_law_427 : decode cL_law 427 = .ok (.aload_n 0, 1) := by decide +kernel
theorem dL_law_428 : decode cL_law 428 = .ok (.iload_n 3, 1) := by decide +kernel
theorem dL_law_429 : decode cL_law 429 = .ok (.iconst 1, 1) := by decide +kernel
theorem dL_law_430 : decode cL_law 430 = .ok (.iadd, 1) := by decide +kernel
theorem dL_law_431 : decode cL_law 431 = .ok (.iaload, 1) := by decide +kernel
theorem dL_law_432 : decode cL_law 432 = .ok (.invokevirtual 40, 3) := by decide +kernel
theorem dL_law_435 : decode cL_law 435 = .ok (.if_icmp .eq 605, 3) := by decide +kernel
theorem dL_law_438 : decode cL_law 438 = .ok (.iconst 0, 1) := by decide +kernel
theorem dL_law_439 : decode cL_law 439 = .ok (.ireturn, 1) := by decide +kernel
theorem dL_law_440 : decode cL_law 440 = .ok (.aload_n 1, 1) := by decide +kernel
theorem dL_law_441 : decode cL_law 441 = .ok (.aload_n 0, 1) := by decide +kernel
theorem dL_law_442 : decode cL_law 442 = .ok (.iload_n 3, 1) := by decide +kernel
theorem dL_law_443 : decode cL_law 443 = .ok (.iconst 1, 1) := by decide +kernel
theorem dL_law_444 : decode cL_law 444 = .ok (.iadd, 1) := by decide +kernel
theorem dL_law_445 : decode cL_law 445 = .ok (.iaload, 1) := by decide +kernel
theorem dL_law_446 : decode cL_law 446 = .ok (.aload_n 0, 1) := by decide +kernel
theorem dL_law_447 : decode cL_law 447 = .ok (.iload_n 3, 1) := by decide +kernel
theorem dL_law_448 : decode cL_law 448 = .ok (.iconst 2, 1) := by decide +kernel
theorem dL_law_449 : decode cL_law 449 = .ok (.iadd, 1) := by decide +kernel
theorem dL_law_450 : decode cL_law 450 = .ok (.iaload, 1) := by decide +kernel
theorem dL_law_451 : decode cL_law 451 = .ok (.aload_n 0, 1) := by decide +kernel
theorem dL_law_452 : decode cL_law 452 = .ok (.iload_n 3, 1) := by decide +kernel
theorem dL_law_453 : decode cL_law 453 = .ok (.iconst 3, 1) := by decide +kernel
theorem dL_law_454 : decode cL_law 454 = .ok (.iadd, 1) := by decide +kernel
theorem dL_law_455 : decode cL_law 455 = .ok (.iaload, 1) := by decide +kernel
theorem dL_law_456 : decode cL_law 456 = .ok (.aload_n 0, 1) := by decide +kernel
theorem dL_law_457 : decode cL_law 457 = .ok (.iload_n 3, 1) := by decide +kernel
theorem dL_law_458 : decode cL_law 458 = .ok (.iconst 4, 1) := by decide +kernel
theorem dL_law_459 : decode cL_law 459 = .ok (.iadd, 1) := by decide +kernel
theorem dL_law_460 : decode cL_law 460 = .ok (.iaload, 1) := by decide +kernel
theorem dL_law_461 : decode cL_law 461 = .ok (.aload_n 0, 1) := by decide +kernel
theorem dL_law_462 : decode cL_law 462 = .ok (.iload_n 3, 1) := by decide +kernel
theorem dL_law_463 : decode cL_law 463 = .ok (.iconst 5, 1) := by decide +kernel
theorem dL_law_464 : decode cL_law 464 = .ok (.iadd, 1) := by decide +kernel
theorem dL_law_465 : decode cL_law 465 = .ok (.iaload, 1) := by decide +kernel
theorem dL_law_466 : decode cL_law 466 = .ok (.invokevirtual 41, 3) := by decide +kernel
theorem dL_law_469 : decode cL_law 469 = .ok (.aload_n 2, 1) := by decide +kernel
theorem dL_law_470 : decode cL_law 470 = .ok (.aload_n 0, 1) := by decide +kernel
theorem dL_law_471 : decode cL_law 471 = .ok (.iload_n 3, 1) := by decide +kernel
theorem dL_law_472 : decode cL_law 472 = .ok (.iconst 1, 1) := by decide +kernel
theorem dL_law_473 : decode cL_law 473 = .ok (.iadd, 1) := by decide +kernel
theorem dL_law_474 : decode cL_law 474 = .ok (.iaload, 1) := by decide +kernel
theorem dL_law_475 : decode cL_law 475 = .ok (.aload_n 0, 1) := by decide +kernel
theorem dL_law_476 : decode cL_law 476 = .ok (.iload_n 3, 1) := by decide +kernel
theorem dL_law_477 : decode cL_law 477 = .ok (.iconst 2, 1) := by decide +kernel
theorem dL_law_478 : decode cL_law 478 = .ok (.iadd, 1) := by decide +kernel
theorem dL_law_479 : decode cL_law 479 = .ok (.iaload, 1) := by decide +kernel
theorem dL_law_480 : decode cL_law 480 = .ok (.aload_n 0, 1) := by decide +kernel
theorem dL_law_481 : decode cL_law 481 = .ok (.iload_n 3, 1) := by decide +kernel
theorem dL_law_482 : decode cL_law 482 = .ok (.iconst 3, 1) := by decide +kernel
theorem dL_law_483 : decode cL_law 483 = .ok (.iadd, 1) := by decide +kernel
theorem dL_law_484 : decode cL_law 484 = .ok (.iaload, 1) := by decide +kernel
theorem dL_law_485 : decode cL_law 485 = .ok (.aload_n 0, 1) := by decide +kernel
theorem dL_law_486 : decode cL_law 486 = .ok (.iload_n 3, 1) := by decide +kernel
theorem dL_law_487 : decode cL_law 487 = .ok (.iconst 4, 1) := by decide +kernel
theorem dL_law_488 : decode cL_law 488 = .ok (.iadd, 1) := by decide +kernel
theorem dL_law_489 : decode cL_law 489 = .ok (.iaload, 1) := by decide +kernel
theorem dL_law_490 : decode cL_law 490 = .ok (.aload_n 0, 1) := by decide +kernel
theorem dL_law_491 : decode cL_law 491 = .ok (.iload_n 3, 1) := by decide +kernel
theorem dL_law_492 : decode cL_law 492 = .ok (.iconst 5, 1) := by decide +kernel
theorem dL_law_493 : decode cL_law 493 = .ok (.iadd, 1) := by decide +kernel
theorem dL_law_494 : decode cL_law 494 = .ok (.iaload, 1) := by decide +kernel
theorem dL_law_495 : decode cL_law 495 = .ok (.invokevirtual 44, 3) := by decide +kernel
theorem dL_law_498 : decode cL_law 498 = .ok (.if_icmp .eq 542, 3) := by decide +kernel
theorem dL_law_501 : decode cL_law 501 = .ok (.iconst 0, 1) := by decide +kernel
theorem dL_law_502 : decode cL_law 502 = .ok (.ireturn, 1) := by decide +kernel
theorem dL_law_503 : decode cL_law 503 = .ok (.aload_n 1, 1) := by decide +kernel
theorem dL_law_504 : decode cL_law 504 = .ok (.aload_n 0, 1) := by decide +kernel
theorem dL_law_505 : decode cL_law 505 = .ok (.iload_n 3, 1) := by decide +kernel
theorem dL_law_506 : decode cL_law 506 = .ok (.iconst 1, 1) := by decide +kernel
theorem dL_law_507 : decode cL_law 507 = .ok (.iadd, 1) := by decide +kernel
theorem dL_law_508 : decode cL_law 508 = .ok (.iaload, 1) := by decide +kernel
theorem dL_law_509 : decode cL_law 509 = .ok (.invokevirtual 45, 3) := by decide +kernel
theorem dL_law_512 : decode cL_law 512 = .ok (.aload_n 2, 1) := by decide +kernel
theorem dL_law_513 : decode cL_law 513 = .ok (.aload_n 0, 1) := by decide +kernel
theorem dL_law_514 : decode cL_law 514 = .ok (.iload_n 3, 1) := by decide +kernel
theorem dL_law_515 : decode cL_law 515 = .ok (.iconst 1, 1) := by decide +kernel
theorem dL_law_516 : decode cL_law 516 = .ok (.iadd, 1) := by decide +kernel
theorem dL_law_517 : decode cL_law 517 = .ok (.iaload, 1) := by decide +kernel
theorem dL_law_518 : decode cL_law 518 = .ok (.invokevirtual 48, 3) := by decide +kernel
theorem dL_law_521 : decode cL_law 521 = .ok (.if_icmp .eq 519, 3) := by decide +kernel
theorem dL_law_524 : decode cL_law 524 = .ok (.iconst 0, 1) := by decide +kernel
theorem dL_law_525 : decode cL_law 525 = .ok (.ireturn, 1) := by decide +kernel
theorem dL_law_526 : decode cL_law 526 = .ok (.aload_n 1, 1) := by decide +kernel
theorem dL_law_527 : decode cL_law 527 = .ok (.aload_n 0, 1) := by decide +kernel
theorem dL_law_528 : decode cL_law 528 = .ok (.iload_n 3, 1) := by decide +kernel
theorem dL_law_529 : decode cL_law 529 = .ok (.iconst 1, 1) := by decide +kernel
theorem dL_law_530 : decode cL_law 530 = .ok (.iadd, 1) := by decide +kernel
theorem dL_law_531 : decode cL_law 531 = .ok (.iaload, 1) := by decide +kernel
theorem dL_law_532 : decode cL_law 532 = .ok (.aload_n 0, 1) := by decide +kernel
theorem dL_law_533 : decode cL_law 533 = .ok (.iload_n 3, 1) := by decide +kernel
theorem dL_law_534 : decode cL_law 534 = .ok (.iconst 2, 1) := by decide +kernel
theorem dL_law_535 : decode cL_law 535 = .ok (.iadd, 1) := by decide +kernel
theorem dL_law_536 : decode cL_law 536 = .ok (.iaload, 1) := by decide +kernel
theorem dL_law_537 : decode cL_law 537 = .ok (.invokevirtual 49, 3) := by decide +kernel
theorem dL_law_540 : decode cL_law 540 = .ok (.aload_n 2, 1) := by decide +kernel
theorem dL_law_541 : decode cL_law 541 = .ok (.aload_n 0, 1) := by decide +kernel
theorem dL_law_542 : decode cL_law 542 = .ok (.iload_n 3, 1) := by decide +kernel
theorem dL_law_543 : decode cL_law 543 = .ok (.iconst 1, 1) := by decide +kernel
theorem dL_law_544 : decode cL_law 544 = .ok (.iadd, 1) := by decide +kernel
theorem dL_law_545 : decode cL_law 545 = .ok (.iaload, 1) := by decide +kernel
theorem dL_law_546 : decode cL_law 546 = .ok (.aload_n 0, 1) := by decide +kernel
theorem dL_law_547 : decode cL_law 547 = .ok (.iload_n 3, 1) := by decide +kernel
theorem dL_law_548 : decode cL_law 548 = .ok (.iconst 2, 1) := by decide +kernel
theorem dL_law_549 : decode cL_law 549 = .ok (.iadd, 1) := by decide +kernel
theorem dL_law_550 : decode cL_law 550 = .ok (.iaload, 1) := by decide +kernel
theorem dL_law_551 : decode cL_law 551 = .ok (.invokevirtual 53, 3) := by decide +kernel
theorem dL_law_554 : decode cL_law 554 = .ok (.if_icmp .eq 486, 3) := by decide +kernel
theorem dL_law_557 : decode cL_law 557 = .ok (.iconst 0, 1) := by decide +kernel
theorem dL_law_558 : decode cL_law 558 = .ok (.ireturn, 1) := by decide +kernel
theorem dL_law_559 : decode cL_law 559 = .ok (.aload_n 1, 1) := by decide +kernel
theorem dL_law_560 : decode cL_law 560 = .ok (.aload_n 0, 1) := by decide +kernel
theorem dL_law_561 : decode cL_law 561 = .ok (.iload_n 3, 1) := by decide +kernel
theorem dL_law_562 : decode cL_law 562 = .ok (.iconst 1, 1) := by decide +kernel
theorem dL_law_563 : decode cL_law 563 = .ok (.iadd, 1) := by decide +kernel
theorem dL_law_564 : decode cL_law 564 = .ok (.iaload, 1) := by decide +kernel
theorem dL_law_565 : decode cL_law 565 = .ok (.aload_n 0, 1) := by decide +kernel
theorem dL_law_566 : decode cL_law 566 = .ok (.iload_n 3, 1) := by decide +kernel
theorem dL_law_567 : decode cL_law 567 = .ok (.iconst 2, 1) := by decide +kernel
theorem dL_law_568 : decode cL_law 568 = .ok (.iadd, 1) := by decide +kernel
theorem dL_law_569 : decode cL_law 569 = .ok (.iaload, 1) := by decide +kernel
theorem dL_law_570 : decode cL_law 570 = .ok (.invokevirtual 54, 3) := by decide +kernel
theorem dL_law_573 : decode cL_law 573 = .ok (.aload_n 2, 1) := by decide +kernel
theorem dL_law_574 : decode cL_law 574 = .ok (.aload_n 0, 1) := by decide +kernel
theorem dL_law_575 : decode cL_law 575 = .ok (.iload_n 3, 1) := by decide +kernel
theorem dL_law_576 : decode cL_law 576 = .ok (.iconst 1, 1) := by decide +kernel
theorem dL_law_577 : decode cL_law 577 = .ok (.iadd, 1) := by decide +kernel
theorem dL_law_578 : decode cL_law 578 = .ok (.iaload, 1) := by decide +kernel
theorem dL_law_579 : decode cL_law 579 = .ok (.aload_n 0, 1) := by decide +kernel
theorem dL_law_580 : decode cL_law 580 = .ok (.iload_n 3, 1) := by decide +kernel
theorem dL_law_581 : decode cL_law 581 = .ok (.iconst 2, 1) := by decide +kernel
theorem dL_law_582 : decode cL_law 582 = .ok (.iadd, 1) := by decide +kernel
theorem dL_law_583 : decode cL_law 583 = .ok (.iaload, 1) := by decide +kernel
theorem dL_law_584 : decode cL_law 584 = .ok (.invokevirtual 57, 3) := by decide +kernel
theorem dL_law_587 : decode cL_law 587 = .ok (.if_icmp .eq 453, 3) := by decide +kernel
theorem dL_law_590 : decode cL_law 590 = .ok (.iconst 0, 1) := by decide +kernel
theorem dL_law_591 : decode cL_law 591 = .ok (.ireturn, 1) := by decide +kernel
theorem dL_law_592 : decode cL_law 592 = .ok (.aload_n 1, 1) := by decide +kernel
theorem dL_law_593 : decode cL_law 593 = .ok (.aload_n 0, 1) := by decide +kernel
theorem dL_law_594 : decode cL_law 594 = .ok (.iload_n 3, 1) := by decide +kernel
theorem dL_law_595 : decode cL_law 595 = .ok (.iconst 1, 1) := by decide +kernel
theorem dL_law_596 : decode cL_law 596 = .ok (.iadd, 1) := by decide +kernel
theorem dL_law_597 : decode cL_law 597 = .ok (.iaload, 1) := by decide +kernel
theorem dL_law_598 : decode cL_law 598 = .ok (.aload_n 0, 1) := by decide +kernel
theorem dL_law_599 : decode cL_law 599 = .ok (.iload_n 3, 1) := by decide +kernel
theorem dL_law_600 : decode cL_law 600 = .ok (.iconst 2, 1) := by decide +kernel
theorem dL_law_601 : decode cL_law 601 = .ok (.iadd, 1) := by decide +kernel
theorem dL_law_602 : decode cL_law 602 = .ok (.iaload, 1) := by decide +kernel
theorem dL_law_603 : decode cL_law 603 = .ok (.invokevirtual 58, 3) := by decide +kernel
theorem dL_law_606 : decode cL_law 606 = .ok (.aload_n 2, 1) := by decide +kernel
theorem dL_law_607 : decode cL_law 607 = .ok (.aload_n 0, 1) := by decide +kernel
theorem dL_law_608 : decode cL_law 608 = .ok (.iload_n 3, 1) := by decide +kernel
theorem dL_law_609 : decode cL_law 609 = .ok (.iconst 1, 1) := by decide +kernel
theorem dL_law_610 : decode cL_law 610 = .ok (.iadd, 1) := by decide +kernel
theorem dL_law_611 : decode cL_law 611 = .ok (.iaload, 1) := by decide +kernel
theorem dL_law_612 : decode cL_law 612 = .ok (.aload_n 0, 1) := by decide +kernel
theorem dL_law_613 : decode cL_law 613 = .ok (.iload_n 3, 1) := by decide +kernel
theorem dL_law_614 : decode cL_law 614 = .ok (.iconst 2, 1) := by decide +kernel
theorem dL_law_615 : decode cL_law 615 = .ok (.iadd, 1) := by decide +kernel
theorem dL_law_616 : decode cL_law 616 = .ok (.iaload, 1) := by decide +kernel
theorem dL_law_617 : decode cL_law 617 = .ok (.invokevirtual 61, 3) := by decide +kernel
theorem dL_law_620 : decode cL_law 620 = .ok (.if_icmp .eq 420, 3) := by decide +kernel
theorem dL_law_623 : decode cL_law 623 = .ok (.iconst 0, 1) := by decide +kernel
theorem dL_law_624 : decode cL_law 624 = .ok (.ireturn, 1) := by decide +kernel
theorem dL_law_625 : decode cL_law 625 = .ok (.aload_n 1, 1) := by decide +kernel
theorem dL_law_626 : decode cL_law 626 = .ok (.aload_n 0, 1) := by decide +kernel
theorem dL_law_627 : decode cL_law 627 = .ok (.iload_n 3, 1) := by decide +kernel
theorem dL_law_628 : decode cL_law 628 = .ok (.iconst 1, 1) := by decide +kernel
theorem dL_law_629 : decode cL_law 629 = .ok (.iadd, 1) := by decide +kernel
theorem dL_law_630 : decode cL_law 630 = .ok (.iaload, 1) := by decide +kernel
theorem dL_law_631 : decode cL_law 631 = .ok (.aload_n 0, 1) := by decide +kernel
theorem dL_law_632 : decode cL_law 632 = .ok (.iload_n 3, 1) := by decide +kernel
theorem dL_law_633 : decode cL_law 633 = .ok (.iconst 2, 1) := by decide +kernel
theorem dL_law_634 : decode cL_law 634 = .ok (.iadd, 1) := by decide +kernel
theorem dL_law_635 : decode cL_law 635 = .ok (.iaload, 1) := by decide +kernel
theorem dL_law_636 : decode cL_law 636 = .ok (.invokevirtual 62, 3) := by decide +kernel
theorem dL_law_639 : decode cL_law 639 = .ok (.aload_n 2, 1) := by decide +kernel
theorem dL_law_640 : decode cL_law 640 = .ok (.aload_n 0, 1) := by decide +kernel
theorem dL_law_641 : decode cL_law 641 = .ok (.iload_n 3, 1) := by decide +kernel
theorem dL_law_642 : decode cL_law 642 = .ok (.iconst 1, 1) := by decide +kernel
theorem dL_law_643 : decode cL_law 643 = .ok (.iadd, 1) := by decide +kernel
theorem dL_law_644 : decode cL_law 644 = .ok (.iaload, 1) := by decide +kernel
theorem dL_law_645 : decode cL_law 645 = .ok (.aload_n 0, 1) := by decide +kernel
theorem dL_law_646 : decode cL_law 646 = .ok (.iload_n 3, 1) := by decide +kernel
theorem dL_law_647 : decode cL_law 647 = .ok (.iconst 2, 1) := by decide +kernel
theorem dL_law_648 : decode cL_law 648 = .ok (.iadd, 1) := by decide +kernel
theorem dL_law_649 : decode cL_law 649 = .ok (.iaload, 1) := by decide +kernel
theorem dL_law_650 : decode cL_law 650 = .ok (.invokevirtual 65, 3) := by decide +kernel
theorem dL_law_653 : decode cL_law 653 = .ok (.if_icmp .eq 387, 3) := by decide +kernel
theorem dL_law_656 : decode cL_law 656 = .ok (.iconst 0, 1) := by decide +kernel
theorem dL_law_657 : decode cL_law 657 = .ok (.ireturn, 1) := by decide +kernel
theorem dL_law_658 : decode cL_law 658 = .ok (.aload_n 1, 1) := by decide +kernel
theorem dL_law_659 : decode cL_law 659 = .ok (.aload_n 0, 1) := by decide +kernel
theorem dL_law_660 : decode cL_law 660 = .ok (.iload_n 3, 1) := by decide +kernel
theorem dL_law_661 : decode cL_law 661 = .ok (.iconst 1, 1) := by decide +kernel
theorem dL_law_662 : decode cL_law 662 = .ok (.iadd, 1) := by decide +kernel
theorem dL_law_663 : decode cL_law 663 = .ok (.iaload, 1) := by decide +kernel
theorem dL_law_664 : decode cL_law 664 = .ok (.invokevirtual 66, 3) := by decide +kernel
theorem dL_law_667 : decode cL_law 667 = .ok (.aload_n 2, 1) := by decide +kernel
theorem dL_law_668 : decode cL_law 668 = .ok (.aload_n 0, 1) := by decide +kernel
theorem dL_law_669 : decode cL_law 669 = .ok (.iload_n 3, 1) := by decide +kernel
theorem dL_law_670 : decode cL_law 670 = .ok (.iconst 1, 1) := by decide +kernel
theorem dL_law_671 : decode cL_law 671 = .ok (.iadd, 1) := by decide +kernel
theorem dL_law_672 : decode cL_law 672 = .ok (.iaload, 1) := by decide +kernel
theorem dL_law_673 : decode cL_law 673 = .ok (.invokevirtual 69, 3) := by decide +kernel
theorem dL_law_676 : decode cL_law 676 = .ok (.if_icmp .eq 364, 3) := by decide +kernel
theorem dL_law_679 : decode cL_law 679 = .ok (.iconst 0, 1) := by decide +kernel
theorem dL_law_680 : decode cL_law 680 = .ok (.ireturn, 1) := by decide +kernel
theorem dL_law_681 : decode cL_law 681 = .ok (.aload_n 1, 1) := by decide +kernel
theorem dL_law_682 : decode cL_law 682 = .ok (.aload_n 0, 1) := by decide +kernel
theorem dL_law_683 : decode cL_law 683 = .ok (.iload_n 3, 1) := by decide +kernel
theorem dL_law_684 : decode cL_law 684 = .ok (.iconst 1, 1) := by decide +kernel
theorem dL_law_685 : decode cL_law 685 = .ok (.iadd, 1) := by decide +kernel
theorem dL_law_686 : decode cL_law 686 = .ok (.iaload, 1) := by decide +kernel
theorem dL_law_687 : decode cL_law 687 = .ok (.aload_n 0, 1) := by decide +kernel
theorem dL_law_688 : decode cL_law 688 = .ok (.iload_n 3, 1) := by decide +kernel
theorem dL_law_689 : decode cL_law 689 = .ok (.iconst 2, 1) := by decide +kernel
theorem dL_law_690 : decode cL_law 690 = .ok (.iadd, 1) := by decide +kernel
theorem dL_law_691 : decode cL_law 691 = .ok (.iaload, 1) := by decide +kernel
theorem dL_law_692 : decode cL_law 692 = .ok (.invokevirtual 70, 3) := by decide +kernel
theorem dL_law_695 : decode cL_law 695 = .ok (.aload_n 2, 1) := by decide +kernel
theorem dL_law_696 : decode cL_law 696 = .ok (.aload_n 0, 1) := by decide +kernel
theorem dL_law_697 : decode cL_law 697 = .ok (.iload_n 3, 1) := by decide +kernel
theorem dL_law_698 : decode cL_law 698 = .ok (.iconst 1, 1) := by decide +kernel
theorem dL_law_699 : decode cL_law 699 = .ok (.iadd, 1) := by decide +kernel
theorem dL_law_700 : decode cL_law 700 = .ok (.iaload, 1) := by decide +kernel
theorem dL_law_701 : decode cL_law 701 = .ok (.aload_n 0, 1) := by decide +kernel
theorem dL_law_702 : decode cL_law 702 = .ok (.iload_n 3, 1) := by decide +kernel
theorem dL_law_703 : decode cL_law 703 = .ok (.iconst 2, 1) := by decide +kernel
theorem dL_law_704 : decode cL_law 704 = .ok (.iadd, 1) := by decide +kernel
theorem dL_law_705 : decode cL_law 705 = .ok (.iaload, 1) := by decide +kernel
theorem dL_law_706 : decode cL_law 706 = .ok (.invokevirtual 73, 3) := by decide +kernel
theorem dL_law_709 : decode cL_law 709 = .ok (.if_icmp .eq 331, 3) := by decide +kernel
theorem dL_law_712 : decode cL_law 712 = .ok (.iconst 0, 1) := by decide +kernel
theorem dL_law_713 : decode cL_law 713 = .ok (.ireturn, 1) := by decide +kernel
theorem dL_law_714 : decode cL_law 714 = .ok (.aload_n 1, 1) := by decide +kernel
theorem dL_law_715 : decode cL_law 715 = .ok (.aload_n 0, 1) := by decide +kernel
theorem dL_law_716 : decode cL_law 716 = .ok (.iload_n 3, 1) := by decide +kernel
theorem dL_law_717 : decode cL_law 717 = .ok (.iconst 1, 1) := by decide +kernel
theorem dL_law_718 : decode cL_law 718 = .ok (.iadd, 1) := by decide +kernel
theorem dL_law_719 : decode cL_law 719 = .ok (.iaload, 1) := by decide +kernel
theorem dL_law_720 : decode cL_law 720 = .ok (.aload_n 0, 1) := by decide +kernel
theorem dL_law_721 : decode cL_law 721 = .ok (.iload_n 3, 1) := by decide +kernel
theorem dL_law_722 : decode cL_law 722 = .ok (.iconst 2, 1) := by decide +kernel
theorem dL_law_723 : decode cL_law 723 = .ok (.iadd, 1) := by decide +kernel
theorem dL_law_724 : decode cL_law 724 = .ok (.iaload, 1) := by decide +kernel
theorem dL_law_725 : decode cL_law 725 = .ok (.aload_n 0, 1) := by decide +kernel
theorem dL_law_726 : decode cL_law 726 = .ok (.iload_n 3, 1) := by decide +kernel
theorem dL_law_727 : decode cL_law 727 = .ok (.iconst 3, 1) := by decide +kernel
theorem dL_law_728 : decode cL_law 728 = .ok (.iadd, 1) := by decide +kernel
theorem dL_law_729 : decode cL_law 729 = .ok (.iaload, 1) := by decide +kernel
theorem dL_law_730 : decode cL_law 730 = .ok (.invokevirtual 74, 3) := by decide +kernel
theorem dL_law_733 : decode cL_law 733 = .ok (.aload_n 2, 1) := by decide +kernel
theorem dL_law_734 : decode cL_law 734 = .ok (.aload_n 0, 1) := by decide +kernel
theorem dL_law_735 : decode cL_law 735 = .ok (.iload_n 3, 1) := by decide +kernel
theorem dL_law_736 : decode cL_law 736 = .ok (.iconst 1, 1) := by decide +kernel
theorem dL_law_737 : decode cL_law 737 = .ok (.iadd, 1) := by decide +kernel
theorem dL_law_738 : decode cL_law 738 = .ok (.iaload, 1) := by decide +kernel
theorem dL_law_739 : decode cL_law 739 = .ok (.aload_n 0, 1) := by decide +kernel
theorem dL_law_740 : decode cL_law 740 = .ok (.iload_n 3, 1) := by decide +kernel
theorem dL_law_741 : decode cL_law 741 = .ok (.iconst 2, 1) := by decide +kernel
theorem dL_law_742 : decode cL_law 742 = .ok (.iadd, 1) := by decide +kernel
theorem dL_law_743 : decode cL_law 743 = .ok (.iaload, 1) := by decide +kernel
theorem dL_law_744 : decode cL_law 744 = .ok (.aload_n 0, 1) := by decide +kernel
theorem dL_law_745 : decode cL_law 745 = .ok (.iload_n 3, 1) := by decide +kernel
theorem dL_law_746 : decode cL_law 746 = .ok (.iconst 3, 1) := by decide +kernel
theorem dL_law_747 : decode cL_law 747 = .ok (.iadd, 1) := by decide +kernel
theorem dL_law_748 : decode cL_law 748 = .ok (.iaload, 1) := by decide +kernel
theorem dL_law_749 : decode cL_law 749 = .ok (.invokevirtual 77, 3) := by decide +kernel
theorem dL_law_752 : decode cL_law 752 = .ok (.if_icmp .eq 288, 3) := by decide +kernel
theorem dL_law_755 : decode cL_law 755 = .ok (.iconst 0, 1) := by decide +kernel
theorem dL_law_756 : decode cL_law 756 = .ok (.ireturn, 1) := by decide +kernel
theorem dL_law_757 : decode cL_law 757 = .ok (.aload_n 1, 1) := by decide +kernel
theorem dL_law_758 : decode cL_law 758 = .ok (.aload_n 0, 1) := by decide +kernel
theorem dL_law_759 : decode cL_law 759 = .ok (.iload_n 3, 1) := by decide +kernel
theorem dL_law_760 : decode cL_law 760 = .ok (.iconst 1, 1) := by decide +kernel
theorem dL_law_761 : decode cL_law 761 = .ok (.iadd, 1) := by decide +kernel
theorem dL_law_762 : decode cL_law 762 = .ok (.iaload, 1) := by decide +kernel
theorem dL_law_763 : decode cL_law 763 = .ok (.aload_n 0, 1) := by decide +kernel
theorem dL_law_764 : decode cL_law 764 = .ok (.iload_n 3, 1) := by decide +kernel
theorem dL_law_765 : decode cL_law 765 = .ok (.iconst 2, 1) := by decide +kernel
theorem dL_law_766 : decode cL_law 766 = .ok (.iadd, 1) := by decide +kernel
theorem dL_law_767 : decode cL_law 767 = .ok (.iaload, 1) := by decide +kernel
theorem dL_law_768 : decode cL_law 768 = .ok (.aload_n 0, 1) := by decide +kernel
theorem dL_law_769 : decode cL_law 769 = .ok (.iload_n 3, 1) := by decide +kernel
theorem dL_law_770 : decode cL_law 770 = .ok (.iconst 3, 1) := by decide +kernel
theorem dL_law_771 : decode cL_law 771 = .ok (.iadd, 1) := by decide +kernel
theorem dL_law_772 : decode cL_law 772 = .ok (.iaload, 1) := by decide +kernel
theorem dL_law_773 : decode cL_law 773 = .ok (.invokevirtual 78, 3) := by decide +kernel
theorem dL_law_776 : decode cL_law 776 = .ok (.aload_n 2, 1) := by decide +kernel
theorem dL_law_777 : decode cL_law 777 = .ok (.aload_n 0, 1) := by decide +kernel
theorem dL_law_778 : decode cL_law 778 = .ok (.iload_n 3, 1) := by decide +kernel
theorem dL_law_779 : decode cL_law 779 = .ok (.iconst 1, 1) := by decide +kernel
theorem dL_law_780 : decode cL_law 780 = .ok (.iadd, 1) := by decide +kernel
theorem dL_law_781 : decode cL_law 781 = .ok (.iaload, 1) := by decide +kernel
theorem dL_law_782 : decode cL_law 782 = .ok (.aload_n 0, 1) := by decide +kernel
theorem dL_law_783 : decode cL_law 783 = .ok (.iload_n 3, 1) := by decide +kernel
theorem dL_law_784 : decode cL_law 784 = .ok (.iconst 2, 1) := by decide +kernel
theorem dL_law_785 : decode cL_law 785 = .ok (.iadd, 1) := by decide +kernel
theorem dL_law_786 : decode cL_law 786 = .ok (.iaload, 1) := by decide +kernel
theorem dL_law_787 : decode cL_law 787 = .ok (.aload_n 0, 1) := by decide +kernel
theorem dL_law_788 : decode cL_law 788 = .ok (.iload_n 3, 1) := by decide +kernel
theorem dL_law_789 : decode cL_law 789 = .ok (.iconst 3, 1) := by decide +kernel
theorem dL_law_790 : decode cL_law 790 = .ok (.iadd, 1) := by decide +kernel
theorem dL_law_791 : decode cL_law 791 = .ok (.iaload, 1) := by decide +kernel
theorem dL_law_792 : decode cL_law 792 = .ok (.invokevirtual 81, 3) := by decide +kernel
theorem dL_law_795 : decode cL_law 795 = .ok (.if_icmp .eq 245, 3) := by decide +kernel
theorem dL_law_798 : decode cL_law 798 = .ok (.iconst 0, 1) := by decide +kernel
theorem dL_law_799 : decode cL_law 799 = .ok (.ireturn, 1) := by decide +kernel
theorem dL_law_800 : decode cL_law 800 = .ok (.aload_n 1, 1) := by decide +kernel
theorem dL_law_801 : decode cL_law 801 = .ok (.aload_n 0, 1) := by decide +kernel
theorem dL_law_802 : decode cL_law 802 = .ok (.iload_n 3, 1) := by decide +kernel
theorem dL_law_803 : decode cL_law 803 = .ok (.iconst 1, 1) := by decide +kernel
theorem dL_law_804 : decode cL_law 804 = .ok (.iadd, 1) := by decide +kernel
theorem dL_law_805 : decode cL_law 805 = .ok (.iaload, 1) := by decide +kernel
theorem dL_law_806 : decode cL_law 806 = .ok (.aload_n 0, 1) := by decide +kernel
theorem dL_law_807 : decode cL_law 807 = .ok (.iload_n 3, 1) := by decide +kernel
theorem dL_law_808 : decode cL_law 808 = .ok (.iconst 2, 1) := by decide +kernel
theorem dL_law_809 : decode cL_law 809 = .ok (.iadd, 1) := by decide +kernel
theorem dL_law_810 : decode cL_law 810 = .ok (.iaload, 1) := by decide +kernel
theorem dL_law_811 : decode cL_law 811 = .ok (.invokevirtual 82, 3) := by decide +kernel
theorem dL_law_814 : decode cL_law 814 = .ok (.aload_n 2, 1) := by decide +kernel
theorem dL_law_815 : decode cL_law 815 = .ok (.aload_n 0, 1) := by decide +kernel
theorem dL_law_816 : decode cL_law 816 = .ok (.iload_n 3, 1) := by decide +kernel
theorem dL_law_817 : decode cL_law 817 = .ok (.iconst 1, 1) := by decide +kernel
theorem dL_law_818 : decode cL_law 818 = .ok (.iadd, 1) := by decide +kernel
theorem dL_law_819 : decode cL_law 819 = .ok (.iaload, 1) := by decide +kernel
theorem dL_law_820 : decode cL_law 820 = .ok (.aload_n 0, 1) := by decide +kernel
theorem dL_law_821 : decode cL_law 821 = .ok (.iload_n 3, 1) := by decide +kernel
theorem dL_law_822 : decode cL_law 822 = .ok (.iconst 2, 1) := by decide +kernel
theorem dL_law_823 : decode cL_law 823 = .ok (.iadd, 1) := by decide +kernel
theorem dL_law_824 : decode cL_law 824 = .ok (.iaload, 1) := by decide +kernel
theorem dL_law_825 : decode cL_law 825 = .ok (.invokevirtual 85, 3) := by decide +kernel
theorem dL_law_828 : decode cL_law 828 = .ok (.if_icmp .eq 212, 3) := by decide +kernel
theorem dL_law_831 : decode cL_law 831 = .ok (.iconst 0, 1) := by decide +kernel
theorem dL_law_832 : decode cL_law 832 = .ok (.ireturn, 1) := by decide +kernel
theorem dL_law_833 : decode cL_law 833 = .ok (.aload_n 1, 1) := by decide +kernel
theorem dL_law_834 : decode cL_law 834 = .ok (.aload_n 0, 1) := by decide +kernel
theorem dL_law_835 : decode cL_law 835 = .ok (.iload_n 3, 1) := by decide +kernel
theorem dL_law_836 : decode cL_law 836 = .ok (.iconst 1, 1) := by decide +kernel
theorem dL_law_837 : decode cL_law 837 = .ok (.iadd, 1) := by decide +kernel
theorem dL_law_838 : decode cL_law 838 = .ok (.iaload, 1) := by decide +kernel
theorem dL_law_839 : decode cL_law 839 = .ok (.invokevirtual 86, 3) := by decide +kernel
theorem dL_law_842 : decode cL_law 842 = .ok (.aload_n 2, 1) := by decide +kernel
theorem dL_law_843 : decode cL_law 843 = .ok (.aload_n 0, 1) := by decide +kernel
theorem dL_law_844 : decode cL_law 844 = .ok (.iload_n 3, 1) := by decide +kernel
theorem dL_law_845 : decode cL_law 845 = .ok (.iconst 1, 1) := by decide +kernel
theorem dL_law_846 : decode cL_law 846 = .ok (.iadd, 1) := by decide +kernel
theorem dL_law_847 : decode cL_law 847 = .ok (.iaload, 1) := by decide +kernel
theorem dL_law_848 : decode cL_law 848 = .ok (.invokevirtual 89, 3) := by decide +kernel
theorem dL_law_851 : decode cL_law 851 = .ok (.if_icmp .eq 189, 3) := by decide +kernel
theorem dL_law_854 : decode cL_law 854 = .ok (.iconst 0, 1) := by decide +kernel
theorem dL_law_855 : decode cL_law 855 = .ok (.ireturn, 1) := by decide +kernel
theorem dL_law_856 : decode cL_law 856 = .ok (.aload_n 1, 1) := by decide +kernel
theorem dL_law_857 : decode cL_law 857 = .ok (.aload_n 0, 1) := by decide +kernel
theorem dL_law_858 : decode cL_law 858 = .ok (.iload_n 3, 1) := by decide +kernel
theorem dL_law_859 : decode cL_law 859 = .ok (.iconst 1, 1) := by decide +kernel
theorem dL_law_860 : decode cL_law 860 = .ok (.iadd, 1) := by decide +kernel
theorem dL_law_861 : decode cL_law 861 = .ok (.iaload, 1) := by decide +kernel
theorem dL_law_862 : decode cL_law 862 = .ok (.aload_n 0, 1) := by decide +kernel
theorem dL_law_863 : decode cL_law 863 = .ok (.iload_n 3, 1) := by decide +kernel
theorem dL_law_864 : decode cL_law 864 = .ok (.iconst 2, 1) := by decide +kernel
theorem dL_law_865 : decode cL_law 865 = .ok (.iadd, 1) := by decide +kernel
theorem dL_law_866 : decode cL_law 866 = .ok (.iaload, 1) := by decide +kernel
theorem dL_law_867 : decode cL_law 867 = .ok (.invokevirtual 90, 3) := by decide +kernel
theorem dL_law_870 : decode cL_law 870 = .ok (.aload_n 2, 1) := by decide +kernel
theorem dL_law_871 : decode cL_law 871 = .ok (.aload_n 0, 1) := by decide +kernel
theorem dL_law_872 : decode cL_law 872 = .ok (.iload_n 3, 1) := by decide +kernel
theorem dL_law_873 : decode cL_law 873 = .ok (.iconst 1, 1) := by decide +kernel
theorem dL_law_874 : decode cL_law 874 = .ok (.iadd, 1) := by decide +kernel
theorem dL_law_875 : decode cL_law 875 = .ok (.iaload, 1) := by decide +kernel
theorem dL_law_876 : decode cL_law 876 = .ok (.aload_n 0, 1) := by decide +kernel
theorem dL_law_877 : decode cL_law 877 = .ok (.iload_n 3, 1) := by decide +kernel
theorem dL_law_878 : decode cL_law 878 = .ok (.iconst 2, 1) := by decide +kernel
theorem dL_law_879 : decode cL_law 879 = .ok (.iadd, 1) := by decide +kernel
theorem dL_law_880 : decode cL_law 880 = .ok (.iaload, 1) := by decide +kernel
theorem dL_law_881 : decode cL_law 881 = .ok (.invokevirtual 93, 3) := by decide +kernel
theorem dL_law_884 : decode cL_law 884 = .ok (.if_icmp .eq 156, 3) := by decide +kernel
theorem dL_law_887 : decode cL_law 887 = .ok (.iconst 0, 1) := by decide +kernel
theorem dL_law_888 : decode cL_law 888 = .ok (.ireturn, 1) := by decide +kernel
theorem dL_law_889 : decode cL_law 889 = .ok (.aload_n 1, 1) := by decide +kernel
theorem dL_law_890 : decode cL_law 890 = .ok (.aload_n 0, 1) := by decide +kernel
theorem dL_law_891 : decode cL_law 891 = .ok (.iload_n 3, 1) := by decide +kernel
theorem dL_law_892 : decode cL_law 892 = .ok (.iconst 1, 1) := by decide +kernel
theorem dL_law_893 : decode cL_law 893 = .ok (.iadd, 1) := by decide +kernel
theorem dL_law_894 : decode cL_law 894 = .ok (.iaload, 1) := by decide +kernel
theorem dL_law_895 : decode cL_law 895 = .ok (.i2l, 1) := by decide +kernel
theorem dL_law_896 : decode cL_law 896 = .ok (.bipush 32, 2) := by decide +kernel
theorem dL_law_898 : decode cL_law 898 = .ok (.lshl, 1) := by decide +kernel
theorem dL_law_899 : decode cL_law 899 = .ok (.aload_n 0, 1) := by decide +kernel
theorem dL_law_900 : decode cL_law 900 = .ok (.iload_n 3, 1) := by decide +kernel
theorem dL_law_901 : decode cL_law 901 = .ok (.iconst 2, 1) := by decide +kernel
theorem dL_law_902 : decode cL_law 902 = .ok (.iadd, 1) := by decide +kernel
theorem dL_law_903 : decode cL_law 903 = .ok (.iaload, 1) := by decide +kernel
theorem dL_law_904 : decode cL_law 904 = .ok (.i2l, 1) := by decide +kernel
theorem dL_law_905 : decode cL_law 905 = .ok (.ldc2_w 94, 3) := by decide +kernel
theorem dL_law_908 : decode cL_law 908 = .ok (.land, 1) := by decide +kernel
theorem dL_law_909 : decode cL_law 909 = .ok (.lor, 1) := by decide +kernel
theorem dL_law_910 : decode cL_law 910 = .ok (.invokevirtual 96, 3) := by decide +kernel
theorem dL_law_913 : decode cL_law 913 = .ok (.aload_n 2, 1) := by decide +kernel
theorem dL_law_914 : decode cL_law 914 = .ok (.aload_n 0, 1) := by decide +kernel
theorem dL_law_915 : decode cL_law 915 = .ok (.iload_n 3, 1) := by decide +kernel
theorem dL_law_916 : decode cL_law 916 = .ok (.iconst 1, 1) := by decide +kernel
theorem dL_law_917 : decode cL_law 917 = .ok (.iadd, 1) := by decide +kernel
theorem dL_law_918 : decode cL_law 918 = .ok (.iaload, 1) := by decide +kernel
theorem dL_law_919 : decode cL_law 919 = .ok (.i2l, 1) := by decide +kernel
theorem dL_law_920 : decode cL_law 920 = .ok (.bipush 32, 2) := by decide +kernel
theorem dL_law_922 : decode cL_law 922 = .ok (.lshl, 1) := by decide +kernel
theorem dL_law_923 : decode cL_law 923 = .ok (.aload_n 0, 1) := by decide +kernel
theorem dL_law_924 : decode cL_law 924 = .ok (.iload_n 3, 1) := by decide +kernel
theorem dL_law_925 : decode cL_law 925 = .ok (.iconst 2, 1) := by decide +kernel
theorem dL_law_926 : decode cL_law 926 = .ok (.iadd, 1) := by decide +kernel
theorem dL_law_927 : decode cL_law 927 = .ok (.iaload, 1) := by decide +kernel
theorem dL_law_928 : decode cL_law 928 = .ok (.i2l, 1) := by decide +kernel
theorem dL_law_929 : decode cL_law 929 = .ok (.ldc2_w 94, 3) := by decide +kernel
theorem dL_law_932 : decode cL_law 932 = .ok (.land, 1) := by decide +kernel
theorem dL_law_933 : decode cL_law 933 = .ok (.lor, 1) := by decide +kernel
theorem dL_law_934 : decode cL_law 934 = .ok (.invokevirtual 100, 3) := by decide +kernel
theorem dL_law_937 : decode cL_law 937 = .ok (.if_icmp .eq 103, 3) := by decide +kernel
theorem dL_law_940 : decode cL_law 940 = .ok (.iconst 0, 1) := by decide +kernel
theorem dL_law_941 : decode cL_law 941 = .ok (.ireturn, 1) := by decide +kernel
theorem dL_law_942 : decode cL_law 942 = .ok (.aload_n 1, 1) := by decide +kernel
theorem dL_law_943 : decode cL_law 943 = .ok (.invokevirtual 101, 3) := by decide +kernel
theorem dL_law_946 : decode cL_law 946 = .ok (.aload_n 2, 1) := by decide +kernel
theorem dL_law_947 : decode cL_law 947 = .ok (.invokevirtual 105, 3) := by decide +kernel
theorem dL_law_950 : decode cL_law 950 = .ok (.if_icmp .eq 90, 3) := by decide +kernel
theorem dL_law_953 : decode cL_law 953 = .ok (.iconst 0, 1) := by decide +kernel
theorem dL_law_954 : decode cL_law 954 = .ok (.ireturn, 1) := by decide +kernel
theorem dL_law_955 : decode cL_law 955 = .ok (.aload_n 1, 1) := by decide +kernel
theorem dL_law_956 : decode cL_law 956 = .ok (.invokevirtual 106, 3) := by decide +kernel
theorem dL_law_959 : decode cL_law 959 = .ok (.aload_n 2, 1) := by decide +kernel
theorem dL_law_960 : decode cL_law 960 = .ok (.invokevirtual 109, 3) := by decide +kernel
theorem dL_law_963 : decode cL_law 963 = .ok (.if_icmp .eq 77, 3) := by decide +kernel
theorem dL_law_966 : decode cL_law 966 = .ok (.iconst 0, 1) := by decide +kernel
theorem dL_law_967 : decode cL_law 967 = .ok (.ireturn, 1) := by decide +kernel
theorem dL_law_968 : decode cL_law 968 = .ok (.aload_n 1, 1) := by decide +kernel
theorem dL_law_969 : decode cL_law 969 = .ok (.invokevirtual 110, 3) := by decide +kernel
theorem dL_law_972 : decode cL_law 972 = .ok (.aload_n 2, 1) := by decide +kernel
theorem dL_law_973 : decode cL_law 973 = .ok (.invokevirtual 113, 3) := by decide +kernel
theorem dL_law_976 : decode cL_law 976 = .ok (.if_icmp .eq 64, 3) := by decide +kernel
theorem dL_law_979 : decode cL_law 979 = .ok (.iconst 0, 1) := by decide +kernel
theorem dL_law_980 : decode cL_law 980 = .ok (.ireturn, 1) := by decide +kernel
theorem dL_law_981 : decode cL_law 981 = .ok (.aload_n 1, 1) := by decide +kernel
theorem dL_law_982 : decode cL_law 982 = .ok (.invokevirtual 114, 3) := by decide +kernel
theorem dL_law_985 : decode cL_law 985 = .ok (.aload_n 2, 1) := by decide +kernel
theorem dL_law_986 : decode cL_law 986 = .ok (.invokevirtual 117, 3) := by decide +kernel
theorem dL_law_989 : decode cL_law 989 = .ok (.if_icmp .eq 51, 3) := by decide +kernel
theorem dL_law_992 : decode cL_law 992 = .ok (.iconst 0, 1) := by decide +kernel
theorem dL_law_993 : decode cL_law 993 = .ok (.ireturn, 1) := by decide +kernel
theorem dL_law_994 : decode cL_law 994 = .ok (.aload_n 1, 1) := by decide +kernel
theorem dL_law_995 : decode cL_law 995 = .ok (.aload_n 0, 1) := by decide +kernel
theorem dL_law_996 : decode cL_law 996 = .ok (.iload_n 3, 1) := by decide +kernel
theorem dL_law_997 : decode cL_law 997 = .ok (.iconst 1, 1) := by decide +kernel
theorem dL_law_998 : decode cL_law 998 = .ok (.iadd, 1) := by decide +kernel
theorem dL_law_999 : decode cL_law 999 = .ok (.iaload, 1) := by decide +kernel
theorem dL_law_1000 : decode cL_law 1000 = .ok (.invokevirtual 118, 3) := by decide +kernel
theorem dL_law_1003 : decode cL_law 1003 = .ok (.aload_n 2, 1) := by decide +kernel
theorem dL_law_1004 : decode cL_law 1004 = .ok (.aload_n 0, 1) := by decide +kernel
theorem dL_law_1005 : decode cL_law 1005 = .ok (.iload_n 3, 1) := by decide +kernel
theorem dL_law_1006 : decode cL_law 1006 = .ok (.iconst 1, 1) := by decide +kernel
theorem dL_law_1007 : decode cL_law 1007 = .ok (.iadd, 1) := by decide +kernel
theorem dL_law_1008 : decode cL_law 1008 = .ok (.iaload, 1) := by decide +kernel
theorem dL_law_1009 : decode cL_law 1009 = .ok (.invokevirtual 121, 3) := by decide +kernel
theorem dL_law_1012 : decode cL_law 1012 = .ok (.if_icmp .eq 28, 3) := by decide +kernel
theorem dL_law_1015 : decode cL_law 1015 = .ok (.iconst 0, 1) := by decide +kernel
theorem dL_law_1016 : decode cL_law 1016 = .ok (.ireturn, 1) := by decide +kernel
theorem dL_law_1017 : decode cL_law 1017 = .ok (.aload_n 1, 1) := by decide +kernel
theorem dL_law_1018 : decode cL_law 1018 = .ok (.aload_n 0, 1) := by decide +kernel
theorem dL_law_1019 : decode cL_law 1019 = .ok (.iload_n 3, 1) := by decide +kernel
theorem dL_law_1020 : decode cL_law 1020 = .ok (.iconst 1, 1) := by decide +kernel
theorem dL_law_1021 : decode cL_law 1021 = .ok (.iadd, 1) := by decide +kernel
theorem dL_law_1022 : decode cL_law 1022 = .ok (.iaload, 1) := by decide +kernel
theorem dL_law_1023 : decode cL_law 1023 = .ok (.invokevirtual 122, 3) := by decide +kernel
theorem dL_law_1026 : decode cL_law 1026 = .ok (.aload_n 2, 1) := by decide +kernel
theorem dL_law_1027 : decode cL_law 1027 = .ok (.aload_n 0, 1) := by decide +kernel
theorem dL_law_1028 : decode cL_law 1028 = .ok (.iload_n 3, 1) := by decide +kernel
theorem dL_law_1029 : decode cL_law 1029 = .ok (.iconst 1, 1) := by decide +kernel
theorem dL_law_1030 : decode cL_law 1030 = .ok (.iadd, 1) := by decide +kernel
theorem dL_law_1031 : decode cL_law 1031 = .ok (.iaload, 1) := by decide +kernel
theorem dL_law_1032 : decode cL_law 1032 = .ok (.invokevirtual 125, 3) := by decide +kernel
theorem dL_law_1035 : decode cL_law 1035 = .ok (.if_icmp .eq 5, 3) := by decide +kernel
theorem dL_law_1038 : decode cL_law 1038 = .ok (.iconst 0, 1) := by decide +kernel
theorem dL_law_1039 : decode cL_law 1039 = .ok (.ireturn, 1) := by decide +kernel
theorem dL_law_1040 : decode cL_law 1040 = .ok (.iinc 3 6, 3) := by decide +kernel
theorem dL_law_1043 : decode cL_law 1043 = .ok (.goto (-1025), 3) := by decide +kernel
theorem dL_law_1046 : decode cL_law 1046 = .ok (.iconst 1, 1) := by decide +kernel
theorem dL_law_1047 : decode cL_law 1047 = .ok (.ireturn, 1) := by decide +kernel
theorem dF_mod_0 : decode cF_mod 0 = .ok (.iload_n 0, 1) := by decide +kernel
theorem dF_mod_1 : decode cF_mod 1 = .ok (.iload_n 1, 1) := by decide +kernel
theorem dF_mod_2 : decode cF_mod 2 = .ok (.irem, 1) := by decide +kernel
theorem dF_mod_3 : decode cF_mod 3 = .ok (.istore_n 2, 1) := by decide +kernel
theorem dF_mod_4 : decode cF_mod 4 = .ok (.iload_n 0, 1) := by decide +kernel
theorem dF_mod_5 : decode cF_mod 5 = .ok (.iload_n 1, 1) := by decide +kernel
theorem dF_mod_6 : decode cF_mod 6 = .ok (.ixor, 1) := by decide +kernel
theorem dF_mod_7 : decode cF_mod 7 = .ok (.ifCond .ge 11, 3) := by decide +kernel
theorem dF_mod_10 : decode cF_mod 10 = .ok (.iload_n 2, 1) := by decide +kernel
theorem dF_mod_11 : decode cF_mod 11 = .ok (.ifCond .eq 7, 3) := by decide +kernel
theorem dF_mod_14 : decode cF_mod 14 = .ok (.iload_n 2, 1) := by decide +kernel
theorem dF_mod_15 : decode cF_mod 15 = .ok (.iload_n 1, 1) := by decide +kernel
theorem dF_mod_16 : decode cF_mod 16 = .ok (.iadd, 1) := by decide +kernel
theorem dF_mod_17 : decode cF_mod 17 = .ok (.ireturn, 1) := by decide +kernel
theorem dF_mod_18 : decode cF_mod 18 = .ok (.iload_n 2, 1) := by decide +kernel
theorem dF_mod_19 : decode cF_mod 19 = .ok (.ireturn, 1) := by decide +kernel
