def RX0 : String := "CutStore$Buffer"
def TX0 : u_T := fun k => match k with
  | 0 => ("CutStore$Buffer", "codes", "[I", true)
  | _ => ("CutStore$Buffer", "length", "I", false)
def tyX0 : Nat → FieldType := fun k => match k with
  | 0 => .array .int
  | _ => .int
abbrev wsX00 : List Cond := u_ws RX0 TX0 2
theorem nmX0 : ∀ a, a < 2 → ∀ b, b < 2 → a ≠ b → (TX0 a).2.1 ≠ (TX0 b).2.1 := by decide +kernel
theorem tyX0_ok : ∀ k, k < 2 → parseFieldDescriptor (TX0 k).2.2.1 = some (tyX0 k) := by decide +kernel
abbrev cX0_init : ByteArray := prog_2_method_1_code
def yX0_init : MethodName := ⟨RX0, "<init>", "()V"⟩
abbrev cX0_clear : ByteArray := prog_2_method_2_code
def yX0_clear : MethodName := ⟨RX0, "clear", "()V"⟩
abbrev cX0_add : ByteArray := prog_2_method_3_code
def yX0_add : MethodName := ⟨RX0, "add", "(I)V"⟩
abbrev cX0_isLetter : ByteArray := prog_2_method_4_code
def yX0_isLetter : MethodName := ⟨RX0, "isLetter", "(I)Z"⟩
abbrev cX0_signsAddedAt : ByteArray := prog_2_method_5_code
def yX0_signsAddedAt : MethodName := ⟨RX0, "signsAddedAt", "(I)I"⟩
abbrev cX0_errorIndex : ByteArray := prog_2_method_6_code
def yX0_errorIndex : MethodName := ⟨RX0, "errorIndex", "()I"⟩
abbrev cX0_isComplete : ByteArray := prog_2_method_7_code
def yX0_isComplete : MethodName := ⟨RX0, "isComplete", "()Z"⟩
abbrev cX0_readInto : ByteArray := prog_2_method_9_code
def yX0_readInto : MethodName := ⟨RX0, "readInto", "(LCutStore$Cut;)V"⟩
def RX1 : String := "CutStore$Cut"
def TX1 : u_T := fun k => match k with
  | 0 => ("CutStore$Cut", "signs", "[I", true)
  | 1 => ("CutStore$Cut", "length", "I", false)
  | 2 => ("CutStore$Cut", "starts", "[I", true)
  | 3 => ("CutStore$Cut", "lengths", "[I", true)
  | 4 => ("CutStore$Cut", "forced", "[I", true)
  | 5 => ("CutStore$Cut", "rows", "[J", true)
  | _ => ("CutStore$Cut", "pieces", "I", false)
def tyX1 : Nat → FieldType := fun k => match k with
  | 0 => .array .int
  | 1 => .int
  | 2 => .array .int
  | 3 => .array .int
  | 4 => .array .int
  | 5 => .array .long
  | _ => .int
abbrev wsX10 : List Cond := u_ws RX1 TX1 7
theorem nmX1 : ∀ a, a < 7 → ∀ b, b < 7 → a ≠ b → (TX1 a).2.1 ≠ (TX1 b).2.1 := by decide +kernel
theorem tyX1_ok : ∀ k, k < 7 → parseFieldDescriptor (TX1 k).2.2.1 = some (tyX1 k) := by decide +kernel
abbrev cX1_init : ByteArray := prog_3_method_1_code
def yX1_init : MethodName := ⟨RX1, "<init>", "()V"⟩
abbrev cX1_clear : ByteArray := prog_3_method_2_code
def yX1_clear : MethodName := ⟨RX1, "clear", "()V"⟩
abbrev cX1_addSign : ByteArray := prog_3_method_3_code
def yX1_addSign : MethodName := ⟨RX1, "addSign", "(I)V"⟩
abbrev cX1_addSigns : ByteArray := prog_3_method_4_code
def yX1_addSigns : MethodName := ⟨RX1, "addSigns", "(LCutStore$Cut;II)V"⟩
abbrev cX1_becomeSignsOf : ByteArray := prog_3_method_5_code
def yX1_becomeSignsOf : MethodName := ⟨RX1, "becomeSignsOf", "(LCutStore$Cut;)V"⟩
abbrev cX1_become : ByteArray := prog_3_method_6_code
def yX1_become : MethodName := ⟨RX1, "become", "(LCutStore$Cut;)V"⟩
abbrev cX1_cutBy : ByteArray := prog_3_method_7_code
def yX1_cutBy : MethodName := ⟨RX1, "cutBy", "(LCutStore$Settings;)V"⟩
abbrev cX1_addPiece : ByteArray := prog_3_method_8_code
def yX1_addPiece : MethodName := ⟨RX1, "addPiece", "(IIZ)V"⟩
abbrev cX1_packed : ByteArray := prog_3_method_9_code
def yX1_packed : MethodName := ⟨RX1, "packed", "(II)J"⟩
abbrev cX1_pieceAt : ByteArray := prog_3_method_10_code
def yX1_pieceAt : MethodName := ⟨RX1, "pieceAt", "(I)I"⟩
abbrev cX1_endsBehind : ByteArray := prog_3_method_11_code
def yX1_endsBehind : MethodName := ⟨RX1, "endsBehind", "(I)Z"⟩
abbrev cX1_has : ByteArray := prog_3_method_12_code
def yX1_has : MethodName := ⟨RX1, "has", "(J)Z"⟩
abbrev cX1_hasAheadOf : ByteArray := prog_3_method_13_code
def yX1_hasAheadOf : MethodName := ⟨RX1, "hasAheadOf", "(IJ)Z"⟩
abbrev cX1_unlikePieces : ByteArray := prog_3_method_14_code
def yX1_unlikePieces : MethodName := ⟨RX1, "unlikePieces", "()I"⟩
abbrev cX1_unlikePiecesAlsoIn : ByteArray := prog_3_method_15_code
def yX1_unlikePiecesAlsoIn : MethodName := ⟨RX1, "unlikePiecesAlsoIn", "(LCutStore$Cut;)I"⟩
abbrev cX1_forcedPieces : ByteArray := prog_3_method_18_code
def yX1_forcedPieces : MethodName := ⟨RX1, "forcedPieces", "()I"⟩
abbrev cX1_longestPiece : ByteArray := prog_3_method_19_code
def yX1_longestPiece : MethodName := ⟨RX1, "longestPiece", "()I"⟩
def RX2 : String := "CutStore$History"
def TX2 : u_T := fun k => match k with
  | 0 => ("CutStore$History", "states", "[LCutStore$State;", true)
  | _ => ("CutStore$History", "saved", "I", false)
def tyX2 : Nat → FieldType := fun k => match k with
  | 0 => .array (.object "CutStore$State")
  | _ => .int
abbrev wsX20 : List Cond := u_ws RX2 TX2 2
theorem nmX2 : ∀ a, a < 2 → ∀ b, b < 2 → a ≠ b → (TX2 a).2.1 ≠ (TX2 b).2.1 := by decide +kernel
theorem tyX2_ok : ∀ k, k < 2 → parseFieldDescriptor (TX2 k).2.2.1 = some (tyX2 k) := by decide +kernel
abbrev cX2_init : ByteArray := prog_4_method_1_code
def yX2_init : MethodName := ⟨RX2, "<init>", "()V"⟩
abbrev cX2_push : ByteArray := prog_4_method_2_code
def yX2_push : MethodName := ⟨RX2, "push", "(LCutStore$State;)V"⟩
abbrev cX2_dropOldest : ByteArray := prog_4_method_3_code
def yX2_dropOldest : MethodName := ⟨RX2, "dropOldest", "()V"⟩
def RX3 : String := "CutStore$Settings"
def TX3 : u_T := fun k => match k with
  | _ => ("CutStore$Settings", "values", "[I", true)
def tyX3 : Nat → FieldType := fun k => match k with
  | _ => .array .int
abbrev wsX30 : List Cond := u_ws RX3 TX3 1
theorem nmX3 : ∀ a, a < 1 → ∀ b, b < 1 → a ≠ b → (TX3 a).2.1 ≠ (TX3 b).2.1 := by decide +kernel
theorem tyX3_ok : ∀ k, k < 1 → parseFieldDescriptor (TX3 k).2.2.1 = some (tyX3 k) := by decide +kernel
abbrev cX3_init : ByteArray := prog_5_method_1_code
def yX3_init : MethodName := ⟨RX3, "<init>", "()V"⟩
abbrev cX3_become : ByteArray := prog_5_method_2_code
def yX3_become : MethodName := ⟨RX3, "become", "(LCutStore$Settings;)V"⟩
abbrev cX3_sumAt : ByteArray := prog_5_method_3_code
def yX3_sumAt : MethodName := ⟨RX3, "sumAt", "(LCutStore$Cut;I)I"⟩
abbrev cX3_endPieceAt : ByteArray := prog_5_method_4_code
def yX3_endPieceAt : MethodName := ⟨RX3, "endPieceAt", "(LCutStore$Cut;I)Z"⟩
def RX4 : String := "CutStore$State"
def TX4 : u_T := fun k => match k with
  | 0 => ("CutStore$State", "cuts", "[LCutStore$Cut;", true)
  | 1 => ("CutStore$State", "store", "LCutStore$Store;", true)
  | _ => ("CutStore$State", "settings", "LCutStore$Settings;", true)
def tyX4 : Nat → FieldType := fun k => match k with
  | 0 => .array (.object "CutStore$Cut")
  | 1 => .object "CutStore$Store"
  | _ => .object "CutStore$Settings"
abbrev wsX40 : List Cond := u_ws RX4 TX4 3
theorem nmX4 : ∀ a, a < 3 → ∀ b, b < 3 → a ≠ b → (TX4 a).2.1 ≠ (TX4 b).2.1 := by decide +kernel
theorem tyX4_ok : ∀ k, k < 3 → parseFieldDescriptor (TX4 k).2.2.1 = some (tyX4 k) := by decide +kernel
abbrev cX4_init : ByteArray := prog_6_method_1_code
def yX4_init : MethodName := ⟨RX4, "<init>", "()V"⟩
abbrev cX4_become : ByteArray := prog_6_method_2_code
def yX4_become : MethodName := ⟨RX4, "become", "(LCutStore$State;)V"⟩
abbrev cX4_becomeChanged : ByteArray := prog_6_method_3_code
def yX4_becomeChanged : MethodName := ⟨RX4, "becomeChanged", "(LCutStore$State;ILCutStore$Cut;)Z"⟩
abbrev cX4_textsWith : ByteArray := prog_6_method_4_code
def yX4_textsWith : MethodName := ⟨RX4, "textsWith", "(J)I"⟩
abbrev cX4_signsOwnedAlone : ByteArray := prog_6_method_5_code
def yX4_signsOwnedAlone : MethodName := ⟨RX4, "signsOwnedAlone", "(I)I"⟩
abbrev cX4_signs : ByteArray := prog_6_method_6_code
def yX4_signs : MethodName := ⟨RX4, "signs", "()I"⟩
abbrev cX4_pieces : ByteArray := prog_6_method_7_code
def yX4_pieces : MethodName := ⟨RX4, "pieces", "()I"⟩
def RX5 : String := "CutStore$Store"
def TX5 : u_T := fun k => match k with
  | 0 => ("CutStore$Store", "rows", "[J", true)
  | 1 => ("CutStore$Store", "lengths", "[I", true)
  | 2 => ("CutStore$Store", "owners", "[I", true)
  | 3 => ("CutStore$Store", "came", "I", false)
  | _ => ("CutStore$Store", "swept", "I", false)
def tyX5 : Nat → FieldType := fun k => match k with
  | 0 => .array .long
  | 1 => .array .int
  | 2 => .array .int
  | 3 => .int
  | _ => .int
abbrev wsX50 : List Cond := u_ws RX5 TX5 5
theorem nmX5 : ∀ a, a < 5 → ∀ b, b < 5 → a ≠ b → (TX5 a).2.1 ≠ (TX5 b).2.1 := by decide +kernel
theorem tyX5_ok : ∀ k, k < 5 → parseFieldDescriptor (TX5 k).2.2.1 = some (tyX5 k) := by decide +kernel
abbrev cX5_init : ByteArray := prog_7_method_1_code
def yX5_init : MethodName := ⟨RX5, "<init>", "()V"⟩
abbrev cX5_become : ByteArray := prog_7_method_2_code
def yX5_become : MethodName := ⟨RX5, "become", "(LCutStore$Store;)V"⟩
abbrev cX5_isFree : ByteArray := prog_7_method_3_code
def yX5_isFree : MethodName := ⟨RX5, "isFree", "(I)Z"⟩
abbrev cX5_isUnowned : ByteArray := prog_7_method_4_code
def yX5_isUnowned : MethodName := ⟨RX5, "isUnowned", "(I)Z"⟩
abbrev cX5_slotOf : ByteArray := prog_7_method_5_code
def yX5_slotOf : MethodName := ⟨RX5, "slotOf", "(J)I"⟩
abbrev cX5_firstSign : ByteArray := prog_7_method_6_code
def yX5_firstSign : MethodName := ⟨RX5, "firstSign", "(I)I"⟩
abbrev cX5_lastSign : ByteArray := prog_7_method_7_code
def yX5_lastSign : MethodName := ⟨RX5, "lastSign", "(I)I"⟩
abbrev cX5_loseOwner : ByteArray := prog_7_method_8_code
def yX5_loseOwner : MethodName := ⟨RX5, "loseOwner", "(LCutStore$Cut;)V"⟩
abbrev cX5_getOwner : ByteArray := prog_7_method_9_code
def yX5_getOwner : MethodName := ⟨RX5, "getOwner", "(LCutStore$Cut;)V"⟩
abbrev cX5_takeIn : ByteArray := prog_7_method_10_code
def yX5_takeIn : MethodName := ⟨RX5, "takeIn", "(JI)I"⟩
abbrev cX5_removeUnownedBut : ByteArray := prog_7_method_11_code
def yX5_removeUnownedBut : MethodName := ⟨RX5, "removeUnownedBut", "(LCutStore$Cut;)I"⟩
abbrev cX5_hasRoomFor : ByteArray := prog_7_method_12_code
def yX5_hasRoomFor : MethodName := ⟨RX5, "hasRoomFor", "(LCutStore$Cut;)Z"⟩
abbrev cX5_slotsNeededBy : ByteArray := prog_7_method_13_code
def yX5_slotsNeededBy : MethodName := ⟨RX5, "slotsNeededBy", "(LCutStore$Cut;)I"⟩
abbrev cX5_roomNeededBy : ByteArray := prog_7_method_14_code
def yX5_roomNeededBy : MethodName := ⟨RX5, "roomNeededBy", "(LCutStore$Cut;)I"⟩
abbrev cX5_pieces : ByteArray := prog_7_method_15_code
def yX5_pieces : MethodName := ⟨RX5, "pieces", "()I"⟩
abbrev cX5_size : ByteArray := prog_7_method_16_code
def yX5_size : MethodName := ⟨RX5, "size", "()I"⟩
abbrev cX5_unownedPieces : ByteArray := prog_7_method_17_code
def yX5_unownedPieces : MethodName := ⟨RX5, "unownedPieces", "()I"⟩
abbrev cX5_unownedSize : ByteArray := prog_7_method_18_code
def yX5_unownedSize : MethodName := ⟨RX5, "unownedSize", "()I"⟩
abbrev cX5_mostOwners : ByteArray := prog_7_method_19_code
def yX5_mostOwners : MethodName := ⟨RX5, "mostOwners", "()I"⟩
def RX6 : String := "CutStore"
def TX6 : u_T := fun k => match k with
  | 0 => ("CutStore", "state", "LCutStore$State;", true)
  | 1 => ("CutStore", "history", "LCutStore$History;", true)
  | 2 => ("CutStore", "buffer", "LCutStore$Buffer;", true)
  | 3 => ("CutStore", "next", "LCutStore$State;", true)
  | 4 => ("CutStore", "trial", "LCutStore$Cut;", true)
  | 5 => ("CutStore", "otherSettings", "LCutStore$Settings;", true)
  | _ => ("CutStore", "seenRows", "[J", true)
def tyX6 : Nat → FieldType := fun k => match k with
  | 0 => .object "CutStore$State"
  | 1 => .object "CutStore$History"
  | 2 => .object "CutStore$Buffer"
  | 3 => .object "CutStore$State"
  | 4 => .object "CutStore$Cut"
  | 5 => .object "CutStore$Settings"
  | _ => .array .long
abbrev wsX60 : List Cond := u_ws RX6 TX6 7
theorem nmX6 : ∀ a, a < 7 → ∀ b, b < 7 → a ≠ b → (TX6 a).2.1 ≠ (TX6 b).2.1 := by decide +kernel
theorem tyX6_ok : ∀ k, k < 7 → parseFieldDescriptor (TX6 k).2.2.1 = some (tyX6 k) := by decide +kernel
abbrev cX6_init : ByteArray := prog_1_method_1_code
def yX6_init : MethodName := ⟨RX6, "<init>", "()V"⟩
abbrev cX6_put : ByteArray := prog_1_method_2_code
def yX6_put : MethodName := ⟨RX6, "put", "(I)I"⟩
abbrev cX6_takeOut : ByteArray := prog_1_method_4_code
def yX6_takeOut : MethodName := ⟨RX6, "takeOut", "(III)I"⟩
abbrev cX6_copy : ByteArray := prog_1_method_5_code
def yX6_copy : MethodName := ⟨RX6, "copy", "(II)I"⟩
abbrev cX6_rotate : ByteArray := prog_1_method_6_code
def yX6_rotate : MethodName := ⟨RX6, "rotate", "(II)I"⟩
abbrev cX6_drop : ByteArray := prog_1_method_7_code
def yX6_drop : MethodName := ⟨RX6, "drop", "(I)I"⟩
abbrev cX6_sweep : ByteArray := prog_1_method_8_code
def yX6_sweep : MethodName := ⟨RX6, "sweep", "()I"⟩
abbrev cX6_set : ByteArray := prog_1_method_9_code
def yX6_set : MethodName := ⟨RX6, "set", "(II)I"⟩
abbrev cX6_append : ByteArray := prog_1_method_10_code
def yX6_append : MethodName := ⟨RX6, "append", "(I)I"⟩
abbrev cX6_clearBuffer : ByteArray := prog_1_method_11_code
def yX6_clearBuffer : MethodName := ⟨RX6, "clearBuffer", "()I"⟩
abbrev cX6_sign : ByteArray := prog_1_method_14_code
def yX6_sign : MethodName := ⟨RX6, "sign", "(III)I"⟩
abbrev cX6_piece : ByteArray := prog_1_method_15_code
def yX6_piece : MethodName := ⟨RX6, "piece", "(III)I"⟩
abbrev cX6_slot : ByteArray := prog_1_method_16_code
def yX6_slot : MethodName := ⟨RX6, "slot", "(II)I"⟩
abbrev cX6_text : ByteArray := prog_1_method_17_code
def yX6_text : MethodName := ⟨RX6, "text", "(II)I"⟩
abbrev cX6_count : ByteArray := prog_1_method_19_code
def yX6_count : MethodName := ⟨RX6, "count", "(I)I"⟩
abbrev cX6_ifPut : ByteArray := prog_1_method_21_code
def yX6_ifPut : MethodName := ⟨RX6, "ifPut", "(II)I"⟩
abbrev cX6_requireText : ByteArray := prog_1_method_26_code
def yX6_requireText : MethodName := ⟨RX6, "requireText", "(I)V"⟩
abbrev cX6_requirePlace : ByteArray := prog_1_method_27_code
def yX6_requirePlace : MethodName := ⟨RX6, "requirePlace", "(LCutStore$Cut;I)V"⟩
abbrev cX6_requireSetting : ByteArray := prog_1_method_28_code
def yX6_requireSetting : MethodName := ⟨RX6, "requireSetting", "(I)V"⟩
abbrev cX6_requireValue : ByteArray := prog_1_method_29_code
def yX6_requireValue : MethodName := ⟨RX6, "requireValue", "(II)V"⟩
abbrev cX6_requireWhat : ByteArray := prog_1_method_30_code
def yX6_requireWhat : MethodName := ⟨RX6, "requireWhat", "(II)V"⟩
abbrev cX6_requireCompleteBuffer : ByteArray := prog_1_method_31_code
def yX6_requireCompleteBuffer : MethodName := ⟨RX6, "requireCompleteBuffer", "()V"⟩
abbrev cX6_changeToTrial : ByteArray := prog_1_method_32_code
def yX6_changeToTrial : MethodName := ⟨RX6, "changeToTrial", "(I)I"⟩
def RX7 : String := "CutStoreModel"
def TX7 : u_T := fun k => match k with
  | _ => ("", "", "", false)
def tyX7 : Nat → FieldType := fun k => match k with
  | _ => .int
abbrev wsX70 : List Cond := u_ws RX7 TX7 0
theorem nmX7 : ∀ a, a < 0 → ∀ b, b < 0 → a ≠ b → (TX7 a).2.1 ≠ (TX7 b).2.1 := by decide +kernel
theorem tyX7_ok : ∀ k, k < 0 → parseFieldDescriptor (TX7 k).2.2.1 = some (tyX7 k) := by decide +kernel
def RJx8e188 : String := "java/lang/Cloneable"
def TJx8e188 : u_T := fun k => match k with
  | _ => ("", "", "", false)
def tyJx8e188 : Nat → FieldType := fun k => match k with
  | _ => .int
abbrev wsJx8e1880 : List Cond := u_ws RJx8e188 TJx8e188 0
theorem nmJx8e188 : ∀ a, a < 0 → ∀ b, b < 0 → a ≠ b → (TJx8e188 a).2.1 ≠ (TJx8e188 b).2.1 := by decide +kernel
theorem tyJx8e188_ok : ∀ k, k < 0 → parseFieldDescriptor (TJx8e188 k).2.2.1 = some (tyJx8e188 k) := by decide +kernel
def RJ6 : String := "java/lang/Integer"
def TJ6 : u_T := fun k => match k with
  | _ => ("", "", "", false)
def tyJ6 : Nat → FieldType := fun k => match k with
  | _ => .int
abbrev wsJ60 : List Cond := u_ws RJ6 TJ6 0
theorem nmJ6 : ∀ a, a < 0 → ∀ b, b < 0 → a ≠ b → (TJ6 a).2.1 ≠ (TJ6 b).2.1 := by decide +kernel
theorem tyJ6_ok : ∀ k, k < 0 → parseFieldDescriptor (TJ6 k).2.2.1 = some (tyJ6 k) := by decide +kernel
abbrev cJ6_bitCount_0f7a4 : ByteArray := prog_15_method_49_code
def yJ6_bitCount_0f7a4 : MethodName := ⟨RJ6, "bitCount", "(I)I"⟩
def RJ9 : String := "java/lang/Math"
def TJ9 : u_T := fun k => match k with
  | _ => ("", "", "", false)
def tyJ9 : Nat → FieldType := fun k => match k with
  | _ => .int
abbrev wsJ90 : List Cond := u_ws RJ9 TJ9 0
theorem nmJ9 : ∀ a, a < 0 → ∀ b, b < 0 → a ≠ b → (TJ9 a).2.1 ≠ (TJ9 b).2.1 := by decide +kernel
theorem tyJ9_ok : ∀ k, k < 0 → parseFieldDescriptor (TJ9 k).2.2.1 = some (tyJ9 k) := by decide +kernel
abbrev cJ9_max_7cf53 : ByteArray := prog_16_method_65_code
def yJ9_max_7cf53 : MethodName := ⟨RJ9, "max", "(II)I"⟩
def RJ0 : String := "java/lang/String"
def TJ0 : u_T := fun k => match k with
  | _ => ("", "", "", false)
def tyJ0 : Nat → FieldType := fun k => match k with
  | _ => .int
abbrev wsJ00 : List Cond := u_ws RJ0 TJ0 0
theorem nmJ0 : ∀ a, a < 0 → ∀ b, b < 0 → a ≠ b → (TJ0 a).2.1 ≠ (TJ0 b).2.1 := by decide +kernel
theorem tyJ0_ok : ∀ k, k < 0 → parseFieldDescriptor (TJ0 k).2.2.1 = some (tyJ0 k) := by decide +kernel
def RJ10 : String := "java/lang/System"
def TJ10 : u_T := fun k => match k with
  | _ => ("", "", "", false)
def tyJ10 : Nat → FieldType := fun k => match k with
  | _ => .int
abbrev wsJ100 : List Cond := u_ws RJ10 TJ10 0
theorem nmJ10 : ∀ a, a < 0 → ∀ b, b < 0 → a ≠ b → (TJ10 a).2.1 ≠ (TJ10 b).2.1 := by decide +kernel
theorem tyJ10_ok : ∀ k, k < 0 → parseFieldDescriptor (TJ10 k).2.2.1 = some (tyJ10 k) := by decide +kernel
def RL : String := "CutStoreLaw"
abbrev cL_cell : ByteArray := method_2_code
def yL_cell : MethodName := ⟨RL, "cell", "([II)I"⟩
abbrev cL_at : ByteArray := method_3_code
def yL_at : MethodName := ⟨RL, "at", "(II)I"⟩
abbrev cL_ends : ByteArray := method_4_code
def yL_ends : MethodName := ⟨RL, "ends", "([I[IIII)I"⟩
abbrev cL_slot : ByteArray := method_5_code
def yL_slot : MethodName := ⟨RL, "slot", "([J[IJI)I"⟩
abbrev cL_lay : ByteArray := method_6_code
def yL_lay : MethodName := ⟨RL, "lay", "([I[I[I[I[J[I[II[II)I"⟩
abbrev cL_act : ByteArray := method_7_code
def yL_act : MethodName := ⟨RL, "act", "(LCutStore;II[I[I[I[I[J[I[I)Z"⟩
abbrev cL_agree : ByteArray := method_8_code
def yL_agree : MethodName := ⟨RL, "agree", "(LCutStore;[I[I[I[I[I[I)Z"⟩
abbrev cL_law : ByteArray := code
def yL_law : MethodName := ⟨RL, "law", "([I)Z"⟩
abbrev vwCl : List vw_C := [(RX0, TX0, 2), (RX1, TX1, 7), (RX2, TX2, 2), (RX3, TX3, 1), (RX4, TX4, 3), (RX5, TX5, 5), (RX6, TX6, 7)]
