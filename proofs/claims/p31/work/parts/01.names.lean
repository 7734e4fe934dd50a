def RX0 : String := "RopeWalk$Book"
def TX0 : u_T := fun k => match k with
  | 0 => ("RopeWalk$Book", "orders", "[LRopeWalk$Order;", true)
  | _ => ("RopeWalk$Book", "count", "I", false)
def tyX0 : Nat → FieldType := fun k => match k with
  | 0 => .array (.object "RopeWalk$Order")
  | _ => .int
abbrev wsX00 : List Cond := u_ws RX0 TX0 2
theorem nmX0 : ∀ a, a < 2 → ∀ b, b < 2 → a ≠ b → (TX0 a).2.1 ≠ (TX0 b).2.1 := by decide +kernel
theorem tyX0_ok : ∀ k, k < 2 → parseFieldDescriptor (TX0 k).2.2.1 = some (tyX0 k) := by decide +kernel
abbrev cX0_init : ByteArray := prog_2_method_1_code
def yX0_init : MethodName := ⟨RX0, "<init>", "()V"⟩
abbrev cX0_copyFrom : ByteArray := prog_2_method_2_code
def yX0_copyFrom : MethodName := ⟨RX0, "copyFrom", "(LRopeWalk$Book;)V"⟩
abbrev cX0_has : ByteArray := prog_2_method_3_code
def yX0_has : MethodName := ⟨RX0, "has", "(I)Z"⟩
abbrev cX0_isFull : ByteArray := prog_2_method_4_code
def yX0_isFull : MethodName := ⟨RX0, "isFull", "()Z"⟩
abbrev cX0_remove : ByteArray := prog_2_method_5_code
def yX0_remove : MethodName := ⟨RX0, "remove", "(I)V"⟩
abbrev cX0_lateRopes : ByteArray := prog_2_method_6_code
def yX0_lateRopes : MethodName := ⟨RX0, "lateRopes", "(II)I"⟩
def RX1 : String := "RopeWalk$History"
def TX1 : u_T := fun k => match k with
  | 0 => ("RopeWalk$History", "rows", "[LRopeWalk$Yard;", true)
  | _ => ("RopeWalk$History", "count", "I", false)
def tyX1 : Nat → FieldType := fun k => match k with
  | 0 => .array (.object "RopeWalk$Yard")
  | _ => .int
abbrev wsX10 : List Cond := u_ws RX1 TX1 2
theorem nmX1 : ∀ a, a < 2 → ∀ b, b < 2 → a ≠ b → (TX1 a).2.1 ≠ (TX1 b).2.1 := by decide +kernel
theorem tyX1_ok : ∀ k, k < 2 → parseFieldDescriptor (TX1 k).2.2.1 = some (tyX1 k) := by decide +kernel
abbrev cX1_init : ByteArray := prog_3_method_1_code
def yX1_init : MethodName := ⟨RX1, "<init>", "()V"⟩
abbrev cX1_prepare : ByteArray := prog_3_method_2_code
def yX1_prepare : MethodName := ⟨RX1, "prepare", "(LRopeWalk$Yard;)V"⟩
abbrev cX1_settle : ByteArray := prog_3_method_3_code
def yX1_settle : MethodName := ⟨RX1, "settle", "(I)I"⟩
abbrev cX1_keep : ByteArray := prog_3_method_4_code
def yX1_keep : MethodName := ⟨RX1, "keep", "()V"⟩
def RX2 : String := "RopeWalk$Order"
def TX2 : u_T := fun k => match k with
  | 0 => ("RopeWalk$Order", "fibre", "I", false)
  | 1 => ("RopeWalk$Order", "strength", "I", false)
  | 2 => ("RopeWalk$Order", "length", "I", false)
  | 3 => ("RopeWalk$Order", "wanted", "I", false)
  | 4 => ("RopeWalk$Order", "splicesAllowed", "Z", false)
  | 5 => ("RopeWalk$Order", "due", "I", false)
  | _ => ("RopeWalk$Order", "price", "I", false)
def tyX2 : Nat → FieldType := fun k => match k with
  | 0 => .int
  | 1 => .int
  | 2 => .int
  | 3 => .int
  | 4 => .boolean
  | 5 => .int
  | _ => .int
abbrev wsX20 : List Cond := u_ws RX2 TX2 7
theorem nmX2 : ∀ a, a < 7 → ∀ b, b < 7 → a ≠ b → (TX2 a).2.1 ≠ (TX2 b).2.1 := by decide +kernel
theorem tyX2_ok : ∀ k, k < 7 → parseFieldDescriptor (TX2 k).2.2.1 = some (tyX2 k) := by decide +kernel
abbrev cX2_init : ByteArray := prog_4_method_1_code
def yX2_init : MethodName := ⟨RX2, "<init>", "()V"⟩
abbrev cX2_copyFrom : ByteArray := prog_4_method_2_code
def yX2_copyFrom : MethodName := ⟨RX2, "copyFrom", "(LRopeWalk$Order;)V"⟩
def RX3 : String := "RopeWalk$Pad"
def TX3 : u_T := fun k => match k with
  | 0 => ("RopeWalk$Pad", "signs", "[C", true)
  | _ => ("RopeWalk$Pad", "length", "I", false)
def tyX3 : Nat → FieldType := fun k => match k with
  | 0 => .array .char
  | _ => .int
abbrev wsX30 : List Cond := u_ws RX3 TX3 2
theorem nmX3 : ∀ a, a < 2 → ∀ b, b < 2 → a ≠ b → (TX3 a).2.1 ≠ (TX3 b).2.1 := by decide +kernel
theorem tyX3_ok : ∀ k, k < 2 → parseFieldDescriptor (TX3 k).2.2.1 = some (tyX3 k) := by decide +kernel
abbrev cX3_init : ByteArray := prog_5_method_1_code
def yX3_init : MethodName := ⟨RX3, "<init>", "()V"⟩
def RX4 : String := "RopeWalk$Piece"
def TX4 : u_T := fun k => match k with
  | 0 => ("RopeWalk$Piece", "fibre", "I", false)
  | 1 => ("RopeWalk$Piece", "strands", "I", false)
  | 2 => ("RopeWalk$Piece", "yarns", "I", false)
  | 3 => ("RopeWalk$Piece", "length", "I", false)
  | 4 => ("RopeWalk$Piece", "yarn", "I", false)
  | 5 => ("RopeWalk$Piece", "quality", "I", false)
  | _ => ("RopeWalk$Piece", "splices", "I", false)
def tyX4 : Nat → FieldType := fun k => match k with
  | 0 => .int
  | 1 => .int
  | 2 => .int
  | 3 => .int
  | 4 => .int
  | 5 => .int
  | _ => .int
abbrev wsX40 : List Cond := u_ws RX4 TX4 7
theorem nmX4 : ∀ a, a < 7 → ∀ b, b < 7 → a ≠ b → (TX4 a).2.1 ≠ (TX4 b).2.1 := by decide +kernel
theorem tyX4_ok : ∀ k, k < 7 → parseFieldDescriptor (TX4 k).2.2.1 = some (tyX4 k) := by decide +kernel
abbrev cX4_init : ByteArray := prog_6_method_1_code
def yX4_init : MethodName := ⟨RX4, "<init>", "()V"⟩
abbrev cX4_copyFrom : ByteArray := prog_6_method_2_code
def yX4_copyFrom : MethodName := ⟨RX4, "copyFrom", "(LRopeWalk$Piece;)V"⟩
abbrev cX4_isLike : ByteArray := prog_6_method_3_code
def yX4_isLike : MethodName := ⟨RX4, "isLike", "(LRopeWalk$Piece;)Z"⟩
abbrev cX4_yarnIn : ByteArray := prog_6_method_4_code
def yX4_yarnIn : MethodName := ⟨RX4, "yarnIn", "(I)I"⟩
def RX5 : String := "RopeWalk$Reader"
def TX5 : u_T := fun k => match k with
  | 0 => ("RopeWalk$Reader", "pad", "LRopeWalk$Pad;", true)
  | 1 => ("RopeWalk$Reader", "at", "I", false)
  | 2 => ("RopeWalk$Reader", "kind", "I", false)
  | 3 => ("RopeWalk$Reader", "numbers", "[I", true)
  | _ => ("RopeWalk$Reader", "found", "I", false)
def tyX5 : Nat → FieldType := fun k => match k with
  | 0 => .object "RopeWalk$Pad"
  | 1 => .int
  | 2 => .int
  | 3 => .array .int
  | _ => .int
abbrev wsX50 : List Cond := u_ws RX5 TX5 5
theorem nmX5 : ∀ a, a < 5 → ∀ b, b < 5 → a ≠ b → (TX5 a).2.1 ≠ (TX5 b).2.1 := by decide +kernel
theorem tyX5_ok : ∀ k, k < 5 → parseFieldDescriptor (TX5 k).2.2.1 = some (tyX5 k) := by decide +kernel
abbrev cX5_init : ByteArray := prog_7_method_1_code
def yX5_init : MethodName := ⟨RX5, "<init>", "()V"⟩
def RX6 : String := "RopeWalk$Rules"
def TX6 : u_T := fun k => match k with
  | 0 => ("RopeWalk$Rules", "settings", "[I", true)
  | 1 => ("RopeWalk$Rules", "strengths", "[I", true)
  | _ => ("RopeWalk$Rules", "twists", "[I", true)
def tyX6 : Nat → FieldType := fun k => match k with
  | 0 => .array .int
  | 1 => .array .int
  | _ => .array .int
abbrev wsX60 : List Cond := u_ws RX6 TX6 3
theorem nmX6 : ∀ a, a < 3 → ∀ b, b < 3 → a ≠ b → (TX6 a).2.1 ≠ (TX6 b).2.1 := by decide +kernel
theorem tyX6_ok : ∀ k, k < 3 → parseFieldDescriptor (TX6 k).2.2.1 = some (tyX6 k) := by decide +kernel
abbrev cX6_init : ByteArray := prog_8_method_1_code
def yX6_init : MethodName := ⟨RX6, "<init>", "()V"⟩
abbrev cX6_copyFrom : ByteArray := prog_8_method_2_code
def yX6_copyFrom : MethodName := ⟨RX6, "copyFrom", "(LRopeWalk$Rules;)V"⟩
abbrev cX6_strandLength : ByteArray := prog_8_method_3_code
def yX6_strandLength : MethodName := ⟨RX6, "strandLength", "(I)I"⟩
abbrev cX6_yarnLength : ByteArray := prog_8_method_4_code
def yX6_yarnLength : MethodName := ⟨RX6, "yarnLength", "(I)I"⟩
abbrev cX6_lengthened : ByteArray := prog_8_method_5_code
def yX6_lengthened : MethodName := ⟨RX6, "lengthened", "(II)I"⟩
abbrev cX6_yarnFor : ByteArray := prog_8_method_6_code
def yX6_yarnFor : MethodName := ⟨RX6, "yarnFor", "(III)I"⟩
abbrev cX6_hoursFor : ByteArray := prog_8_method_7_code
def yX6_hoursFor : MethodName := ⟨RX6, "hoursFor", "(II)I"⟩
abbrev cX6_qualityNow : ByteArray := prog_8_method_8_code
def yX6_qualityNow : MethodName := ⟨RX6, "qualityNow", "(I)I"⟩
abbrev cX6_newStrength : ByteArray := prog_8_method_9_code
def yX6_newStrength : MethodName := ⟨RX6, "newStrength", "(III)I"⟩
abbrev cX6_strengthOf : ByteArray := prog_8_method_10_code
def yX6_strengthOf : MethodName := ⟨RX6, "strengthOf", "(LRopeWalk$Piece;)I"⟩
abbrev cX6_suits : ByteArray := prog_8_method_11_code
def yX6_suits : MethodName := ⟨RX6, "suits", "(LRopeWalk$Piece;LRopeWalk$Order;)Z"⟩
abbrev cX6_aboutNewRope : ByteArray := prog_8_method_12_code
def yX6_aboutNewRope : MethodName := ⟨RX6, "aboutNewRope", "(IIIII)I"⟩
abbrev cX6_fewestYarns : ByteArray := prog_8_method_13_code
def yX6_fewestYarns : MethodName := ⟨RX6, "fewestYarns", "(III)I"⟩
def RX7 : String := "RopeWalk$Stock"
def TX7 : u_T := fun k => match k with
  | 0 => ("RopeWalk$Stock", "pieces", "[LRopeWalk$Piece;", true)
  | 1 => ("RopeWalk$Stock", "count", "I", false)
  | _ => ("RopeWalk$Stock", "accounts", "[[I", true)
def tyX7 : Nat → FieldType := fun k => match k with
  | 0 => .array (.object "RopeWalk$Piece")
  | 1 => .int
  | _ => .array (.array .int)
abbrev wsX70 : List Cond := u_ws RX7 TX7 3
theorem nmX7 : ∀ a, a < 3 → ∀ b, b < 3 → a ≠ b → (TX7 a).2.1 ≠ (TX7 b).2.1 := by decide +kernel
theorem tyX7_ok : ∀ k, k < 3 → parseFieldDescriptor (TX7 k).2.2.1 = some (tyX7 k) := by decide +kernel
abbrev cX7_init : ByteArray := prog_9_method_1_code
def yX7_init : MethodName := ⟨RX7, "<init>", "()V"⟩
abbrev cX7_copyFrom : ByteArray := prog_9_method_2_code
def yX7_copyFrom : MethodName := ⟨RX7, "copyFrom", "(LRopeWalk$Stock;)V"⟩
abbrev cX7_has : ByteArray := prog_9_method_3_code
def yX7_has : MethodName := ⟨RX7, "has", "(I)Z"⟩
abbrev cX7_isFull : ByteArray := prog_9_method_4_code
def yX7_isFull : MethodName := ⟨RX7, "isFull", "()Z"⟩
abbrev cX7_move : ByteArray := prog_9_method_5_code
def yX7_move : MethodName := ⟨RX7, "move", "(IIII)V"⟩
abbrev cX7_addYarn : ByteArray := prog_9_method_6_code
def yX7_addYarn : MethodName := ⟨RX7, "addYarn", "(II)I"⟩
abbrev cX7_addRope : ByteArray := prog_9_method_7_code
def yX7_addRope : MethodName := ⟨RX7, "addRope", "(IIIILRopeWalk$Rules;)I"⟩
abbrev cX7_remove : ByteArray := prog_9_method_8_code
def yX7_remove : MethodName := ⟨RX7, "remove", "(I)V"⟩
abbrev cX7_splice : ByteArray := prog_9_method_9_code
def yX7_splice : MethodName := ⟨RX7, "splice", "(III)I"⟩
abbrev cX7_cut : ByteArray := prog_9_method_10_code
def yX7_cut : MethodName := ⟨RX7, "cut", "(IIII)V"⟩
abbrev cX7_cutFor : ByteArray := prog_9_method_11_code
def yX7_cutFor : MethodName := ⟨RX7, "cutFor", "(LRopeWalk$Order;LRopeWalk$Rules;)I"⟩
abbrev cX7_shortestFor : ByteArray := prog_9_method_12_code
def yX7_shortestFor : MethodName := ⟨RX7, "shortestFor", "(LRopeWalk$Order;LRopeWalk$Rules;)I"⟩
abbrev cX7_suitingCount : ByteArray := prog_9_method_13_code
def yX7_suitingCount : MethodName := ⟨RX7, "suitingCount", "(LRopeWalk$Order;LRopeWalk$Rules;)I"⟩
def RX8 : String := "RopeWalk$Trial"
def TX8 : u_T := fun k => match k with
  | 0 => ("RopeWalk$Trial", "stocks", "[LRopeWalk$Stock;", true)
  | 1 => ("RopeWalk$Trial", "bestMask", "I", false)
  | _ => ("RopeWalk$Trial", "bestSum", "I", false)
def tyX8 : Nat → FieldType := fun k => match k with
  | 0 => .array (.object "RopeWalk$Stock")
  | 1 => .int
  | _ => .int
abbrev wsX80 : List Cond := u_ws RX8 TX8 3
theorem nmX8 : ∀ a, a < 3 → ∀ b, b < 3 → a ≠ b → (TX8 a).2.1 ≠ (TX8 b).2.1 := by decide +kernel
theorem tyX8_ok : ∀ k, k < 3 → parseFieldDescriptor (TX8 k).2.2.1 = some (tyX8 k) := by decide +kernel
abbrev cX8_init : ByteArray := prog_10_method_1_code
def yX8_init : MethodName := ⟨RX8, "<init>", "()V"⟩
abbrev cX8_fillOne : ByteArray := prog_10_method_2_code
def yX8_fillOne : MethodName := ⟨RX8, "fillOne", "(LRopeWalk$Yard;II)I"⟩
def RX9 : String := "RopeWalk$Yard"
def TX9 : u_T := fun k => match k with
  | 0 => ("RopeWalk$Yard", "rules", "LRopeWalk$Rules;", true)
  | 1 => ("RopeWalk$Yard", "stock", "LRopeWalk$Stock;", true)
  | 2 => ("RopeWalk$Yard", "book", "LRopeWalk$Book;", true)
  | 3 => ("RopeWalk$Yard", "today", "I", false)
  | 4 => ("RopeWalk$Yard", "hoursUsed", "I", false)
  | 5 => ("RopeWalk$Yard", "ropesSold", "I", false)
  | 6 => ("RopeWalk$Yard", "got", "I", false)
  | _ => ("RopeWalk$Yard", "fines", "I", false)
def tyX9 : Nat → FieldType := fun k => match k with
  | 0 => .object "RopeWalk$Rules"
  | 1 => .object "RopeWalk$Stock"
  | 2 => .object "RopeWalk$Book"
  | 3 => .int
  | 4 => .int
  | 5 => .int
  | 6 => .int
  | _ => .int
abbrev wsX90 : List Cond := u_ws RX9 TX9 8
theorem nmX9 : ∀ a, a < 8 → ∀ b, b < 8 → a ≠ b → (TX9 a).2.1 ≠ (TX9 b).2.1 := by decide +kernel
theorem tyX9_ok : ∀ k, k < 8 → parseFieldDescriptor (TX9 k).2.2.1 = some (tyX9 k) := by decide +kernel
abbrev cX9_init : ByteArray := prog_11_method_1_code
def yX9_init : MethodName := ⟨RX9, "<init>", "()V"⟩
abbrev cX9_copyFrom : ByteArray := prog_11_method_2_code
def yX9_copyFrom : MethodName := ⟨RX9, "copyFrom", "(LRopeWalk$Yard;)V"⟩
abbrev cX9_changeSetting : ByteArray := prog_11_method_3_code
def yX9_changeSetting : MethodName := ⟨RX9, "changeSetting", "(II)I"⟩
abbrev cX9_changeFibre : ByteArray := prog_11_method_4_code
def yX9_changeFibre : MethodName := ⟨RX9, "changeFibre", "(III)I"⟩
abbrev cX9_spinYarn : ByteArray := prog_11_method_5_code
def yX9_spinYarn : MethodName := ⟨RX9, "spinYarn", "(II)I"⟩
abbrev cX9_layRope : ByteArray := prog_11_method_6_code
def yX9_layRope : MethodName := ⟨RX9, "layRope", "(IIII)I"⟩
abbrev cX9_canLay : ByteArray := prog_11_method_7_code
def yX9_canLay : MethodName := ⟨RX9, "canLay", "(IIII)Z"⟩
abbrev cX9_hoursLeft : ByteArray := prog_11_method_8_code
def yX9_hoursLeft : MethodName := ⟨RX9, "hoursLeft", "()I"⟩
abbrev cX9_longestRope : ByteArray := prog_11_method_9_code
def yX9_longestRope : MethodName := ⟨RX9, "longestRope", "(III)I"⟩
abbrev cX9_joinPieces : ByteArray := prog_11_method_10_code
def yX9_joinPieces : MethodName := ⟨RX9, "joinPieces", "(II)I"⟩
abbrev cX9_testPiece : ByteArray := prog_11_method_11_code
def yX9_testPiece : MethodName := ⟨RX9, "testPiece", "(I)I"⟩
abbrev cX9_takeOrder : ByteArray := prog_11_method_12_code
def yX9_takeOrder : MethodName := ⟨RX9, "takeOrder", "(IIIIII)I"⟩
abbrev cX9_fillOrder : ByteArray := prog_11_method_13_code
def yX9_fillOrder : MethodName := ⟨RX9, "fillOrder", "(I)I"⟩
abbrev cX9_dropOrder : ByteArray := prog_11_method_14_code
def yX9_dropOrder : MethodName := ⟨RX9, "dropOrder", "(I)I"⟩
abbrev cX9_passDays : ByteArray := prog_11_method_15_code
def yX9_passDays : MethodName := ⟨RX9, "passDays", "(I)I"⟩
abbrev cX9_finesOver : ByteArray := prog_11_method_16_code
def yX9_finesOver : MethodName := ⟨RX9, "finesOver", "(I)I"⟩
abbrev cX9_aboutPiece : ByteArray := prog_11_method_17_code
def yX9_aboutPiece : MethodName := ⟨RX9, "aboutPiece", "(II)I"⟩
abbrev cX9_aboutOrder : ByteArray := prog_11_method_18_code
def yX9_aboutOrder : MethodName := ⟨RX9, "aboutOrder", "(II)I"⟩
abbrev cX9_aboutAll : ByteArray := prog_11_method_19_code
def yX9_aboutAll : MethodName := ⟨RX9, "aboutAll", "(I)I"⟩
abbrev cX9_aboutRules : ByteArray := prog_11_method_20_code
def yX9_aboutRules : MethodName := ⟨RX9, "aboutRules", "(I)I"⟩
def RX10 : String := "RopeWalk"
def TX10 : u_T := fun k => match k with
  | 0 => ("RopeWalk", "yard", "LRopeWalk$Yard;", true)
  | 1 => ("RopeWalk", "history", "LRopeWalk$History;", true)
  | 2 => ("RopeWalk", "slots", "[LRopeWalk$Yard;", true)
  | 3 => ("RopeWalk", "saved", "[Z", true)
  | 4 => ("RopeWalk", "reader", "LRopeWalk$Reader;", true)
  | 5 => ("RopeWalk", "pad", "LRopeWalk$Pad;", true)
  | _ => ("RopeWalk", "trial", "LRopeWalk$Trial;", true)
def tyX10 : Nat → FieldType := fun k => match k with
  | 0 => .object "RopeWalk$Yard"
  | 1 => .object "RopeWalk$History"
  | 2 => .array (.object "RopeWalk$Yard")
  | 3 => .array .boolean
  | 4 => .object "RopeWalk$Reader"
  | 5 => .object "RopeWalk$Pad"
  | _ => .object "RopeWalk$Trial"
abbrev wsX100 : List Cond := u_ws RX10 TX10 7
theorem nmX10 : ∀ a, a < 7 → ∀ b, b < 7 → a ≠ b → (TX10 a).2.1 ≠ (TX10 b).2.1 := by decide +kernel
theorem tyX10_ok : ∀ k, k < 7 → parseFieldDescriptor (TX10 k).2.2.1 = some (tyX10 k) := by decide +kernel
abbrev cX10_init : ByteArray := prog_1_method_1_code
def yX10_init : MethodName := ⟨RX10, "<init>", "()V"⟩
abbrev cX10_set : ByteArray := prog_1_method_2_code
def yX10_set : MethodName := ⟨RX10, "set", "(II)I"⟩
abbrev cX10_fibre : ByteArray := prog_1_method_3_code
def yX10_fibre : MethodName := ⟨RX10, "fibre", "(III)I"⟩
abbrev cX10_spin : ByteArray := prog_1_method_4_code
def yX10_spin : MethodName := ⟨RX10, "spin", "(II)I"⟩
abbrev cX10_lay : ByteArray := prog_1_method_5_code
def yX10_lay : MethodName := ⟨RX10, "lay", "(IIII)I"⟩
abbrev cX10_join : ByteArray := prog_1_method_6_code
def yX10_join : MethodName := ⟨RX10, "join", "(II)I"⟩
abbrev cX10_test : ByteArray := prog_1_method_7_code
def yX10_test : MethodName := ⟨RX10, "test", "(I)I"⟩
abbrev cX10_order : ByteArray := prog_1_method_8_code
def yX10_order : MethodName := ⟨RX10, "order", "(IIIIII)I"⟩
abbrev cX10_fill : ByteArray := prog_1_method_9_code
def yX10_fill : MethodName := ⟨RX10, "fill", "(I)I"⟩
abbrev cX10_drop : ByteArray := prog_1_method_10_code
def yX10_drop : MethodName := ⟨RX10, "drop", "(I)I"⟩
abbrev cX10_pass : ByteArray := prog_1_method_11_code
def yX10_pass : MethodName := ⟨RX10, "pass", "(I)I"⟩
abbrev cX10_piece : ByteArray := prog_1_method_12_code
def yX10_piece : MethodName := ⟨RX10, "piece", "(II)I"⟩
abbrev cX10_ofOrder : ByteArray := prog_1_method_13_code
def yX10_ofOrder : MethodName := ⟨RX10, "ofOrder", "(II)I"⟩
abbrev cX10_count : ByteArray := prog_1_method_14_code
def yX10_count : MethodName := ⟨RX10, "count", "(I)I"⟩
abbrev cX10_account : ByteArray := prog_1_method_15_code
def yX10_account : MethodName := ⟨RX10, "account", "(II)I"⟩
abbrev cX10_takes : ByteArray := prog_1_method_16_code
def yX10_takes : MethodName := ⟨RX10, "takes", "(IIIII)I"⟩
abbrev cX10_longest : ByteArray := prog_1_method_17_code
def yX10_longest : MethodName := ⟨RX10, "longest", "(III)I"⟩
abbrev cX10_leastYarns : ByteArray := prog_1_method_18_code
def yX10_leastYarns : MethodName := ⟨RX10, "leastYarns", "(III)I"⟩
abbrev cX10_wouldFill : ByteArray := prog_1_method_19_code
def yX10_wouldFill : MethodName := ⟨RX10, "wouldFill", "(II)I"⟩
abbrev cX10_finesIn : ByteArray := prog_1_method_22_code
def yX10_finesIn : MethodName := ⟨RX10, "finesIn", "(I)I"⟩
abbrev cX10_inRange : ByteArray := prog_1_method_31_code
def yX10_inRange : MethodName := ⟨RX10, "inRange", "(III)Z"⟩
abbrev cX10_isFibre : ByteArray := prog_1_method_32_code
def yX10_isFibre : MethodName := ⟨RX10, "isFibre", "(I)Z"⟩
abbrev cX10_isMake : ByteArray := prog_1_method_33_code
def yX10_isMake : MethodName := ⟨RX10, "isMake", "(II)Z"⟩
def RX11 : String := "RopeWalkModel"
def TX11 : u_T := fun k => match k with
  | _ => ("", "", "", false)
def tyX11 : Nat → FieldType := fun k => match k with
  | _ => .int
abbrev wsX110 : List Cond := u_ws RX11 TX11 0
theorem nmX11 : ∀ a, a < 0 → ∀ b, b < 0 → a ≠ b → (TX11 a).2.1 ≠ (TX11 b).2.1 := by decide +kernel
theorem tyX11_ok : ∀ k, k < 0 → parseFieldDescriptor (TX11 k).2.2.1 = some (tyX11 k) := by decide +kernel
def RJ9 : String := "java/lang/Math"
def TJ9 : u_T := fun k => match k with
  | _ => ("", "", "", false)
def tyJ9 : Nat → FieldType := fun k => match k with
  | _ => .int
abbrev wsJ90 : List Cond := u_ws RJ9 TJ9 0
theorem nmJ9 : ∀ a, a < 0 → ∀ b, b < 0 → a ≠ b → (TJ9 a).2.1 ≠ (TJ9 b).2.1 := by decide +kernel
theorem tyJ9_ok : ∀ k, k < 0 → parseFieldDescriptor (TJ9 k).2.2.1 = some (tyJ9 k) := by decide +kernel
abbrev cJ9_abs_0f7a4 : ByteArray := prog_14_method_59_code
def yJ9_abs_0f7a4 : MethodName := ⟨RJ9, "abs", "(I)I"⟩
abbrev cJ9_max_7cf53 : ByteArray := prog_14_method_65_code
def yJ9_max_7cf53 : MethodName := ⟨RJ9, "max", "(II)I"⟩
abbrev cJ9_min_7cf53 : ByteArray := prog_14_method_69_code
def yJ9_min_7cf53 : MethodName := ⟨RJ9, "min", "(II)I"⟩
def RJ10 : String := "java/lang/System"
def TJ10 : u_T := fun k => match k with
  | _ => ("", "", "", false)
def tyJ10 : Nat → FieldType := fun k => match k with
  | _ => .int
abbrev wsJ100 : List Cond := u_ws RJ10 TJ10 0
theorem nmJ10 : ∀ a, a < 0 → ∀ b, b < 0 → a ≠ b → (TJ10 a).2.1 ≠ (TJ10 b).2.1 := by decide +kernel
theorem tyJ10_ok : ∀ k, k < 0 → parseFieldDescriptor (TJ10 k).2.2.1 = some (tyJ10 k) := by decide +kernel
def RL : String := "RopeWalkLaw"
abbrev cL_cell : ByteArray := method_2_code
def yL_cell : MethodName := ⟨RL, "cell", "([III)I"⟩
abbrev cL_up : ByteArray := method_3_code
def yL_up : MethodName := ⟨RL, "up", "(II)I"⟩
abbrev cL_quality : ByteArray := method_4_code
def yL_quality : MethodName := ⟨RL, "quality", "(LRopeWalk;I)I"⟩
abbrev cL_strength : ByteArray := method_5_code
def yL_strength : MethodName := ⟨RL, "strength", "(LRopeWalk;I)I"⟩
abbrev cL_lay : ByteArray := method_6_code
def yL_lay : MethodName := ⟨RL, "lay", "(LRopeWalk;I[I)V"⟩
abbrev cL_isLike : ByteArray := method_7_code
def yL_isLike : MethodName := ⟨RL, "isLike", "(LRopeWalk;I[I)Z"⟩
abbrev cL_agree : ByteArray := method_8_code
def yL_agree : MethodName := ⟨RL, "agree", "(LRopeWalk;)Z"⟩
abbrev cL_isLaid : ByteArray := method_9_code
def yL_isLaid : MethodName := ⟨RL, "isLaid", "(LRopeWalk;IIII)Z"⟩
abbrev cL_isJoined : ByteArray := method_10_code
def yL_isJoined : MethodName := ⟨RL, "isJoined", "(LRopeWalk;II)Z"⟩
abbrev cL_isCut : ByteArray := method_11_code
def yL_isCut : MethodName := ⟨RL, "isCut", "(LRopeWalk;I[I[III)Z"⟩
abbrev cL_isTested : ByteArray := method_12_code
def yL_isTested : MethodName := ⟨RL, "isTested", "(LRopeWalk;I)Z"⟩
abbrev cL_suits : ByteArray := method_13_code
def yL_suits : MethodName := ⟨RL, "suits", "(LRopeWalk;II)Z"⟩
abbrev cL_isOrdered : ByteArray := method_14_code
def yL_isOrdered : MethodName := ⟨RL, "isOrdered", "(LRopeWalk;IIIII)Z"⟩
abbrev cL_isFilled : ByteArray := method_15_code
def yL_isFilled : MethodName := ⟨RL, "isFilled", "(LRopeWalk;I)Z"⟩
abbrev cL_isDropped : ByteArray := method_16_code
def yL_isDropped : MethodName := ⟨RL, "isDropped", "(LRopeWalk;I)Z"⟩
abbrev cL_isPassed : ByteArray := method_17_code
def yL_isPassed : MethodName := ⟨RL, "isPassed", "(LRopeWalk;I)Z"⟩
abbrev cL_isSpun : ByteArray := method_18_code
def yL_isSpun : MethodName := ⟨RL, "isSpun", "(LRopeWalk;II)Z"⟩
abbrev cL_isAct : ByteArray := method_19_code
def yL_isAct : MethodName := ⟨RL, "isAct", "(LRopeWalk;[II)Z"⟩
abbrev cL_law : ByteArray := code
def yL_law : MethodName := ⟨RL, "law", "([I)Z"⟩
abbrev vwCl : List vw_C := [(RX0, TX0, 2), (RX1, TX1, 2), (RX2, TX2, 7), (RX3, TX3, 2), (RX4, TX4, 7), (RX5, TX5, 5), (RX6, TX6, 3), (RX7, TX7, 3), (RX8, TX8, 3), (RX9, TX9, 8), (RX10, TX10, 7)]
