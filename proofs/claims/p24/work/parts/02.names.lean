def RX0 : String := "Flaghall$Book"
def TX0 : u_T := fun k => match k with
  | 0 => ("Flaghall$Book", "papers", "[LFlaghall$Paper;", true)
  | 1 => ("Flaghall$Book", "mortgages", "[LFlaghall$Mortgage;", true)
  | 2 => ("Flaghall$Book", "standing", "[I", true)
  | 3 => ("Flaghall$Book", "paperCount", "I", false)
  | _ => ("Flaghall$Book", "mortgageCount", "I", false)
def tyX0 : Nat → FieldType := fun k => match k with
  | 0 => .array (.object "Flaghall$Paper")
  | 1 => .array (.object "Flaghall$Mortgage")
  | 2 => .array .int
  | 3 => .int
  | _ => .int
theorem nmX0 : ∀ a, a < 5 → ∀ b, b < 5 → a ≠ b → (TX0 a).2.1 ≠ (TX0 b).2.1 := by decide +kernel
theorem tyX0_ok : ∀ k, k < 5 → parseFieldDescriptor (TX0 k).2.2.1 = some (tyX0 k) := by decide +kernel
abbrev cX0_init : ByteArray := prog_2_method_1_code
def yX0_init : MethodName := ⟨RX0, "<init>", "()V"⟩
abbrev cX0_isFull : ByteArray := prog_2_method_2_code
def yX0_isFull : MethodName := ⟨RX0, "isFull", "()Z"⟩
abbrev cX0_enter : ByteArray := prog_2_method_3_code
def yX0_enter : MethodName := ⟨RX0, "enter", "(LFlaghall$Kind;IIJ)LFlaghall$Paper;"⟩
abbrev cX0_enterMortgage : ByteArray := prog_2_method_4_code
def yX0_enterMortgage : MethodName := ⟨RX0, "enterMortgage", "(IIIJ)I"⟩
abbrev cX0_enterDischarge : ByteArray := prog_2_method_5_code
def yX0_enterDischarge : MethodName := ⟨RX0, "enterDischarge", "(IZJ)V"⟩
abbrev cX0_takePlace : ByteArray := prog_2_method_6_code
def yX0_takePlace : MethodName := ⟨RX0, "takePlace", "(IIJ)I"⟩
abbrev cX0_firstOpenRow : ByteArray := prog_2_method_7_code
def yX0_firstOpenRow : MethodName := ⟨RX0, "firstOpenRow", "(I)I"⟩
abbrev cX0_isOver : ByteArray := prog_2_method_8_code
def yX0_isOver : MethodName := ⟨RX0, "isOver", "(I)Z"⟩
abbrev cX0_readUpTo : ByteArray := prog_2_method_9_code
def yX0_readUpTo : MethodName := ⟨RX0, "readUpTo", "(IJ)V"⟩
abbrev cX0_read : ByteArray := prog_2_method_10_code
def yX0_read : MethodName := ⟨RX0, "read", "(LFlaghall$Paper;)V"⟩
abbrev cX0_rankOf : ByteArray := prog_2_method_11_code
def yX0_rankOf : MethodName := ⟨RX0, "rankOf", "(IJ)I"⟩
abbrev cX0_mortgageOfRank : ByteArray := prog_2_method_12_code
def yX0_mortgageOfRank : MethodName := ⟨RX0, "mortgageOfRank", "(IIJ)I"⟩
def RX1 : String := "Flaghall$Kind"
def TX1 : u_T := fun k => match k with
  | _ => ("", "", "", false)
def tyX1 : Nat → FieldType := fun k => match k with
  | _ => .int
theorem nmX1 : ∀ a, a < 0 → ∀ b, b < 0 → a ≠ b → (TX1 a).2.1 ≠ (TX1 b).2.1 := by decide +kernel
theorem tyX1_ok : ∀ k, k < 0 → parseFieldDescriptor (TX1 k).2.2.1 = some (tyX1 k) := by decide +kernel
def RX2 : String := "Flaghall$Mortgage"
def TX2 : u_T := fun k => match k with
  | 0 => ("Flaghall$Mortgage", "ship", "I", false)
  | 1 => ("Flaghall$Mortgage", "party", "I", false)
  | 2 => ("Flaghall$Mortgage", "amount", "I", false)
  | 3 => ("Flaghall$Mortgage", "place", "I", false)
  | _ => ("Flaghall$Mortgage", "row", "I", false)
def tyX2 : Nat → FieldType := fun k => match k with
  | 0 => .int
  | 1 => .int
  | 2 => .int
  | 3 => .int
  | _ => .int
theorem nmX2 : ∀ a, a < 5 → ∀ b, b < 5 → a ≠ b → (TX2 a).2.1 ≠ (TX2 b).2.1 := by decide +kernel
theorem tyX2_ok : ∀ k, k < 5 → parseFieldDescriptor (TX2 k).2.2.1 = some (tyX2 k) := by decide +kernel
abbrev cX2_init : ByteArray := prog_4_method_1_code
def yX2_init : MethodName := ⟨RX2, "<init>", "()V"⟩
def RX3 : String := "Flaghall$Paper"
def TX3 : u_T := fun k => match k with
  | 0 => ("Flaghall$Paper", "kind", "LFlaghall$Kind;", false)
  | 1 => ("Flaghall$Paper", "ship", "I", false)
  | 2 => ("Flaghall$Paper", "party", "I", false)
  | 3 => ("Flaghall$Paper", "minute", "J", false)
  | 4 => ("Flaghall$Paper", "amount", "I", false)
  | 5 => ("Flaghall$Paper", "lienClass", "I", false)
  | 6 => ("Flaghall$Paper", "mortgage", "I", false)
  | 7 => ("Flaghall$Paper", "place", "I", false)
  | _ => ("Flaghall$Paper", "isPlaceTaken", "Z", false)
def tyX3 : Nat → FieldType := fun k => match k with
  | 0 => .object "Flaghall$Kind"
  | 1 => .int
  | 2 => .int
  | 3 => .long
  | 4 => .int
  | 5 => .int
  | 6 => .int
  | 7 => .int
  | _ => .boolean
theorem nmX3 : ∀ a, a < 9 → ∀ b, b < 9 → a ≠ b → (TX3 a).2.1 ≠ (TX3 b).2.1 := by decide +kernel
theorem tyX3_ok : ∀ k, k < 9 → parseFieldDescriptor (TX3 k).2.2.1 = some (tyX3 k) := by decide +kernel
abbrev cX3_init : ByteArray := prog_5_method_1_code
def yX3_init : MethodName := ⟨RX3, "<init>", "()V"⟩
abbrev cX3_isLienOn : ByteArray := prog_5_method_2_code
def yX3_isLienOn : MethodName := ⟨RX3, "isLienOn", "(IJ)Z"⟩
abbrev cX3_holdsPlaceFor : ByteArray := prog_5_method_3_code
def yX3_holdsPlaceFor : MethodName := ⟨RX3, "holdsPlaceFor", "(IIJ)Z"⟩
def RX4 : String := "Flaghall$Party"
def TX4 : u_T := fun k => match k with
  | 0 => ("Flaghall$Party", "parts", "[I", true)
  | 1 => ("Flaghall$Party", "isCompany", "Z", false)
  | 2 => ("Flaghall$Party", "home", "I", false)
  | 3 => ("Flaghall$Party", "nextHome", "I", false)
  | _ => ("Flaghall$Party", "received", "J", false)
def tyX4 : Nat → FieldType := fun k => match k with
  | 0 => .array .int
  | 1 => .boolean
  | 2 => .int
  | 3 => .int
  | _ => .long
theorem nmX4 : ∀ a, a < 5 → ∀ b, b < 5 → a ≠ b → (TX4 a).2.1 ≠ (TX4 b).2.1 := by decide +kernel
theorem tyX4_ok : ∀ k, k < 5 → parseFieldDescriptor (TX4 k).2.2.1 = some (tyX4 k) := by decide +kernel
abbrev cX4_init : ByteArray := prog_6_method_1_code
def yX4_init : MethodName := ⟨RX4, "<init>", "()V"⟩
abbrev cX4_partsOfParties : ByteArray := prog_6_method_2_code
def yX4_partsOfParties : MethodName := ⟨RX4, "partsOfParties", "()I"⟩
def RX5 : String := "Flaghall$Ship"
def TX5 : u_T := fun k => match k with
  | 0 => ("Flaghall$Ship", "soundLetters", "[C", true)
  | 1 => ("Flaghall$Ship", "shares", "[I", true)
  | 2 => ("Flaghall$Ship", "soundLength", "I", false)
  | 3 => ("Flaghall$Ship", "flown", "I", false)
  | _ => ("Flaghall$Ship", "graceFrom", "J", false)
def tyX5 : Nat → FieldType := fun k => match k with
  | 0 => .array .char
  | 1 => .array .int
  | 2 => .int
  | 3 => .int
  | _ => .long
theorem nmX5 : ∀ a, a < 5 → ∀ b, b < 5 → a ≠ b → (TX5 a).2.1 ≠ (TX5 b).2.1 := by decide +kernel
theorem tyX5_ok : ∀ k, k < 5 → parseFieldDescriptor (TX5 k).2.2.1 = some (tyX5 k) := by decide +kernel
abbrev cX5_init : ByteArray := prog_7_method_1_code
def yX5_init : MethodName := ⟨RX5, "<init>", "()V"⟩
abbrev cX5_takeName : ByteArray := prog_7_method_2_code
def yX5_takeName : MethodName := ⟨RX5, "takeName", "([CI)V"⟩
abbrev cX5_isHeard : ByteArray := prog_7_method_3_code
def yX5_isHeard : MethodName := ⟨RX5, "isHeard", "(C)Z"⟩
abbrev cX5_soundsLike : ByteArray := prog_7_method_4_code
def yX5_soundsLike : MethodName := ⟨RX5, "soundsLike", "(LFlaghall$Ship;)Z"⟩
abbrev cX5_handTo : ByteArray := prog_7_method_5_code
def yX5_handTo : MethodName := ⟨RX5, "handTo", "(I)V"⟩
abbrev cX5_flagAt : ByteArray := prog_7_method_6_code
def yX5_flagAt : MethodName := ⟨RX5, "flagAt", "(J)I"⟩
def RX6 : String := "Flaghall"
def TX6 : u_T := fun k => match k with
  | 0 => ("Flaghall", "parties", "[LFlaghall$Party;", true)
  | 1 => ("Flaghall", "ships", "[LFlaghall$Ship;", true)
  | 2 => ("Flaghall", "book", "LFlaghall$Book;", true)
  | 3 => ("Flaghall", "typed", "[C", true)
  | 4 => ("Flaghall", "heldByLand", "[I", true)
  | 5 => ("Flaghall", "partyCount", "I", false)
  | 6 => ("Flaghall", "shipCount", "I", false)
  | 7 => ("Flaghall", "typedCount", "I", false)
  | _ => ("Flaghall", "minute", "J", false)
def tyX6 : Nat → FieldType := fun k => match k with
  | 0 => .array (.object "Flaghall$Party")
  | 1 => .array (.object "Flaghall$Ship")
  | 2 => .object "Flaghall$Book"
  | 3 => .array .char
  | 4 => .array .int
  | 5 => .int
  | 6 => .int
  | 7 => .int
  | _ => .long
theorem nmX6 : ∀ a, a < 9 → ∀ b, b < 9 → a ≠ b → (TX6 a).2.1 ≠ (TX6 b).2.1 := by decide +kernel
theorem tyX6_ok : ∀ k, k < 9 → parseFieldDescriptor (TX6 k).2.2.1 = some (tyX6 k) := by decide +kernel
abbrev cX6_init : ByteArray := prog_1_method_1_code
def yX6_init : MethodName := ⟨RX6, "<init>", "()V"⟩
abbrev cX6_letter : ByteArray := prog_1_method_2_code
def yX6_letter : MethodName := ⟨RX6, "letter", "(C)I"⟩
abbrev cX6_person : ByteArray := prog_1_method_3_code
def yX6_person : MethodName := ⟨RX6, "person", "(I)I"⟩
abbrev cX6_company : ByteArray := prog_1_method_4_code
def yX6_company : MethodName := ⟨RX6, "company", "()I"⟩
abbrev cX6_part : ByteArray := prog_1_method_5_code
def yX6_part : MethodName := ⟨RX6, "part", "(III)I"⟩
abbrev cX6_land : ByteArray := prog_1_method_6_code
def yX6_land : MethodName := ⟨RX6, "land", "(I)I"⟩
abbrev cX6_ship : ByteArray := prog_1_method_7_code
def yX6_ship : MethodName := ⟨RX6, "ship", "(I)I"⟩
abbrev cX6_sell : ByteArray := prog_1_method_8_code
def yX6_sell : MethodName := ⟨RX6, "sell", "(IIII)I"⟩
abbrev cX6_fly : ByteArray := prog_1_method_9_code
def yX6_fly : MethodName := ⟨RX6, "fly", "(II)I"⟩
abbrev cX6_notice : ByteArray := prog_1_method_10_code
def yX6_notice : MethodName := ⟨RX6, "notice", "(II)I"⟩
abbrev cX6_mortgage : ByteArray := prog_1_method_11_code
def yX6_mortgage : MethodName := ⟨RX6, "mortgage", "(III)I"⟩
abbrev cX6_discharge : ByteArray := prog_1_method_12_code
def yX6_discharge : MethodName := ⟨RX6, "discharge", "(IZ)V"⟩
abbrev cX6_lien : ByteArray := prog_1_method_13_code
def yX6_lien : MethodName := ⟨RX6, "lien", "(IIII)I"⟩
abbrev cX6_court : ByteArray := prog_1_method_14_code
def yX6_court : MethodName := ⟨RX6, "court", "(III)J"⟩
abbrev cX6_pass : ByteArray := prog_1_method_15_code
def yX6_pass : MethodName := ⟨RX6, "pass", "(I)J"⟩
abbrev cX6_share : ByteArray := prog_1_method_16_code
def yX6_share : MethodName := ⟨RX6, "share", "(II)I"⟩
abbrev cX6_flag : ByteArray := prog_1_method_18_code
def yX6_flag : MethodName := ⟨RX6, "flag", "(I)I"⟩
abbrev cX6_rank : ByteArray := prog_1_method_19_code
def yX6_rank : MethodName := ⟨RX6, "rank", "(I)I"⟩
abbrev cX6_search : ByteArray := prog_1_method_20_code
def yX6_search : MethodName := ⟨RX6, "search", "(IJI)I"⟩
abbrev cX6_got : ByteArray := prog_1_method_21_code
def yX6_got : MethodName := ⟨RX6, "got", "(I)J"⟩
abbrev cX6_liens : ByteArray := prog_1_method_22_code
def yX6_liens : MethodName := ⟨RX6, "liens", "(I)I"⟩
abbrev cX6_needLand : ByteArray := prog_1_method_23_code
def yX6_needLand : MethodName := ⟨RX6, "needLand", "(I)V"⟩
abbrev cX6_needParty : ByteArray := prog_1_method_24_code
def yX6_needParty : MethodName := ⟨RX6, "needParty", "(I)V"⟩
abbrev cX6_needShip : ByteArray := prog_1_method_25_code
def yX6_needShip : MethodName := ⟨RX6, "needShip", "(I)V"⟩
abbrev cX6_needMortgage : ByteArray := prog_1_method_26_code
def yX6_needMortgage : MethodName := ⟨RX6, "needMortgage", "(I)V"⟩
abbrev cX6_needNotNegative : ByteArray := prog_1_method_27_code
def yX6_needNotNegative : MethodName := ⟨RX6, "needNotNegative", "(I)V"⟩
abbrev cX6_needWithin : ByteArray := prog_1_method_28_code
def yX6_needWithin : MethodName := ⟨RX6, "needWithin", "(III)V"⟩
abbrev cX6_needRoomInBook : ByteArray := prog_1_method_29_code
def yX6_needRoomInBook : MethodName := ⟨RX6, "needRoomInBook", "()V"⟩
abbrev cX6_addParty : ByteArray := prog_1_method_30_code
def yX6_addParty : MethodName := ⟨RX6, "addParty", "(ZI)I"⟩
abbrev cX6_findHomes : ByteArray := prog_1_method_31_code
def yX6_findHomes : MethodName := ⟨RX6, "findHomes", "()V"⟩
abbrev cX6_landOfMost : ByteArray := prog_1_method_32_code
def yX6_landOfMost : MethodName := ⟨RX6, "landOfMost", "([I)I"⟩
abbrev cX6_checkGrace : ByteArray := prog_1_method_33_code
def yX6_checkGrace : MethodName := ⟨RX6, "checkGrace", "(LFlaghall$Ship;)V"⟩
abbrev cX6_payLiens : ByteArray := prog_1_method_34_code
def yX6_payLiens : MethodName := ⟨RX6, "payLiens", "(IJ)J"⟩
abbrev cX6_payMortgages : ByteArray := prog_1_method_35_code
def yX6_payMortgages : MethodName := ⟨RX6, "payMortgages", "(IJ)J"⟩
abbrev cX6_payOwners : ByteArray := prog_1_method_36_code
def yX6_payOwners : MethodName := ⟨RX6, "payOwners", "(LFlaghall$Ship;J)J"⟩
abbrev cX6_pay : ByteArray := prog_1_method_37_code
def yX6_pay : MethodName := ⟨RX6, "pay", "(IJ)J"⟩
def RX7 : String := "FlaghallModel"
def TX7 : u_T := fun k => match k with
  | _ => ("", "", "", false)
def tyX7 : Nat → FieldType := fun k => match k with
  | _ => .int
theorem nmX7 : ∀ a, a < 0 → ∀ b, b < 0 → a ≠ b → (TX7 a).2.1 ≠ (TX7 b).2.1 := by decide +kernel
theorem tyX7_ok : ∀ k, k < 0 → parseFieldDescriptor (TX7 k).2.2.1 = some (tyX7 k) := by decide +kernel
def RJx145de : String := "java/io/Serializable"
def TJx145de : u_T := fun k => match k with
  | _ => ("", "", "", false)
def tyJx145de : Nat → FieldType := fun k => match k with
  | _ => .int
theorem nmJx145de : ∀ a, a < 0 → ∀ b, b < 0 → a ≠ b → (TJx145de a).2.1 ≠ (TJx145de b).2.1 := by decide +kernel
theorem tyJx145de_ok : ∀ k, k < 0 → parseFieldDescriptor (TJx145de k).2.2.1 = some (tyJx145de k) := by decide +kernel
def RJx29ce0 : String := "java/lang/Enum"
def TJx29ce0 : u_T := fun k => match k with
  | _ => ("", "", "", false)
def tyJx29ce0 : Nat → FieldType := fun k => match k with
  | _ => .int
theorem nmJx29ce0 : ∀ a, a < 0 → ∀ b, b < 0 → a ≠ b → (TJx29ce0 a).2.1 ≠ (TJx29ce0 b).2.1 := by decide +kernel
theorem tyJx29ce0_ok : ∀ k, k < 0 → parseFieldDescriptor (TJx29ce0 k).2.2.1 = some (tyJx29ce0 k) := by decide +kernel
def RJ9 : String := "java/lang/Math"
def TJ9 : u_T := fun k => match k with
  | _ => ("", "", "", false)
def tyJ9 : Nat → FieldType := fun k => match k with
  | _ => .int
theorem nmJ9 : ∀ a, a < 0 → ∀ b, b < 0 → a ≠ b → (TJ9 a).2.1 ≠ (TJ9 b).2.1 := by decide +kernel
theorem tyJ9_ok : ∀ k, k < 0 → parseFieldDescriptor (TJ9 k).2.2.1 = some (tyJ9 k) := by decide +kernel
abbrev cJ9_min_f86c9 : ByteArray := prog_15_method_70_code
def yJ9_min_f86c9 : MethodName := ⟨RJ9, "min", "(JJ)J"⟩
def RJ0 : String := "java/lang/String"
def TJ0 : u_T := fun k => match k with
  | _ => ("", "", "", false)
def tyJ0 : Nat → FieldType := fun k => match k with
  | _ => .int
theorem nmJ0 : ∀ a, a < 0 → ∀ b, b < 0 → a ≠ b → (TJ0 a).2.1 ≠ (TJ0 b).2.1 := by decide +kernel
theorem tyJ0_ok : ∀ k, k < 0 → parseFieldDescriptor (TJ0 k).2.2.1 = some (tyJ0 k) := by decide +kernel
def RJ7 : String := "java/util/Arrays"
def TJ7 : u_T := fun k => match k with
  | _ => ("", "", "", false)
def tyJ7 : Nat → FieldType := fun k => match k with
  | _ => .int
theorem nmJ7 : ∀ a, a < 0 → ∀ b, b < 0 → a ≠ b → (TJ7 a).2.1 ≠ (TJ7 b).2.1 := by decide +kernel
theorem tyJ7_ok : ∀ k, k < 0 → parseFieldDescriptor (TJ7 k).2.2.1 = some (tyJ7 k) := by decide +kernel
abbrev cJ7_fill_53178 : ByteArray := prog_19_method_103_code
def yJ7_fill_53178 : MethodName := ⟨RJ7, "fill", "([II)V"⟩
def RL : String := "FlaghallLaw"
abbrev cL_lands : ByteArray := method_2_code
def yL_lands : MethodName := ⟨RL, "lands", "([I[I[I[I)V"⟩
abbrev cL_can : ByteArray := method_3_code
def yL_can : MethodName := ⟨RL, "can", "([I[I[III)Z"⟩
abbrev cL_looks : ByteArray := method_4_code
def yL_looks : MethodName := ⟨RL, "looks", "([I[I[I[I[J[IJ)V"⟩
abbrev cL_flag : ByteArray := method_5_code
def yL_flag : MethodName := ⟨RL, "flag", "([I[JIJ)I"⟩
abbrev cL_isOf : ByteArray := method_6_code
def yL_isOf : MethodName := ⟨RL, "isOf", "([IIII)Z"⟩
abbrev cL_was : ByteArray := method_7_code
def yL_was : MethodName := ⟨RL, "was", "([I[J[J[I[IIJ)Z"⟩
abbrev cL_at : ByteArray := method_8_code
def yL_at : MethodName := ⟨RL, "at", "([I[J[J[I[I[IIJI)I"⟩
abbrev cL_isLien : ByteArray := method_9_code
def yL_isLien : MethodName := ⟨RL, "isLien", "([I[J[JIIJ)Z"⟩
abbrev cL_liens : ByteArray := method_10_code
def yL_liens : MethodName := ⟨RL, "liens", "([I[J[J[IIJ)I"⟩
abbrev cL_some : ByteArray := method_11_code
def yL_some : MethodName := ⟨RL, "some", "(JI)J"⟩
abbrev cL_sold : ByteArray := method_12_code
def yL_sold : MethodName := ⟨RL, "sold", "([I[I[I[J[J[I[I[J[IIIIJ)J"⟩
abbrev cL_does : ByteArray := method_13_code
def yL_does : MethodName := ⟨RL, "does", "(LFlaghall;IIIII)J"⟩
abbrev cL_discharges : ByteArray := method_14_code
def yL_discharges : MethodName := ⟨RL, "discharges", "(LFlaghall;IZ)J"⟩
abbrev cL_isHall : ByteArray := method_15_code
def yL_isHall : MethodName := ⟨RL, "isHall", "(LFlaghall;[I[I[I[I[J[I[J[J[I[I[I[J[IJI)Z"⟩
abbrev cL_law : ByteArray := code
def yL_law : MethodName := ⟨RL, "law", "([I)Z"⟩
abbrev vwCl : List vw_C := [(RX0, TX0, 5), (RX2, TX2, 5), (RX3, TX3, 9), (RX4, TX4, 5), (RX5, TX5, 5), (RX6, TX6, 9)]
