/-! ===== the good words of the tables ===== -/
def zBG : List Cond := lw_tbl.filter goodWord
theorem zBG_in {w : Cond} (h : w ∈ zBG) : w ∈ lw_tbl := (List.mem_filter.mp h).1
theorem zBG_all : zBG.all goodWord = true := List.all_eq_true.mpr fun _ h => (List.mem_filter.mp h).2
theorem zBG_good {w : Cond} (h : w ∈ zBG) : (w.onTables && w.keeps) = true ∨ ∃ ty, w = .arrayClass ty := good_of_word (List.mem_filter.mp h).2
theorem zin_0 {w : Cond} (h : w ∈ k2_sels lw_privs) (g : goodWord w = true) : w ∈ zBG := List.mem_filter.mpr ⟨List.mem_append_left _ h, g⟩
theorem zin_1 {w : Cond} (h : w ∈ tables_1_1) (g : goodWord w = true) : w ∈ zBG := List.mem_filter.mpr ⟨List.mem_append_right _ (List.mem_append_left _ h), g⟩
theorem zin_2 {w : Cond} (h : w ∈ tables_1_2) (g : goodWord w = true) : w ∈ zBG := List.mem_filter.mpr ⟨List.mem_append_right _ (List.mem_append_right _ (List.mem_append_left _ h)), g⟩
theorem zin_3 {w : Cond} (h : w ∈ tables_1_3) (g : goodWord w = true) : w ∈ zBG := List.mem_filter.mpr ⟨List.mem_append_right _ (List.mem_append_right _ (List.mem_append_right _ h)), g⟩
theorem zt_0_0 : Cond.selects "Flaghall" ⟨"Flaghall", "needLand", "(I)V"⟩ ⟨"Flaghall", "needLand", "(I)V"⟩ ∈ zBG := zin_0 (List.mem_of_getElem? (i := 0) rfl) rfl
theorem zt_0_1 : Cond.selects "java/lang/Throwable" ⟨"java/lang/Throwable", "fillInStackTrace", "(I)Ljava/lang/Throwable;"⟩ ⟨"java/lang/Throwable", "fillInStackTrace", "(I)Ljava/lang/Throwable;"⟩ ∈ zBG := zin_0 (List.mem_of_getElem? (i := 1) rfl) rfl
theorem zt_0_2 : Cond.selects "Flaghall" ⟨"Flaghall", "addParty", "(ZI)I"⟩ ⟨"Flaghall", "addParty", "(ZI)I"⟩ ∈ zBG := zin_0 (List.mem_of_getElem? (i := 2) rfl) rfl
theorem zt_0_3 : Cond.selects "Flaghall" ⟨"Flaghall", "needShip", "(I)V"⟩ ⟨"Flaghall", "needShip", "(I)V"⟩ ∈ zBG := zin_0 (List.mem_of_getElem? (i := 3) rfl) rfl
theorem zt_0_4 : Cond.selects "Flaghall" ⟨"Flaghall", "needParty", "(I)V"⟩ ⟨"Flaghall", "needParty", "(I)V"⟩ ∈ zBG := zin_0 (List.mem_of_getElem? (i := 4) rfl) rfl
theorem zt_0_5 : Cond.selects "Flaghall" ⟨"Flaghall", "needRoomInBook", "()V"⟩ ⟨"Flaghall", "needRoomInBook", "()V"⟩ ∈ zBG := zin_0 (List.mem_of_getElem? (i := 5) rfl) rfl
theorem zt_0_6 : Cond.selects "Flaghall$Book" ⟨"Flaghall$Book", "isFull", "()Z"⟩ ⟨"Flaghall$Book", "isFull", "()Z"⟩ ∈ zBG := zin_0 (List.mem_of_getElem? (i := 6) rfl) rfl
theorem zt_0_7 : Cond.selects "Flaghall$Book" ⟨"Flaghall$Book", "enter", "(LFlaghall$Kind;IIJ)LFlaghall$Paper;"⟩ ⟨"Flaghall$Book", "enter", "(LFlaghall$Kind;IIJ)LFlaghall$Paper;"⟩ ∈ zBG := zin_0 (List.mem_of_getElem? (i := 7) rfl) rfl
theorem zt_0_8 : Cond.selects "Flaghall" ⟨"Flaghall", "needWithin", "(III)V"⟩ ⟨"Flaghall", "needWithin", "(III)V"⟩ ∈ zBG := zin_0 (List.mem_of_getElem? (i := 8) rfl) rfl
theorem zt_0_9 : Cond.selects "Flaghall$Book" ⟨"Flaghall$Book", "enterMortgage", "(IIIJ)I"⟩ ⟨"Flaghall$Book", "enterMortgage", "(IIIJ)I"⟩ ∈ zBG := zin_0 (List.mem_of_getElem? (i := 9) rfl) rfl
theorem zt_0_10 : Cond.selects "Flaghall$Book" ⟨"Flaghall$Book", "takePlace", "(IIJ)I"⟩ ⟨"Flaghall$Book", "takePlace", "(IIJ)I"⟩ ∈ zBG := zin_0 (List.mem_of_getElem? (i := 10) rfl) rfl
theorem zt_0_11 : Cond.selects "Flaghall$Book" ⟨"Flaghall$Book", "firstOpenRow", "(I)I"⟩ ⟨"Flaghall$Book", "firstOpenRow", "(I)I"⟩ ∈ zBG := zin_0 (List.mem_of_getElem? (i := 11) rfl) rfl
theorem zt_0_12 : Cond.selects "Flaghall$Paper" ⟨"Flaghall$Paper", "holdsPlaceFor", "(IIJ)Z"⟩ ⟨"Flaghall$Paper", "holdsPlaceFor", "(IIJ)Z"⟩ ∈ zBG := zin_0 (List.mem_of_getElem? (i := 12) rfl) rfl
theorem zt_0_13 : Cond.selects "Flaghall" ⟨"Flaghall", "payLiens", "(IJ)J"⟩ ⟨"Flaghall", "payLiens", "(IJ)J"⟩ ∈ zBG := zin_0 (List.mem_of_getElem? (i := 13) rfl) rfl
theorem zt_0_14 : Cond.selects "Flaghall$Paper" ⟨"Flaghall$Paper", "isLienOn", "(IJ)Z"⟩ ⟨"Flaghall$Paper", "isLienOn", "(IJ)Z"⟩ ∈ zBG := zin_0 (List.mem_of_getElem? (i := 14) rfl) rfl
theorem zt_0_15 : Cond.selects "Flaghall" ⟨"Flaghall", "pay", "(IJ)J"⟩ ⟨"Flaghall", "pay", "(IJ)J"⟩ ∈ zBG := zin_0 (List.mem_of_getElem? (i := 15) rfl) rfl
theorem zt_0_16 : Cond.selects "Flaghall" ⟨"Flaghall", "payMortgages", "(IJ)J"⟩ ⟨"Flaghall", "payMortgages", "(IJ)J"⟩ ∈ zBG := zin_0 (List.mem_of_getElem? (i := 16) rfl) rfl
theorem zt_0_17 : Cond.selects "Flaghall$Book" ⟨"Flaghall$Book", "readUpTo", "(IJ)V"⟩ ⟨"Flaghall$Book", "readUpTo", "(IJ)V"⟩ ∈ zBG := zin_0 (List.mem_of_getElem? (i := 17) rfl) rfl
theorem zt_0_18 : Cond.selects "Flaghall$Book" ⟨"Flaghall$Book", "read", "(LFlaghall$Paper;)V"⟩ ⟨"Flaghall$Book", "read", "(LFlaghall$Paper;)V"⟩ ∈ zBG := zin_0 (List.mem_of_getElem? (i := 18) rfl) rfl
theorem zt_0_19 : Cond.selects "Flaghall" ⟨"Flaghall", "payOwners", "(LFlaghall$Ship;J)J"⟩ ⟨"Flaghall", "payOwners", "(LFlaghall$Ship;J)J"⟩ ∈ zBG := zin_0 (List.mem_of_getElem? (i := 19) rfl) rfl
theorem zt_0_20 : Cond.selects "Flaghall$Ship" ⟨"Flaghall$Ship", "handTo", "(I)V"⟩ ⟨"Flaghall$Ship", "handTo", "(I)V"⟩ ∈ zBG := zin_0 (List.mem_of_getElem? (i := 20) rfl) rfl
theorem zt_0_21 : Cond.selects "Flaghall$Ship" ⟨"Flaghall$Ship", "takeName", "([CI)V"⟩ ⟨"Flaghall$Ship", "takeName", "([CI)V"⟩ ∈ zBG := zin_0 (List.mem_of_getElem? (i := 21) rfl) rfl
theorem zt_0_22 : Cond.selects "Flaghall$Ship" ⟨"Flaghall$Ship", "isHeard", "(C)Z"⟩ ⟨"Flaghall$Ship", "isHeard", "(C)Z"⟩ ∈ zBG := zin_0 (List.mem_of_getElem? (i := 22) rfl) rfl
theorem zt_0_23 : Cond.selects "Flaghall$Ship" ⟨"Flaghall$Ship", "soundsLike", "(LFlaghall$Ship;)Z"⟩ ⟨"Flaghall$Ship", "soundsLike", "(LFlaghall$Ship;)Z"⟩ ∈ zBG := zin_0 (List.mem_of_getElem? (i := 23) rfl) rfl
theorem zt_0_24 : Cond.selects "Flaghall" ⟨"Flaghall", "checkGrace", "(LFlaghall$Ship;)V"⟩ ⟨"Flaghall", "checkGrace", "(LFlaghall$Ship;)V"⟩ ∈ zBG := zin_0 (List.mem_of_getElem? (i := 24) rfl) rfl
theorem zt_0_25 : Cond.selects "Flaghall" ⟨"Flaghall", "landOfMost", "([I)I"⟩ ⟨"Flaghall", "landOfMost", "([I)I"⟩ ∈ zBG := zin_0 (List.mem_of_getElem? (i := 25) rfl) rfl
theorem zt_0_26 : Cond.selects "Flaghall$Ship" ⟨"Flaghall$Ship", "flagAt", "(J)I"⟩ ⟨"Flaghall$Ship", "flagAt", "(J)I"⟩ ∈ zBG := zin_0 (List.mem_of_getElem? (i := 26) rfl) rfl
theorem zt_0_27 : Cond.selects "Flaghall$Party" ⟨"Flaghall$Party", "partsOfParties", "()I"⟩ ⟨"Flaghall$Party", "partsOfParties", "()I"⟩ ∈ zBG := zin_0 (List.mem_of_getElem? (i := 27) rfl) rfl
theorem zt_0_28 : Cond.selects "Flaghall" ⟨"Flaghall", "findHomes", "()V"⟩ ⟨"Flaghall", "findHomes", "()V"⟩ ∈ zBG := zin_0 (List.mem_of_getElem? (i := 28) rfl) rfl
theorem zt_0_29 : Cond.selects "Flaghall" ⟨"Flaghall", "needMortgage", "(I)V"⟩ ⟨"Flaghall", "needMortgage", "(I)V"⟩ ∈ zBG := zin_0 (List.mem_of_getElem? (i := 29) rfl) rfl
theorem zt_0_30 : Cond.selects "Flaghall$Book" ⟨"Flaghall$Book", "rankOf", "(IJ)I"⟩ ⟨"Flaghall$Book", "rankOf", "(IJ)I"⟩ ∈ zBG := zin_0 (List.mem_of_getElem? (i := 30) rfl) rfl
theorem zt_0_31 : Cond.selects "Flaghall$Book" ⟨"Flaghall$Book", "isOver", "(I)Z"⟩ ⟨"Flaghall$Book", "isOver", "(I)Z"⟩ ∈ zBG := zin_0 (List.mem_of_getElem? (i := 31) rfl) rfl
theorem zt_0_32 : Cond.selects "Flaghall$Book" ⟨"Flaghall$Book", "enterDischarge", "(IZJ)V"⟩ ⟨"Flaghall$Book", "enterDischarge", "(IZJ)V"⟩ ∈ zBG := zin_0 (List.mem_of_getElem? (i := 32) rfl) rfl
theorem zt_0_33 : Cond.selects "Flaghall" ⟨"Flaghall", "needNotNegative", "(I)V"⟩ ⟨"Flaghall", "needNotNegative", "(I)V"⟩ ∈ zBG := zin_0 (List.mem_of_getElem? (i := 33) rfl) rfl
theorem zt_0_34 : Cond.selects "Flaghall$Book" ⟨"Flaghall$Book", "mortgageOfRank", "(IIJ)I"⟩ ⟨"Flaghall$Book", "mortgageOfRank", "(IIJ)I"⟩ ∈ zBG := zin_0 (List.mem_of_getElem? (i := 34) rfl) rfl
theorem zt_1_0 : (Jvm.Cond.initialized "FlaghallLaw") ∈ zBG := zin_1 (List.mem_of_getElem? (i := 0) rfl) rfl
theorem zt_1_1 : (Jvm.Cond.initialized "Flaghall") ∈ zBG := zin_1 (List.mem_of_getElem? (i := 1) rfl) rfl
theorem zt_1_2 : (Jvm.Cond.initialized "Flaghall$Book") ∈ zBG := zin_1 (List.mem_of_getElem? (i := 2) rfl) rfl
theorem zt_1_3 : (Jvm.Cond.initialized "Flaghall$Paper") ∈ zBG := zin_1 (List.mem_of_getElem? (i := 3) rfl) rfl
theorem zt_1_4 : (Jvm.Cond.initialized "java/lang/Enum") ∈ zBG := zin_1 (List.mem_of_getElem? (i := 4) rfl) rfl
theorem zt_1_5 : (Jvm.Cond.initialized "Flaghall$Kind") ∈ zBG := zin_1 (List.mem_of_getElem? (i := 5) rfl) rfl
theorem zt_1_6 : (Jvm.Cond.initialized "Flaghall$Mortgage") ∈ zBG := zin_1 (List.mem_of_getElem? (i := 6) rfl) rfl
theorem zt_1_7 : (Jvm.Cond.initialized "Flaghall$Party") ∈ zBG := zin_1 (List.mem_of_getElem? (i := 7) rfl) rfl
theorem zt_1_8 : (Jvm.Cond.initialized "Flaghall$Ship") ∈ zBG := zin_1 (List.mem_of_getElem? (i := 8) rfl) rfl
theorem zt_1_9 : (Jvm.Cond.initialized "java/lang/Throwable") ∈ zBG := zin_1 (List.mem_of_getElem? (i := 9) rfl) rfl
theorem zt_1_10 : (Jvm.Cond.initialized "java/lang/Exception") ∈ zBG := zin_1 (List.mem_of_getElem? (i := 10) rfl) rfl
theorem zt_1_11 : (Jvm.Cond.initialized "java/lang/RuntimeException") ∈ zBG := zin_1 (List.mem_of_getElem? (i := 11) rfl) rfl
theorem zt_1_12 : (Jvm.Cond.initialized "java/lang/IllegalStateException") ∈ zBG := zin_1 (List.mem_of_getElem? (i := 12) rfl) rfl
theorem zt_1_13 : (Jvm.Cond.initialized "java/lang/IndexOutOfBoundsException") ∈ zBG := zin_1 (List.mem_of_getElem? (i := 13) rfl) rfl
theorem zt_1_14 : (Jvm.Cond.initialized "java/util/Arrays") ∈ zBG := zin_1 (List.mem_of_getElem? (i := 14) rfl) rfl
theorem zt_1_15 : (Jvm.Cond.initialized "java/lang/IllegalArgumentException") ∈ zBG := zin_1 (List.mem_of_getElem? (i := 15) rfl) rfl
theorem zt_1_16 : (Jvm.Cond.initialized "java/lang/Math") ∈ zBG := zin_1 (List.mem_of_getElem? (i := 16) rfl) rfl
theorem zt_1_17 : (Jvm.Cond.classLink "FlaghallLaw" (44 : Nat) "Flaghall") ∈ zBG := zin_1 (List.mem_of_getElem? (i := 17) rfl) rfl
theorem zt_1_18 : (Jvm.Cond.instantiable "Flaghall" (9 : Nat)) ∈ zBG := zin_1 (List.mem_of_getElem? (i := 18) rfl) rfl
theorem zt_1_19 : (Jvm.Cond.methodLink "FlaghallLaw" (116 : Nat) ({ cls := "Flaghall", name := "<init>", desc := "()V" } : Jvm.MethodName)) ∈ zBG := zin_1 (List.mem_of_getElem? (i := 19) rfl) rfl
theorem zt_1_20 : (Jvm.Cond.instanceMethod ({ cls := "Flaghall", name := "<init>", desc := "()V" } : Jvm.MethodName)) ∈ zBG := zin_1 (List.mem_of_getElem? (i := 20) rfl) rfl
theorem zt_1_21 : (Jvm.Cond.code ({ cls := "Flaghall", name := "<init>", desc := "()V" } : Jvm.MethodName) prog_1_method_1_code (2 : Nat) (Option.none : Option Jvm.ClassFile.FieldType)) ∈ zBG := zin_1 (List.mem_of_getElem? (i := 21) rfl) rfl
theorem zt_1_22 : (Jvm.Cond.methodLink "Flaghall" (3 : Nat) ({ cls := "java/lang/Object", name := "<init>", desc := "()V" } : Jvm.MethodName)) ∈ zBG := zin_1 (List.mem_of_getElem? (i := 22) rfl) rfl
theorem zt_1_23 : (Jvm.Cond.instanceMethod ({ cls := "java/lang/Object", name := "<init>", desc := "()V" } : Jvm.MethodName)) ∈ zBG := zin_1 (List.mem_of_getElem? (i := 23) rfl) rfl
theorem zt_1_24 : (Jvm.Cond.code ({ cls := "java/lang/Object", name := "<init>", desc := "()V" } : Jvm.MethodName) object_method_1_code (1 : Nat) (Option.none : Option Jvm.ClassFile.FieldType)) ∈ zBG := zin_1 (List.mem_of_getElem? (i := 24) rfl) rfl
theorem zt_1_25 : (Jvm.Cond.classLink "Flaghall" (9 : Nat) "Flaghall$Party") ∈ zBG := zin_1 (List.mem_of_getElem? (i := 25) rfl) rfl
theorem zt_1_27 : (Jvm.Cond.classLink "Flaghall" (15 : Nat) "Flaghall$Ship") ∈ zBG := zin_1 (List.mem_of_getElem? (i := 27) rfl) rfl
theorem zt_1_29 : (Jvm.Cond.classLink "Flaghall" (21 : Nat) "Flaghall$Book") ∈ zBG := zin_1 (List.mem_of_getElem? (i := 29) rfl) rfl
theorem zt_1_30 : (Jvm.Cond.instantiable "Flaghall$Book" (5 : Nat)) ∈ zBG := zin_1 (List.mem_of_getElem? (i := 30) rfl) rfl
theorem zt_1_32 : (Jvm.Cond.instanceMethod ({ cls := "Flaghall$Book", name := "<init>", desc := "()V" } : Jvm.MethodName)) ∈ zBG := zin_1 (List.mem_of_getElem? (i := 32) rfl) rfl
theorem zt_1_33 : (Jvm.Cond.code ({ cls := "Flaghall$Book", name := "<init>", desc := "()V" } : Jvm.MethodName) prog_2_method_1_code (2 : Nat) (Option.none : Option Jvm.ClassFile.FieldType)) ∈ zBG := zin_1 (List.mem_of_getElem? (i := 33) rfl) rfl
theorem zt_1_34 : (Jvm.Cond.methodLink "Flaghall$Book" (3 : Nat) ({ cls := "java/lang/Object", name := "<init>", desc := "()V" } : Jvm.MethodName)) ∈ zBG := zin_1 (List.mem_of_getElem? (i := 34) rfl) rfl
theorem zt_1_35 : (Jvm.Cond.classLink "Flaghall$Book" (9 : Nat) "Flaghall$Paper") ∈ zBG := zin_1 (List.mem_of_getElem? (i := 35) rfl) rfl
theorem zt_1_37 : (Jvm.Cond.classLink "Flaghall$Book" (17 : Nat) "Flaghall$Mortgage") ∈ zBG := zin_1 (List.mem_of_getElem? (i := 37) rfl) rfl
theorem zt_1_39 : (Jvm.Cond.instantiable "Flaghall$Paper" (9 : Nat)) ∈ zBG := zin_1 (List.mem_of_getElem? (i := 39) rfl) rfl
theorem zt_1_41 : (Jvm.Cond.instanceMethod ({ cls := "Flaghall$Paper", name := "<init>", desc := "()V" } : Jvm.MethodName)) ∈ zBG := zin_1 (List.mem_of_getElem? (i := 41) rfl) rfl
theorem zt_1_42 : (Jvm.Cond.code ({ cls := "Flaghall$Paper", name := "<init>", desc := "()V" } : Jvm.MethodName) prog_5_method_1_code (1 : Nat) (Option.none : Option Jvm.ClassFile.FieldType)) ∈ zBG := zin_1 (List.mem_of_getElem? (i := 42) rfl) rfl
theorem zt_1_43 : (Jvm.Cond.methodLink "Flaghall$Paper" (3 : Nat) ({ cls := "java/lang/Object", name := "<init>", desc := "()V" } : Jvm.MethodName)) ∈ zBG := zin_1 (List.mem_of_getElem? (i := 43) rfl) rfl
theorem zt_1_44 : (Jvm.Cond.fieldLink "Flaghall$Paper" (9 : Nat) "Flaghall$Kind" "NOTICE" "LFlaghall$Kind;") ∈ zBG := zin_1 (List.mem_of_getElem? (i := 44) rfl) rfl
theorem zt_1_46 : (Jvm.Cond.fieldLink "Flaghall$Paper" (15 : Nat) "Flaghall$Paper" "kind" "LFlaghall$Kind;") ∈ zBG := zin_1 (List.mem_of_getElem? (i := 46) rfl) rfl
theorem zt_1_48 : (Jvm.Cond.fieldLink "Flaghall$Paper" (20 : Nat) "Flaghall$Paper" "ship" "I") ∈ zBG := zin_1 (List.mem_of_getElem? (i := 48) rfl) rfl
theorem zt_1_50 : (Jvm.Cond.fieldLink "Flaghall$Paper" (24 : Nat) "Flaghall$Paper" "party" "I") ∈ zBG := zin_1 (List.mem_of_getElem? (i := 50) rfl) rfl
theorem zt_1_53 : (Jvm.Cond.fieldLink "Flaghall$Paper" (39 : Nat) "Flaghall$Paper" "minute" "J") ∈ zBG := zin_1 (List.mem_of_getElem? (i := 53) rfl) rfl
theorem zt_1_56 : (Jvm.Cond.fieldLink "Flaghall$Paper" (27 : Nat) "Flaghall$Paper" "lienClass" "I") ∈ zBG := zin_1 (List.mem_of_getElem? (i := 56) rfl) rfl
theorem zt_1_58 : (Jvm.Cond.fieldLink "Flaghall$Paper" (30 : Nat) "Flaghall$Paper" "mortgage" "I") ∈ zBG := zin_1 (List.mem_of_getElem? (i := 58) rfl) rfl
theorem zt_1_60 : (Jvm.Cond.fieldLink "Flaghall$Paper" (33 : Nat) "Flaghall$Paper" "place" "I") ∈ zBG := zin_1 (List.mem_of_getElem? (i := 60) rfl) rfl
theorem zt_1_62 : (Jvm.Cond.fieldLink "Flaghall$Paper" (45 : Nat) "Flaghall$Paper" "isPlaceTaken" "Z") ∈ zBG := zin_1 (List.mem_of_getElem? (i := 62) rfl) rfl
theorem zt_1_64 : (Jvm.Cond.lays "Flaghall$Paper" "Flaghall$Paper" "kind" "LFlaghall$Kind;") ∈ zBG := zin_1 (List.mem_of_getElem? (i := 64) rfl) rfl
theorem zt_1_65 : (Jvm.Cond.soleField "Flaghall$Paper" "kind") ∈ zBG := zin_1 (List.mem_of_getElem? (i := 65) rfl) rfl
theorem zt_1_66 : (Jvm.Cond.lays "Flaghall$Paper" "Flaghall$Paper" "ship" "I") ∈ zBG := zin_1 (List.mem_of_getElem? (i := 66) rfl) rfl
theorem zt_1_67 : (Jvm.Cond.soleField "Flaghall$Paper" "ship") ∈ zBG := zin_1 (List.mem_of_getElem? (i := 67) rfl) rfl
theorem zt_1_68 : (Jvm.Cond.lays "Flaghall$Paper" "Flaghall$Paper" "party" "I") ∈ zBG := zin_1 (List.mem_of_getElem? (i := 68) rfl) rfl
theorem zt_1_69 : (Jvm.Cond.soleField "Flaghall$Paper" "party") ∈ zBG := zin_1 (List.mem_of_getElem? (i := 69) rfl) rfl
theorem zt_1_70 : (Jvm.Cond.lays "Flaghall$Paper" "Flaghall$Paper" "minute" "J") ∈ zBG := zin_1 (List.mem_of_getElem? (i := 70) rfl) rfl
theorem zt_1_71 : (Jvm.Cond.soleField "Flaghall$Paper" "minute") ∈ zBG := zin_1 (List.mem_of_getElem? (i := 71) rfl) rfl
theorem zt_1_72 : (Jvm.Cond.lays "Flaghall$Paper" "Flaghall$Paper" "amount" "I") ∈ zBG := zin_1 (List.mem_of_getElem? (i := 72) rfl) rfl
theorem zt_1_73 : (Jvm.Cond.soleField "Flaghall$Paper" "amount") ∈ zBG := zin_1 (List.mem_of_getElem? (i := 73) rfl) rfl
theorem zt_1_74 : (Jvm.Cond.lays "Flaghall$Paper" "Flaghall$Paper" "lienClass" "I") ∈ zBG := zin_1 (List.mem_of_getElem? (i := 74) rfl) rfl
theorem zt_1_75 : (Jvm.Cond.soleField "Flaghall$Paper" "lienClass") ∈ zBG := zin_1 (List.mem_of_getElem? (i := 75) rfl) rfl
theorem zt_1_76 : (Jvm.Cond.lays "Flaghall$Paper" "Flaghall$Paper" "mortgage" "I") ∈ zBG := zin_1 (List.mem_of_getElem? (i := 76) rfl) rfl
theorem zt_1_77 : (Jvm.Cond.soleField "Flaghall$Paper" "mortgage") ∈ zBG := zin_1 (List.mem_of_getElem? (i := 77) rfl) rfl
theorem zt_1_78 : (Jvm.Cond.lays "Flaghall$Paper" "Flaghall$Paper" "place" "I") ∈ zBG := zin_1 (List.mem_of_getElem? (i := 78) rfl) rfl
theorem zt_1_79 : (Jvm.Cond.soleField "Flaghall$Paper" "place") ∈ zBG := zin_1 (List.mem_of_getElem? (i := 79) rfl) rfl
theorem zt_1_80 : (Jvm.Cond.lays "Flaghall$Paper" "Flaghall$Paper" "isPlaceTaken" "Z") ∈ zBG := zin_1 (List.mem_of_getElem? (i := 80) rfl) rfl
theorem zt_1_81 : (Jvm.Cond.soleField "Flaghall$Paper" "isPlaceTaken") ∈ zBG := zin_1 (List.mem_of_getElem? (i := 81) rfl) rfl
theorem zt_1_82 : (Jvm.Cond.superclass "Flaghall$Paper" "java/lang/Object") ∈ zBG := zin_1 (List.mem_of_getElem? (i := 82) rfl) rfl
theorem zt_1_83 : (Jvm.Cond.arrayClass Jvm.ClassFile.FieldType.int) ∈ zBG := zin_1 (List.mem_of_getElem? (i := 83) rfl) rfl
theorem zt_1_84 : (Jvm.Cond.instantiable "Flaghall$Mortgage" (5 : Nat)) ∈ zBG := zin_1 (List.mem_of_getElem? (i := 84) rfl) rfl
theorem zt_1_86 : (Jvm.Cond.instanceMethod ({ cls := "Flaghall$Mortgage", name := "<init>", desc := "()V" } : Jvm.MethodName)) ∈ zBG := zin_1 (List.mem_of_getElem? (i := 86) rfl) rfl
theorem zt_1_87 : (Jvm.Cond.code ({ cls := "Flaghall$Mortgage", name := "<init>", desc := "()V" } : Jvm.MethodName) prog_4_method_1_code (1 : Nat) (Option.none : Option Jvm.ClassFile.FieldType)) ∈ zBG := zin_1 (List.mem_of_getElem? (i := 87) rfl) rfl
theorem zt_1_88 : (Jvm.Cond.methodLink "Flaghall$Mortgage" (3 : Nat) ({ cls := "java/lang/Object", name := "<init>", desc := "()V" } : Jvm.MethodName)) ∈ zBG := zin_1 (List.mem_of_getElem? (i := 88) rfl) rfl
theorem zt_1_89 : (Jvm.Cond.fieldLink "Flaghall$Mortgage" (9 : Nat) "Flaghall$Mortgage" "ship" "I") ∈ zBG := zin_1 (List.mem_of_getElem? (i := 89) rfl) rfl
theorem zt_1_91 : (Jvm.Cond.fieldLink "Flaghall$Mortgage" (15 : Nat) "Flaghall$Mortgage" "party" "I") ∈ zBG := zin_1 (List.mem_of_getElem? (i := 91) rfl) rfl
theorem zt_1_96 : (Jvm.Cond.fieldLink "Flaghall$Mortgage" (18 : Nat) "Flaghall$Mortgage" "place" "I") ∈ zBG := zin_1 (List.mem_of_getElem? (i := 96) rfl) rfl
theorem zt_1_98 : (Jvm.Cond.fieldLink "Flaghall$Mortgage" (21 : Nat) "Flaghall$Mortgage" "row" "I") ∈ zBG := zin_1 (List.mem_of_getElem? (i := 98) rfl) rfl
theorem zt_1_100 : (Jvm.Cond.lays "Flaghall$Mortgage" "Flaghall$Mortgage" "ship" "I") ∈ zBG := zin_1 (List.mem_of_getElem? (i := 100) rfl) rfl
theorem zt_1_101 : (Jvm.Cond.soleField "Flaghall$Mortgage" "ship") ∈ zBG := zin_1 (List.mem_of_getElem? (i := 101) rfl) rfl
theorem zt_1_102 : (Jvm.Cond.lays "Flaghall$Mortgage" "Flaghall$Mortgage" "party" "I") ∈ zBG := zin_1 (List.mem_of_getElem? (i := 102) rfl) rfl
theorem zt_1_103 : (Jvm.Cond.soleField "Flaghall$Mortgage" "party") ∈ zBG := zin_1 (List.mem_of_getElem? (i := 103) rfl) rfl
theorem zt_1_104 : (Jvm.Cond.lays "Flaghall$Mortgage" "Flaghall$Mortgage" "amount" "I") ∈ zBG := zin_1 (List.mem_of_getElem? (i := 104) rfl) rfl
theorem zt_1_105 : (Jvm.Cond.soleField "Flaghall$Mortgage" "amount") ∈ zBG := zin_1 (List.mem_of_getElem? (i := 105) rfl) rfl
theorem zt_1_106 : (Jvm.Cond.lays "Flaghall$Mortgage" "Flaghall$Mortgage" "place" "I") ∈ zBG := zin_1 (List.mem_of_getElem? (i := 106) rfl) rfl
theorem zt_1_107 : (Jvm.Cond.soleField "Flaghall$Mortgage" "place") ∈ zBG := zin_1 (List.mem_of_getElem? (i := 107) rfl) rfl
theorem zt_1_108 : (Jvm.Cond.lays "Flaghall$Mortgage" "Flaghall$Mortgage" "row" "I") ∈ zBG := zin_1 (List.mem_of_getElem? (i := 108) rfl) rfl
theorem zt_1_109 : (Jvm.Cond.soleField "Flaghall$Mortgage" "row") ∈ zBG := zin_1 (List.mem_of_getElem? (i := 109) rfl) rfl
theorem zt_1_110 : (Jvm.Cond.superclass "Flaghall$Mortgage" "java/lang/Object") ∈ zBG := zin_1 (List.mem_of_getElem? (i := 110) rfl) rfl
theorem zt_1_111 : (Jvm.Cond.fieldLink "Flaghall$Book" (11 : Nat) "Flaghall$Book" "papers" "[LFlaghall$Paper;") ∈ zBG := zin_1 (List.mem_of_getElem? (i := 111) rfl) rfl
theorem zt_1_113 : (Jvm.Cond.fieldLink "Flaghall$Book" (19 : Nat) "Flaghall$Book" "mortgages" "[LFlaghall$Mortgage;") ∈ zBG := zin_1 (List.mem_of_getElem? (i := 113) rfl) rfl
theorem zt_1_115 : (Jvm.Cond.fieldLink "Flaghall$Book" (23 : Nat) "Flaghall$Book" "standing" "[I") ∈ zBG := zin_1 (List.mem_of_getElem? (i := 115) rfl) rfl
theorem zt_1_117 : (Jvm.Cond.fieldLink "Flaghall$Book" (29 : Nat) "Flaghall$Book" "paperCount" "I") ∈ zBG := zin_1 (List.mem_of_getElem? (i := 117) rfl) rfl
theorem zt_1_119 : (Jvm.Cond.fieldLink "Flaghall$Book" (33 : Nat) "Flaghall$Book" "mortgageCount" "I") ∈ zBG := zin_1 (List.mem_of_getElem? (i := 119) rfl) rfl
theorem zt_1_121 : (Jvm.Cond.laysFinal "Flaghall$Book" "Flaghall$Book" "papers" "[LFlaghall$Paper;") ∈ zBG := zin_1 (List.mem_of_getElem? (i := 121) rfl) rfl
theorem zt_1_122 : (Jvm.Cond.soleField "Flaghall$Book" "papers") ∈ zBG := zin_1 (List.mem_of_getElem? (i := 122) rfl) rfl
theorem zt_1_123 : (Jvm.Cond.laysFinal "Flaghall$Book" "Flaghall$Book" "mortgages" "[LFlaghall$Mortgage;") ∈ zBG := zin_1 (List.mem_of_getElem? (i := 123) rfl) rfl
theorem zt_1_124 : (Jvm.Cond.soleField "Flaghall$Book" "mortgages") ∈ zBG := zin_1 (List.mem_of_getElem? (i := 124) rfl) rfl
theorem zt_1_125 : (Jvm.Cond.laysFinal "Flaghall$Book" "Flaghall$Book" "standing" "[I") ∈ zBG := zin_1 (List.mem_of_getElem? (i := 125) rfl) rfl
theorem zt_1_126 : (Jvm.Cond.soleField "Flaghall$Book" "standing") ∈ zBG := zin_1 (List.mem_of_getElem? (i := 126) rfl) rfl
theorem zt_1_127 : (Jvm.Cond.lays "Flaghall$Book" "Flaghall$Book" "paperCount" "I") ∈ zBG := zin_1 (List.mem_of_getElem? (i := 127) rfl) rfl
theorem zt_1_128 : (Jvm.Cond.soleField "Flaghall$Book" "paperCount") ∈ zBG := zin_1 (List.mem_of_getElem? (i := 128) rfl) rfl
theorem zt_1_129 : (Jvm.Cond.lays "Flaghall$Book" "Flaghall$Book" "mortgageCount" "I") ∈ zBG := zin_1 (List.mem_of_getElem? (i := 129) rfl) rfl
theorem zt_1_130 : (Jvm.Cond.soleField "Flaghall$Book" "mortgageCount") ∈ zBG := zin_1 (List.mem_of_getElem? (i := 130) rfl) rfl
theorem zt_1_131 : (Jvm.Cond.superclass "Flaghall$Book" "java/lang/Object") ∈ zBG := zin_1 (List.mem_of_getElem? (i := 131) rfl) rfl
theorem zt_1_132 : (Jvm.Cond.instantiable "Flaghall$Party" (5 : Nat)) ∈ zBG := zin_1 (List.mem_of_getElem? (i := 132) rfl) rfl
theorem zt_1_134 : (Jvm.Cond.instanceMethod ({ cls := "Flaghall$Party", name := "<init>", desc := "()V" } : Jvm.MethodName)) ∈ zBG := zin_1 (List.mem_of_getElem? (i := 134) rfl) rfl
theorem zt_1_135 : (Jvm.Cond.code ({ cls := "Flaghall$Party", name := "<init>", desc := "()V" } : Jvm.MethodName) prog_6_method_1_code (1 : Nat) (Option.none : Option Jvm.ClassFile.FieldType)) ∈ zBG := zin_1 (List.mem_of_getElem? (i := 135) rfl) rfl
theorem zt_1_136 : (Jvm.Cond.methodLink "Flaghall$Party" (3 : Nat) ({ cls := "java/lang/Object", name := "<init>", desc := "()V" } : Jvm.MethodName)) ∈ zBG := zin_1 (List.mem_of_getElem? (i := 136) rfl) rfl
theorem zt_1_137 : (Jvm.Cond.fieldLink "Flaghall$Party" (9 : Nat) "Flaghall$Party" "parts" "[I") ∈ zBG := zin_1 (List.mem_of_getElem? (i := 137) rfl) rfl
theorem zt_1_140 : (Jvm.Cond.fieldLink "Flaghall$Party" (15 : Nat) "Flaghall$Party" "home" "I") ∈ zBG := zin_1 (List.mem_of_getElem? (i := 140) rfl) rfl
theorem zt_1_142 : (Jvm.Cond.fieldLink "Flaghall$Party" (19 : Nat) "Flaghall$Party" "nextHome" "I") ∈ zBG := zin_1 (List.mem_of_getElem? (i := 142) rfl) rfl
theorem zt_1_145 : (Jvm.Cond.laysFinal "Flaghall$Party" "Flaghall$Party" "parts" "[I") ∈ zBG := zin_1 (List.mem_of_getElem? (i := 145) rfl) rfl
theorem zt_1_146 : (Jvm.Cond.soleField "Flaghall$Party" "parts") ∈ zBG := zin_1 (List.mem_of_getElem? (i := 146) rfl) rfl
theorem zt_1_147 : (Jvm.Cond.lays "Flaghall$Party" "Flaghall$Party" "isCompany" "Z") ∈ zBG := zin_1 (List.mem_of_getElem? (i := 147) rfl) rfl
theorem zt_1_148 : (Jvm.Cond.soleField "Flaghall$Party" "isCompany") ∈ zBG := zin_1 (List.mem_of_getElem? (i := 148) rfl) rfl
theorem zt_1_149 : (Jvm.Cond.lays "Flaghall$Party" "Flaghall$Party" "home" "I") ∈ zBG := zin_1 (List.mem_of_getElem? (i := 149) rfl) rfl
theorem zt_1_150 : (Jvm.Cond.soleField "Flaghall$Party" "home") ∈ zBG := zin_1 (List.mem_of_getElem? (i := 150) rfl) rfl
theorem zt_1_151 : (Jvm.Cond.lays "Flaghall$Party" "Flaghall$Party" "nextHome" "I") ∈ zBG := zin_1 (List.mem_of_getElem? (i := 151) rfl) rfl
theorem zt_1_152 : (Jvm.Cond.soleField "Flaghall$Party" "nextHome") ∈ zBG := zin_1 (List.mem_of_getElem? (i := 152) rfl) rfl
theorem zt_1_153 : (Jvm.Cond.lays "Flaghall$Party" "Flaghall$Party" "received" "J") ∈ zBG := zin_1 (List.mem_of_getElem? (i := 153) rfl) rfl
theorem zt_1_154 : (Jvm.Cond.soleField "Flaghall$Party" "received") ∈ zBG := zin_1 (List.mem_of_getElem? (i := 154) rfl) rfl
theorem zt_1_155 : (Jvm.Cond.superclass "Flaghall$Party" "java/lang/Object") ∈ zBG := zin_1 (List.mem_of_getElem? (i := 155) rfl) rfl
theorem zt_1_156 : (Jvm.Cond.arrayClass Jvm.ClassFile.FieldType.char) ∈ zBG := zin_1 (List.mem_of_getElem? (i := 156) rfl) rfl
theorem zt_1_157 : (Jvm.Cond.instantiable "Flaghall$Ship" (5 : Nat)) ∈ zBG := zin_1 (List.mem_of_getElem? (i := 157) rfl) rfl
theorem zt_1_159 : (Jvm.Cond.instanceMethod ({ cls := "Flaghall$Ship", name := "<init>", desc := "()V" } : Jvm.MethodName)) ∈ zBG := zin_1 (List.mem_of_getElem? (i := 159) rfl) rfl
theorem zt_1_160 : (Jvm.Cond.code ({ cls := "Flaghall$Ship", name := "<init>", desc := "()V" } : Jvm.MethodName) prog_7_method_1_code (1 : Nat) (Option.none : Option Jvm.ClassFile.FieldType)) ∈ zBG := zin_1 (List.mem_of_getElem? (i := 160) rfl) rfl
theorem zt_1_161 : (Jvm.Cond.methodLink "Flaghall$Ship" (3 : Nat) ({ cls := "java/lang/Object", name := "<init>", desc := "()V" } : Jvm.MethodName)) ∈ zBG := zin_1 (List.mem_of_getElem? (i := 161) rfl) rfl
theorem zt_1_162 : (Jvm.Cond.constantLong "Flaghall$Ship" (23 : Nat) (-1 : Int64)) ∈ zBG := zin_1 (List.mem_of_getElem? (i := 162) rfl) rfl
theorem zt_1_163 : (Jvm.Cond.fieldLink "Flaghall$Ship" (9 : Nat) "Flaghall$Ship" "soundLetters" "[C") ∈ zBG := zin_1 (List.mem_of_getElem? (i := 163) rfl) rfl
theorem zt_1_164 : (Jvm.Cond.fieldLink "Flaghall$Ship" (15 : Nat) "Flaghall$Ship" "shares" "[I") ∈ zBG := zin_1 (List.mem_of_getElem? (i := 164) rfl) rfl
theorem zt_1_166 : (Jvm.Cond.fieldLink "Flaghall$Ship" (29 : Nat) "Flaghall$Ship" "soundLength" "I") ∈ zBG := zin_1 (List.mem_of_getElem? (i := 166) rfl) rfl
theorem zt_1_167 : (Jvm.Cond.fieldLink "Flaghall$Ship" (19 : Nat) "Flaghall$Ship" "flown" "I") ∈ zBG := zin_1 (List.mem_of_getElem? (i := 167) rfl) rfl
theorem zt_1_169 : (Jvm.Cond.fieldLink "Flaghall$Ship" (25 : Nat) "Flaghall$Ship" "graceFrom" "J") ∈ zBG := zin_1 (List.mem_of_getElem? (i := 169) rfl) rfl
theorem zt_1_171 : (Jvm.Cond.laysFinal "Flaghall$Ship" "Flaghall$Ship" "soundLetters" "[C") ∈ zBG := zin_1 (List.mem_of_getElem? (i := 171) rfl) rfl
theorem zt_1_172 : (Jvm.Cond.soleField "Flaghall$Ship" "soundLetters") ∈ zBG := zin_1 (List.mem_of_getElem? (i := 172) rfl) rfl
theorem zt_1_173 : (Jvm.Cond.laysFinal "Flaghall$Ship" "Flaghall$Ship" "shares" "[I") ∈ zBG := zin_1 (List.mem_of_getElem? (i := 173) rfl) rfl
theorem zt_1_174 : (Jvm.Cond.soleField "Flaghall$Ship" "shares") ∈ zBG := zin_1 (List.mem_of_getElem? (i := 174) rfl) rfl
theorem zt_1_175 : (Jvm.Cond.lays "Flaghall$Ship" "Flaghall$Ship" "soundLength" "I") ∈ zBG := zin_1 (List.mem_of_getElem? (i := 175) rfl) rfl
theorem zt_1_176 : (Jvm.Cond.soleField "Flaghall$Ship" "soundLength") ∈ zBG := zin_1 (List.mem_of_getElem? (i := 176) rfl) rfl
theorem zt_1_177 : (Jvm.Cond.lays "Flaghall$Ship" "Flaghall$Ship" "flown" "I") ∈ zBG := zin_1 (List.mem_of_getElem? (i := 177) rfl) rfl
theorem zt_1_178 : (Jvm.Cond.soleField "Flaghall$Ship" "flown") ∈ zBG := zin_1 (List.mem_of_getElem? (i := 178) rfl) rfl
theorem zt_1_179 : (Jvm.Cond.lays "Flaghall$Ship" "Flaghall$Ship" "graceFrom" "J") ∈ zBG := zin_1 (List.mem_of_getElem? (i := 179) rfl) rfl
theorem zt_1_180 : (Jvm.Cond.soleField "Flaghall$Ship" "graceFrom") ∈ zBG := zin_1 (List.mem_of_getElem? (i := 180) rfl) rfl
theorem zt_1_181 : (Jvm.Cond.superclass "Flaghall$Ship" "java/lang/Object") ∈ zBG := zin_1 (List.mem_of_getElem? (i := 181) rfl) rfl
theorem zt_1_182 : (Jvm.Cond.fieldLink "Flaghall" (11 : Nat) "Flaghall" "parties" "[LFlaghall$Party;") ∈ zBG := zin_1 (List.mem_of_getElem? (i := 182) rfl) rfl
theorem zt_1_183 : (Jvm.Cond.fieldLink "Flaghall" (17 : Nat) "Flaghall" "ships" "[LFlaghall$Ship;") ∈ zBG := zin_1 (List.mem_of_getElem? (i := 183) rfl) rfl
theorem zt_1_184 : (Jvm.Cond.fieldLink "Flaghall" (24 : Nat) "Flaghall" "book" "LFlaghall$Book;") ∈ zBG := zin_1 (List.mem_of_getElem? (i := 184) rfl) rfl
theorem zt_1_185 : (Jvm.Cond.fieldLink "Flaghall" (28 : Nat) "Flaghall" "typed" "[C") ∈ zBG := zin_1 (List.mem_of_getElem? (i := 185) rfl) rfl
theorem zt_1_186 : (Jvm.Cond.fieldLink "Flaghall" (32 : Nat) "Flaghall" "heldByLand" "[I") ∈ zBG := zin_1 (List.mem_of_getElem? (i := 186) rfl) rfl
theorem zt_1_187 : (Jvm.Cond.fieldLink "Flaghall" (240 : Nat) "Flaghall" "partyCount" "I") ∈ zBG := zin_1 (List.mem_of_getElem? (i := 187) rfl) rfl
theorem zt_1_188 : (Jvm.Cond.fieldLink "Flaghall" (85 : Nat) "Flaghall" "shipCount" "I") ∈ zBG := zin_1 (List.mem_of_getElem? (i := 188) rfl) rfl
theorem zt_1_189 : (Jvm.Cond.fieldLink "Flaghall" (45 : Nat) "Flaghall" "typedCount" "I") ∈ zBG := zin_1 (List.mem_of_getElem? (i := 189) rfl) rfl
theorem zt_1_190 : (Jvm.Cond.fieldLink "Flaghall" (124 : Nat) "Flaghall" "minute" "J") ∈ zBG := zin_1 (List.mem_of_getElem? (i := 190) rfl) rfl
theorem zt_1_191 : (Jvm.Cond.laysFinal "Flaghall" "Flaghall" "parties" "[LFlaghall$Party;") ∈ zBG := zin_1 (List.mem_of_getElem? (i := 191) rfl) rfl
theorem zt_1_192 : (Jvm.Cond.soleField "Flaghall" "parties") ∈ zBG := zin_1 (List.mem_of_getElem? (i := 192) rfl) rfl
theorem zt_1_193 : (Jvm.Cond.laysFinal "Flaghall" "Flaghall" "ships" "[LFlaghall$Ship;") ∈ zBG := zin_1 (List.mem_of_getElem? (i := 193) rfl) rfl
theorem zt_1_194 : (Jvm.Cond.soleField "Flaghall" "ships") ∈ zBG := zin_1 (List.mem_of_getElem? (i := 194) rfl) rfl
theorem zt_1_195 : (Jvm.Cond.laysFinal "Flaghall" "Flaghall" "book" "LFlaghall$Book;") ∈ zBG := zin_1 (List.mem_of_getElem? (i := 195) rfl) rfl
theorem zt_1_196 : (Jvm.Cond.soleField "Flaghall" "book") ∈ zBG := zin_1 (List.mem_of_getElem? (i := 196) rfl) rfl
theorem zt_1_197 : (Jvm.Cond.laysFinal "Flaghall" "Flaghall" "typed" "[C") ∈ zBG := zin_1 (List.mem_of_getElem? (i := 197) rfl) rfl
theorem zt_1_198 : (Jvm.Cond.soleField "Flaghall" "typed") ∈ zBG := zin_1 (List.mem_of_getElem? (i := 198) rfl) rfl
theorem zt_1_199 : (Jvm.Cond.laysFinal "Flaghall" "Flaghall" "heldByLand" "[I") ∈ zBG := zin_1 (List.mem_of_getElem? (i := 199) rfl) rfl
theorem zt_1_200 : (Jvm.Cond.soleField "Flaghall" "heldByLand") ∈ zBG := zin_1 (List.mem_of_getElem? (i := 200) rfl) rfl
theorem zt_1_201 : (Jvm.Cond.lays "Flaghall" "Flaghall" "partyCount" "I") ∈ zBG := zin_1 (List.mem_of_getElem? (i := 201) rfl) rfl
theorem zt_1_202 : (Jvm.Cond.soleField "Flaghall" "partyCount") ∈ zBG := zin_1 (List.mem_of_getElem? (i := 202) rfl) rfl
theorem zt_1_203 : (Jvm.Cond.lays "Flaghall" "Flaghall" "shipCount" "I") ∈ zBG := zin_1 (List.mem_of_getElem? (i := 203) rfl) rfl
theorem zt_1_204 : (Jvm.Cond.soleField "Flaghall" "shipCount") ∈ zBG := zin_1 (List.mem_of_getElem? (i := 204) rfl) rfl
theorem zt_1_205 : (Jvm.Cond.lays "Flaghall" "Flaghall" "typedCount" "I") ∈ zBG := zin_1 (List.mem_of_getElem? (i := 205) rfl) rfl
theorem zt_1_206 : (Jvm.Cond.soleField "Flaghall" "typedCount") ∈ zBG := zin_1 (List.mem_of_getElem? (i := 206) rfl) rfl
theorem zt_1_207 : (Jvm.Cond.lays "Flaghall" "Flaghall" "minute" "J") ∈ zBG := zin_1 (List.mem_of_getElem? (i := 207) rfl) rfl
theorem zt_1_208 : (Jvm.Cond.soleField "Flaghall" "minute") ∈ zBG := zin_1 (List.mem_of_getElem? (i := 208) rfl) rfl
theorem zt_1_209 : (Jvm.Cond.superclass "Flaghall" "java/lang/Object") ∈ zBG := zin_1 (List.mem_of_getElem? (i := 209) rfl) rfl
theorem zt_1_210 : (Jvm.Cond.methodLink "FlaghallLaw" (123 : Nat) ({ cls := "Flaghall", name := "person", desc := "(I)I" } : Jvm.MethodName)) ∈ zBG := zin_1 (List.mem_of_getElem? (i := 210) rfl) rfl
theorem zt_1_211 : (Jvm.Cond.instanceMethod ({ cls := "Flaghall", name := "person", desc := "(I)I" } : Jvm.MethodName)) ∈ zBG := zin_1 (List.mem_of_getElem? (i := 211) rfl) rfl
theorem zt_1_212 : (Jvm.Cond.selects "Flaghall" ({ cls := "Flaghall", name := "person", desc := "(I)I" } : Jvm.MethodName) ({ cls := "Flaghall", name := "person", desc := "(I)I" } : Jvm.MethodName)) ∈ zBG := zin_1 (List.mem_of_getElem? (i := 212) rfl) rfl
theorem zt_1_213 : (Jvm.Cond.code ({ cls := "Flaghall", name := "person", desc := "(I)I" } : Jvm.MethodName) prog_1_method_3_code (2 : Nat) (Option.some Jvm.ClassFile.FieldType.int)) ∈ zBG := zin_1 (List.mem_of_getElem? (i := 213) rfl) rfl
theorem zt_1_214 : (Jvm.Cond.methodLink "Flaghall" (54 : Nat) ({ cls := "Flaghall", name := "needLand", desc := "(I)V" } : Jvm.MethodName)) ∈ zBG := zin_1 (List.mem_of_getElem? (i := 214) rfl) rfl
theorem zt_1_216 : (Jvm.Cond.instanceMethod ({ cls := "Flaghall", name := "needLand", desc := "(I)V" } : Jvm.MethodName)) ∈ zBG := zin_1 (List.mem_of_getElem? (i := 216) rfl) rfl
theorem zt_1_217 : (Jvm.Cond.code ({ cls := "Flaghall", name := "needLand", desc := "(I)V" } : Jvm.MethodName) prog_1_method_23_code (2 : Nat) (Option.none : Option Jvm.ClassFile.FieldType)) ∈ zBG := zin_1 (List.mem_of_getElem? (i := 217) rfl) rfl
theorem zt_1_218 : (Jvm.Cond.classLink "Flaghall" (235 : Nat) "java/lang/IndexOutOfBoundsException") ∈ zBG := zin_1 (List.mem_of_getElem? (i := 218) rfl) rfl
theorem zt_1_219 : (Jvm.Cond.instantiable "java/lang/IndexOutOfBoundsException" (6 : Nat)) ∈ zBG := zin_1 (List.mem_of_getElem? (i := 219) rfl) rfl
theorem zt_1_227 : (Jvm.Cond.selects "java/lang/IndexOutOfBoundsException" ({ cls := "java/lang/Throwable", name := "fillInStackTrace", desc := "(I)Ljava/lang/Throwable;" } : Jvm.MethodName) ({ cls := "java/lang/Throwable", name := "fillInStackTrace", desc := "(I)Ljava/lang/Throwable;" } : Jvm.MethodName)) ∈ zBG := zin_1 (List.mem_of_getElem? (i := 227) rfl) rfl
theorem zt_1_228 : (Jvm.Cond.selects "java/lang/IndexOutOfBoundsException" ({ cls := "java/lang/Throwable", name := "fillInStackTrace", desc := "()Ljava/lang/Throwable;" } : Jvm.MethodName) ({ cls := "java/lang/Throwable", name := "fillInStackTrace", desc := "()Ljava/lang/Throwable;" } : Jvm.MethodName)) ∈ zBG := zin_1 (List.mem_of_getElem? (i := 228) rfl) rfl
theorem zt_1_229 : (Jvm.Cond.lays "java/lang/IndexOutOfBoundsException" "java/lang/Throwable" "cause" "Ljava/lang/Throwable;") ∈ zBG := zin_1 (List.mem_of_getElem? (i := 229) rfl) rfl
theorem zt_1_230 : (Jvm.Cond.lays "java/lang/Throwable" "java/lang/Throwable" "cause" "Ljava/lang/Throwable;") ∈ zBG := zin_1 (List.mem_of_getElem? (i := 230) rfl) rfl
theorem zt_1_231 : (Jvm.Cond.lays "java/lang/IndexOutOfBoundsException" "java/lang/Throwable" "stackTrace" "[Ljava/lang/StackTraceElement;") ∈ zBG := zin_1 (List.mem_of_getElem? (i := 231) rfl) rfl
theorem zt_1_232 : (Jvm.Cond.lays "java/lang/Throwable" "java/lang/Throwable" "stackTrace" "[Ljava/lang/StackTraceElement;") ∈ zBG := zin_1 (List.mem_of_getElem? (i := 232) rfl) rfl
theorem zt_1_233 : (Jvm.Cond.lays "java/lang/IndexOutOfBoundsException" "java/lang/Throwable" "suppressedExceptions" "Ljava/util/List;") ∈ zBG := zin_1 (List.mem_of_getElem? (i := 233) rfl) rfl
theorem zt_1_234 : (Jvm.Cond.lays "java/lang/Throwable" "java/lang/Throwable" "suppressedExceptions" "Ljava/util/List;") ∈ zBG := zin_1 (List.mem_of_getElem? (i := 234) rfl) rfl
theorem zt_1_235 : (Jvm.Cond.lays "java/lang/IndexOutOfBoundsException" "java/lang/Throwable" "detailMessage" "Ljava/lang/String;") ∈ zBG := zin_1 (List.mem_of_getElem? (i := 235) rfl) rfl
theorem zt_1_236 : (Jvm.Cond.lays "java/lang/Throwable" "java/lang/Throwable" "detailMessage" "Ljava/lang/String;") ∈ zBG := zin_1 (List.mem_of_getElem? (i := 236) rfl) rfl
theorem zt_1_237 : (Jvm.Cond.lays "java/lang/IndexOutOfBoundsException" "java/lang/Throwable" "backtrace" "Ljava/lang/Object;") ∈ zBG := zin_1 (List.mem_of_getElem? (i := 237) rfl) rfl
theorem zt_1_238 : (Jvm.Cond.lays "java/lang/Throwable" "java/lang/Throwable" "backtrace" "Ljava/lang/Object;") ∈ zBG := zin_1 (List.mem_of_getElem? (i := 238) rfl) rfl
theorem zt_1_239 : (Jvm.Cond.fieldLink "java/lang/Throwable" (198 : Nat) "java/lang/Throwable" "backtrace" "Ljava/lang/Object;") ∈ zBG := zin_1 (List.mem_of_getElem? (i := 239) rfl) rfl
theorem zt_2_0 : (Jvm.Cond.superclass "java/lang/Throwable" "java/lang/Object") ∈ zBG := zin_2 (List.mem_of_getElem? (i := 0) rfl) rfl
theorem zt_2_1 : (Jvm.Cond.instanceMethod ({ cls := "java/lang/Throwable", name := "<init>", desc := "()V" } : Jvm.MethodName)) ∈ zBG := zin_2 (List.mem_of_getElem? (i := 1) rfl) rfl
theorem zt_2_2 : (Jvm.Cond.code ({ cls := "java/lang/Throwable", name := "<init>", desc := "()V" } : Jvm.MethodName) prog_18_method_1_code (1 : Nat) (Option.none : Option Jvm.ClassFile.FieldType)) ∈ zBG := zin_2 (List.mem_of_getElem? (i := 2) rfl) rfl
theorem zt_2_3 : (Jvm.Cond.methodLink "java/lang/Throwable" (1 : Nat) ({ cls := "java/lang/Object", name := "<init>", desc := "()V" } : Jvm.MethodName)) ∈ zBG := zin_2 (List.mem_of_getElem? (i := 3) rfl) rfl
theorem zt_2_4 : (Jvm.Cond.fieldLink "java/lang/Throwable" (13 : Nat) "java/lang/Throwable" "UNASSIGNED_STACK" "[Ljava/lang/StackTraceElement;") ∈ zBG := zin_2 (List.mem_of_getElem? (i := 4) rfl) rfl
theorem zt_2_6 : (Jvm.Cond.fieldLink "java/lang/Throwable" (20 : Nat) "java/lang/Throwable" "SUPPRESSED_SENTINEL" "Ljava/util/List;") ∈ zBG := zin_2 (List.mem_of_getElem? (i := 6) rfl) rfl
theorem zt_2_8 : (Jvm.Cond.methodLink "java/lang/Throwable" (27 : Nat) ({ cls := "java/lang/Throwable", name := "fillInStackTrace", desc := "()Ljava/lang/Throwable;" } : Jvm.MethodName)) ∈ zBG := zin_2 (List.mem_of_getElem? (i := 8) rfl) rfl
theorem zt_2_9 : (Jvm.Cond.instanceMethod ({ cls := "java/lang/Throwable", name := "fillInStackTrace", desc := "()Ljava/lang/Throwable;" } : Jvm.MethodName)) ∈ zBG := zin_2 (List.mem_of_getElem? (i := 9) rfl) rfl
theorem zt_2_11 : (Jvm.Cond.selects "java/lang/IllegalArgumentException" ({ cls := "java/lang/Throwable", name := "fillInStackTrace", desc := "()Ljava/lang/Throwable;" } : Jvm.MethodName) ({ cls := "java/lang/Throwable", name := "fillInStackTrace", desc := "()Ljava/lang/Throwable;" } : Jvm.MethodName)) ∈ zBG := zin_2 (List.mem_of_getElem? (i := 11) rfl) rfl
theorem zt_2_12 : (Jvm.Cond.selects "java/lang/IllegalStateException" ({ cls := "java/lang/Throwable", name := "fillInStackTrace", desc := "()Ljava/lang/Throwable;" } : Jvm.MethodName) ({ cls := "java/lang/Throwable", name := "fillInStackTrace", desc := "()Ljava/lang/Throwable;" } : Jvm.MethodName)) ∈ zBG := zin_2 (List.mem_of_getElem? (i := 12) rfl) rfl
theorem zt_2_13 : (Jvm.Cond.codeSync ({ cls := "java/lang/Throwable", name := "fillInStackTrace", desc := "()Ljava/lang/Throwable;" } : Jvm.MethodName) prog_18_method_18_code (1 : Nat) (Option.some (Jvm.ClassFile.FieldType.object "java/lang/Throwable"))) ∈ zBG := zin_2 (List.mem_of_getElem? (i := 13) rfl) rfl
theorem zt_2_14 : (Jvm.Cond.methodLink "java/lang/Throwable" (202 : Nat) ({ cls := "java/lang/Throwable", name := "fillInStackTrace", desc := "(I)Ljava/lang/Throwable;" } : Jvm.MethodName)) ∈ zBG := zin_2 (List.mem_of_getElem? (i := 14) rfl) rfl
theorem zt_2_16 : (Jvm.Cond.instanceMethod ({ cls := "java/lang/Throwable", name := "fillInStackTrace", desc := "(I)Ljava/lang/Throwable;" } : Jvm.MethodName)) ∈ zBG := zin_2 (List.mem_of_getElem? (i := 16) rfl) rfl
theorem zt_2_17 : (Jvm.Cond.instantiable "java/lang/Throwable" (6 : Nat)) ∈ zBG := zin_2 (List.mem_of_getElem? (i := 17) rfl) rfl
theorem zt_2_18 : (Jvm.Cond.native ({ cls := "java/lang/Throwable", name := "fillInStackTrace", desc := "(I)Ljava/lang/Throwable;" } : Jvm.MethodName)) ∈ zBG := zin_2 (List.mem_of_getElem? (i := 18) rfl) rfl
theorem zt_2_20 : (Jvm.Cond.methodLink "Flaghall" (239 : Nat) ({ cls := "java/lang/IndexOutOfBoundsException", name := "<init>", desc := "(Ljava/lang/String;)V" } : Jvm.MethodName)) ∈ zBG := zin_2 (List.mem_of_getElem? (i := 20) rfl) rfl
theorem zt_2_21 : (Jvm.Cond.instanceMethod ({ cls := "java/lang/IndexOutOfBoundsException", name := "<init>", desc := "(Ljava/lang/String;)V" } : Jvm.MethodName)) ∈ zBG := zin_2 (List.mem_of_getElem? (i := 21) rfl) rfl
theorem zt_2_22 : (Jvm.Cond.code ({ cls := "java/lang/IndexOutOfBoundsException", name := "<init>", desc := "(Ljava/lang/String;)V" } : Jvm.MethodName) prog_14_method_2_code (2 : Nat) (Option.none : Option Jvm.ClassFile.FieldType)) ∈ zBG := zin_2 (List.mem_of_getElem? (i := 22) rfl) rfl
theorem zt_2_23 : (Jvm.Cond.methodLink "java/lang/IndexOutOfBoundsException" (7 : Nat) ({ cls := "java/lang/RuntimeException", name := "<init>", desc := "(Ljava/lang/String;)V" } : Jvm.MethodName)) ∈ zBG := zin_2 (List.mem_of_getElem? (i := 23) rfl) rfl
theorem zt_2_24 : (Jvm.Cond.instanceMethod ({ cls := "java/lang/RuntimeException", name := "<init>", desc := "(Ljava/lang/String;)V" } : Jvm.MethodName)) ∈ zBG := zin_2 (List.mem_of_getElem? (i := 24) rfl) rfl
theorem zt_2_25 : (Jvm.Cond.code ({ cls := "java/lang/RuntimeException", name := "<init>", desc := "(Ljava/lang/String;)V" } : Jvm.MethodName) prog_16_method_2_code (2 : Nat) (Option.none : Option Jvm.ClassFile.FieldType)) ∈ zBG := zin_2 (List.mem_of_getElem? (i := 25) rfl) rfl
theorem zt_2_26 : (Jvm.Cond.methodLink "java/lang/RuntimeException" (7 : Nat) ({ cls := "java/lang/Exception", name := "<init>", desc := "(Ljava/lang/String;)V" } : Jvm.MethodName)) ∈ zBG := zin_2 (List.mem_of_getElem? (i := 26) rfl) rfl
theorem zt_2_27 : (Jvm.Cond.instanceMethod ({ cls := "java/lang/Exception", name := "<init>", desc := "(Ljava/lang/String;)V" } : Jvm.MethodName)) ∈ zBG := zin_2 (List.mem_of_getElem? (i := 27) rfl) rfl
theorem zt_2_28 : (Jvm.Cond.code ({ cls := "java/lang/Exception", name := "<init>", desc := "(Ljava/lang/String;)V" } : Jvm.MethodName) prog_11_method_2_code (2 : Nat) (Option.none : Option Jvm.ClassFile.FieldType)) ∈ zBG := zin_2 (List.mem_of_getElem? (i := 28) rfl) rfl
theorem zt_2_29 : (Jvm.Cond.methodLink "java/lang/Exception" (7 : Nat) ({ cls := "java/lang/Throwable", name := "<init>", desc := "(Ljava/lang/String;)V" } : Jvm.MethodName)) ∈ zBG := zin_2 (List.mem_of_getElem? (i := 29) rfl) rfl
theorem zt_2_30 : (Jvm.Cond.instanceMethod ({ cls := "java/lang/Throwable", name := "<init>", desc := "(Ljava/lang/String;)V" } : Jvm.MethodName)) ∈ zBG := zin_2 (List.mem_of_getElem? (i := 30) rfl) rfl
theorem zt_2_31 : (Jvm.Cond.code ({ cls := "java/lang/Throwable", name := "<init>", desc := "(Ljava/lang/String;)V" } : Jvm.MethodName) prog_18_method_2_code (2 : Nat) (Option.none : Option Jvm.ClassFile.FieldType)) ∈ zBG := zin_2 (List.mem_of_getElem? (i := 31) rfl) rfl
theorem zt_2_33 : (Jvm.Cond.fieldLink "java/lang/Throwable" (31 : Nat) "java/lang/Throwable" "detailMessage" "Ljava/lang/String;") ∈ zBG := zin_2 (List.mem_of_getElem? (i := 33) rfl) rfl
theorem zt_2_34 : (Jvm.Cond.fieldLink "java/lang/Throwable" (7 : Nat) "java/lang/Throwable" "cause" "Ljava/lang/Throwable;") ∈ zBG := zin_2 (List.mem_of_getElem? (i := 34) rfl) rfl
theorem zt_2_35 : (Jvm.Cond.fieldLink "java/lang/Throwable" (17 : Nat) "java/lang/Throwable" "stackTrace" "[Ljava/lang/StackTraceElement;") ∈ zBG := zin_2 (List.mem_of_getElem? (i := 35) rfl) rfl
theorem zt_2_36 : (Jvm.Cond.fieldLink "java/lang/Throwable" (24 : Nat) "java/lang/Throwable" "suppressedExceptions" "Ljava/util/List;") ∈ zBG := zin_2 (List.mem_of_getElem? (i := 36) rfl) rfl
theorem zt_2_37 : (Jvm.Cond.soleField "java/lang/Throwable" "backtrace") ∈ zBG := zin_2 (List.mem_of_getElem? (i := 37) rfl) rfl
theorem zt_2_38 : (Jvm.Cond.soleField "java/lang/Throwable" "detailMessage") ∈ zBG := zin_2 (List.mem_of_getElem? (i := 38) rfl) rfl
theorem zt_2_39 : (Jvm.Cond.soleField "java/lang/Throwable" "cause") ∈ zBG := zin_2 (List.mem_of_getElem? (i := 39) rfl) rfl
theorem zt_2_40 : (Jvm.Cond.soleField "java/lang/Throwable" "stackTrace") ∈ zBG := zin_2 (List.mem_of_getElem? (i := 40) rfl) rfl
theorem zt_2_41 : (Jvm.Cond.lays "java/lang/IndexOutOfBoundsException" "java/lang/Throwable" "depth" "I") ∈ zBG := zin_2 (List.mem_of_getElem? (i := 41) rfl) rfl
theorem zt_2_42 : (Jvm.Cond.soleField "java/lang/Throwable" "depth") ∈ zBG := zin_2 (List.mem_of_getElem? (i := 42) rfl) rfl
theorem zt_2_43 : (Jvm.Cond.soleField "java/lang/Throwable" "suppressedExceptions") ∈ zBG := zin_2 (List.mem_of_getElem? (i := 43) rfl) rfl
theorem zt_2_44 : (Jvm.Cond.superclass "java/lang/IndexOutOfBoundsException" "java/lang/RuntimeException") ∈ zBG := zin_2 (List.mem_of_getElem? (i := 44) rfl) rfl
theorem zt_2_45 : (Jvm.Cond.arrayClass Jvm.ClassFile.FieldType.byte) ∈ zBG := zin_2 (List.mem_of_getElem? (i := 45) rfl) rfl
theorem zt_2_46 : (Jvm.Cond.methodLink "Flaghall" (58 : Nat) ({ cls := "Flaghall", name := "addParty", desc := "(ZI)I" } : Jvm.MethodName)) ∈ zBG := zin_2 (List.mem_of_getElem? (i := 46) rfl) rfl
theorem zt_2_48 : (Jvm.Cond.instanceMethod ({ cls := "Flaghall", name := "addParty", desc := "(ZI)I" } : Jvm.MethodName)) ∈ zBG := zin_2 (List.mem_of_getElem? (i := 48) rfl) rfl
theorem zt_2_49 : (Jvm.Cond.code ({ cls := "Flaghall", name := "addParty", desc := "(ZI)I" } : Jvm.MethodName) prog_1_method_30_code (4 : Nat) (Option.some Jvm.ClassFile.FieldType.int)) ∈ zBG := zin_2 (List.mem_of_getElem? (i := 49) rfl) rfl
theorem zt_2_50 : (Jvm.Cond.classLink "Flaghall" (49 : Nat) "java/lang/IllegalStateException") ∈ zBG := zin_2 (List.mem_of_getElem? (i := 50) rfl) rfl
theorem zt_2_51 : (Jvm.Cond.instantiable "java/lang/IllegalStateException" (6 : Nat)) ∈ zBG := zin_2 (List.mem_of_getElem? (i := 51) rfl) rfl
theorem zt_2_53 : (Jvm.Cond.selects "java/lang/IllegalStateException" ({ cls := "java/lang/Throwable", name := "fillInStackTrace", desc := "(I)Ljava/lang/Throwable;" } : Jvm.MethodName) ({ cls := "java/lang/Throwable", name := "fillInStackTrace", desc := "(I)Ljava/lang/Throwable;" } : Jvm.MethodName)) ∈ zBG := zin_2 (List.mem_of_getElem? (i := 53) rfl) rfl
theorem zt_2_54 : (Jvm.Cond.lays "java/lang/IllegalStateException" "java/lang/Throwable" "cause" "Ljava/lang/Throwable;") ∈ zBG := zin_2 (List.mem_of_getElem? (i := 54) rfl) rfl
theorem zt_2_55 : (Jvm.Cond.lays "java/lang/IllegalStateException" "java/lang/Throwable" "stackTrace" "[Ljava/lang/StackTraceElement;") ∈ zBG := zin_2 (List.mem_of_getElem? (i := 55) rfl) rfl
theorem zt_2_56 : (Jvm.Cond.lays "java/lang/IllegalStateException" "java/lang/Throwable" "suppressedExceptions" "Ljava/util/List;") ∈ zBG := zin_2 (List.mem_of_getElem? (i := 56) rfl) rfl
theorem zt_2_57 : (Jvm.Cond.lays "java/lang/IllegalStateException" "java/lang/Throwable" "detailMessage" "Ljava/lang/String;") ∈ zBG := zin_2 (List.mem_of_getElem? (i := 57) rfl) rfl
theorem zt_2_58 : (Jvm.Cond.lays "java/lang/IllegalStateException" "java/lang/Throwable" "backtrace" "Ljava/lang/Object;") ∈ zBG := zin_2 (List.mem_of_getElem? (i := 58) rfl) rfl
theorem zt_2_60 : (Jvm.Cond.methodLink "Flaghall" (53 : Nat) ({ cls := "java/lang/IllegalStateException", name := "<init>", desc := "(Ljava/lang/String;)V" } : Jvm.MethodName)) ∈ zBG := zin_2 (List.mem_of_getElem? (i := 60) rfl) rfl
theorem zt_2_61 : (Jvm.Cond.instanceMethod ({ cls := "java/lang/IllegalStateException", name := "<init>", desc := "(Ljava/lang/String;)V" } : Jvm.MethodName)) ∈ zBG := zin_2 (List.mem_of_getElem? (i := 61) rfl) rfl
theorem zt_2_62 : (Jvm.Cond.code ({ cls := "java/lang/IllegalStateException", name := "<init>", desc := "(Ljava/lang/String;)V" } : Jvm.MethodName) prog_13_method_2_code (2 : Nat) (Option.none : Option Jvm.ClassFile.FieldType)) ∈ zBG := zin_2 (List.mem_of_getElem? (i := 62) rfl) rfl
theorem zt_2_63 : (Jvm.Cond.methodLink "java/lang/IllegalStateException" (7 : Nat) ({ cls := "java/lang/RuntimeException", name := "<init>", desc := "(Ljava/lang/String;)V" } : Jvm.MethodName)) ∈ zBG := zin_2 (List.mem_of_getElem? (i := 63) rfl) rfl
theorem zt_2_64 : (Jvm.Cond.lays "java/lang/IllegalStateException" "java/lang/Throwable" "depth" "I") ∈ zBG := zin_2 (List.mem_of_getElem? (i := 64) rfl) rfl
theorem zt_2_65 : (Jvm.Cond.superclass "java/lang/IllegalStateException" "java/lang/RuntimeException") ∈ zBG := zin_2 (List.mem_of_getElem? (i := 65) rfl) rfl
theorem zt_2_66 : (Jvm.Cond.methodLink "FlaghallLaw" (119 : Nat) ({ cls := "Flaghall", name := "company", desc := "()I" } : Jvm.MethodName)) ∈ zBG := zin_2 (List.mem_of_getElem? (i := 66) rfl) rfl
theorem zt_2_67 : (Jvm.Cond.instanceMethod ({ cls := "Flaghall", name := "company", desc := "()I" } : Jvm.MethodName)) ∈ zBG := zin_2 (List.mem_of_getElem? (i := 67) rfl) rfl
theorem zt_2_68 : (Jvm.Cond.selects "Flaghall" ({ cls := "Flaghall", name := "company", desc := "()I" } : Jvm.MethodName) ({ cls := "Flaghall", name := "company", desc := "()I" } : Jvm.MethodName)) ∈ zBG := zin_2 (List.mem_of_getElem? (i := 68) rfl) rfl
theorem zt_2_69 : (Jvm.Cond.code ({ cls := "Flaghall", name := "company", desc := "()I" } : Jvm.MethodName) prog_1_method_4_code (1 : Nat) (Option.some Jvm.ClassFile.FieldType.int)) ∈ zBG := zin_2 (List.mem_of_getElem? (i := 69) rfl) rfl
theorem zt_2_70 : (Jvm.Cond.methodLink "FlaghallLaw" (136 : Nat) ({ cls := "Flaghall", name := "notice", desc := "(II)I" } : Jvm.MethodName)) ∈ zBG := zin_2 (List.mem_of_getElem? (i := 70) rfl) rfl
theorem zt_2_71 : (Jvm.Cond.instanceMethod ({ cls := "Flaghall", name := "notice", desc := "(II)I" } : Jvm.MethodName)) ∈ zBG := zin_2 (List.mem_of_getElem? (i := 71) rfl) rfl
theorem zt_2_72 : (Jvm.Cond.selects "Flaghall" ({ cls := "Flaghall", name := "notice", desc := "(II)I" } : Jvm.MethodName) ({ cls := "Flaghall", name := "notice", desc := "(II)I" } : Jvm.MethodName)) ∈ zBG := zin_2 (List.mem_of_getElem? (i := 72) rfl) rfl
theorem zt_2_73 : (Jvm.Cond.code ({ cls := "Flaghall", name := "notice", desc := "(II)I" } : Jvm.MethodName) prog_1_method_10_code (3 : Nat) (Option.some Jvm.ClassFile.FieldType.int)) ∈ zBG := zin_2 (List.mem_of_getElem? (i := 73) rfl) rfl
theorem zt_2_74 : (Jvm.Cond.methodLink "Flaghall" (108 : Nat) ({ cls := "Flaghall", name := "needShip", desc := "(I)V" } : Jvm.MethodName)) ∈ zBG := zin_2 (List.mem_of_getElem? (i := 74) rfl) rfl
theorem zt_2_76 : (Jvm.Cond.instanceMethod ({ cls := "Flaghall", name := "needShip", desc := "(I)V" } : Jvm.MethodName)) ∈ zBG := zin_2 (List.mem_of_getElem? (i := 76) rfl) rfl
theorem zt_2_77 : (Jvm.Cond.code ({ cls := "Flaghall", name := "needShip", desc := "(I)V" } : Jvm.MethodName) prog_1_method_25_code (2 : Nat) (Option.none : Option Jvm.ClassFile.FieldType)) ∈ zBG := zin_2 (List.mem_of_getElem? (i := 77) rfl) rfl
theorem zt_2_79 : (Jvm.Cond.methodLink "Flaghall" (62 : Nat) ({ cls := "Flaghall", name := "needParty", desc := "(I)V" } : Jvm.MethodName)) ∈ zBG := zin_2 (List.mem_of_getElem? (i := 79) rfl) rfl
theorem zt_2_81 : (Jvm.Cond.instanceMethod ({ cls := "Flaghall", name := "needParty", desc := "(I)V" } : Jvm.MethodName)) ∈ zBG := zin_2 (List.mem_of_getElem? (i := 81) rfl) rfl
theorem zt_2_82 : (Jvm.Cond.code ({ cls := "Flaghall", name := "needParty", desc := "(I)V" } : Jvm.MethodName) prog_1_method_24_code (2 : Nat) (Option.none : Option Jvm.ClassFile.FieldType)) ∈ zBG := zin_2 (List.mem_of_getElem? (i := 82) rfl) rfl
theorem zt_2_84 : (Jvm.Cond.methodLink "Flaghall" (140 : Nat) ({ cls := "Flaghall", name := "needRoomInBook", desc := "()V" } : Jvm.MethodName)) ∈ zBG := zin_2 (List.mem_of_getElem? (i := 84) rfl) rfl
theorem zt_2_86 : (Jvm.Cond.instanceMethod ({ cls := "Flaghall", name := "needRoomInBook", desc := "()V" } : Jvm.MethodName)) ∈ zBG := zin_2 (List.mem_of_getElem? (i := 86) rfl) rfl
theorem zt_2_87 : (Jvm.Cond.code ({ cls := "Flaghall", name := "needRoomInBook", desc := "()V" } : Jvm.MethodName) prog_1_method_29_code (1 : Nat) (Option.none : Option Jvm.ClassFile.FieldType)) ∈ zBG := zin_2 (List.mem_of_getElem? (i := 87) rfl) rfl
theorem zt_2_90 : (Jvm.Cond.instanceMethod ({ cls := "Flaghall$Book", name := "isFull", desc := "()Z" } : Jvm.MethodName)) ∈ zBG := zin_2 (List.mem_of_getElem? (i := 90) rfl) rfl
theorem zt_2_91 : (Jvm.Cond.code ({ cls := "Flaghall$Book", name := "isFull", desc := "()Z" } : Jvm.MethodName) prog_2_method_2_code (1 : Nat) (Option.some Jvm.ClassFile.FieldType.boolean)) ∈ zBG := zin_2 (List.mem_of_getElem? (i := 91) rfl) rfl
theorem zt_2_93 : (Jvm.Cond.fieldLink "Flaghall" (143 : Nat) "Flaghall$Kind" "NOTICE" "LFlaghall$Kind;") ∈ zBG := zin_2 (List.mem_of_getElem? (i := 93) rfl) rfl
theorem zt_2_96 : (Jvm.Cond.instanceMethod ({ cls := "Flaghall$Book", name := "enter", desc := "(LFlaghall$Kind;IIJ)LFlaghall$Paper;" } : Jvm.MethodName)) ∈ zBG := zin_2 (List.mem_of_getElem? (i := 96) rfl) rfl
theorem zt_2_97 : (Jvm.Cond.code ({ cls := "Flaghall$Book", name := "enter", desc := "(LFlaghall$Kind;IIJ)LFlaghall$Paper;" } : Jvm.MethodName) prog_2_method_3_code (7 : Nat) (Option.some (Jvm.ClassFile.FieldType.object "Flaghall$Paper"))) ∈ zBG := zin_2 (List.mem_of_getElem? (i := 97) rfl) rfl
theorem zt_2_98 : (Jvm.Cond.methodLink "FlaghallLaw" (144 : Nat) ({ cls := "Flaghall", name := "mortgage", desc := "(III)I" } : Jvm.MethodName)) ∈ zBG := zin_2 (List.mem_of_getElem? (i := 98) rfl) rfl
theorem zt_2_99 : (Jvm.Cond.instanceMethod ({ cls := "Flaghall", name := "mortgage", desc := "(III)I" } : Jvm.MethodName)) ∈ zBG := zin_2 (List.mem_of_getElem? (i := 99) rfl) rfl
theorem zt_2_100 : (Jvm.Cond.selects "Flaghall" ({ cls := "Flaghall", name := "mortgage", desc := "(III)I" } : Jvm.MethodName) ({ cls := "Flaghall", name := "mortgage", desc := "(III)I" } : Jvm.MethodName)) ∈ zBG := zin_2 (List.mem_of_getElem? (i := 100) rfl) rfl
theorem zt_2_101 : (Jvm.Cond.code ({ cls := "Flaghall", name := "mortgage", desc := "(III)I" } : Jvm.MethodName) prog_1_method_11_code (4 : Nat) (Option.some Jvm.ClassFile.FieldType.int)) ∈ zBG := zin_2 (List.mem_of_getElem? (i := 101) rfl) rfl
theorem zt_2_102 : (Jvm.Cond.constant "Flaghall" (156 : Nat) (1000000000 : Int32)) ∈ zBG := zin_2 (List.mem_of_getElem? (i := 102) rfl) rfl
theorem zt_2_103 : (Jvm.Cond.methodLink "Flaghall" (65 : Nat) ({ cls := "Flaghall", name := "needWithin", desc := "(III)V" } : Jvm.MethodName)) ∈ zBG := zin_2 (List.mem_of_getElem? (i := 103) rfl) rfl
theorem zt_2_105 : (Jvm.Cond.instanceMethod ({ cls := "Flaghall", name := "needWithin", desc := "(III)V" } : Jvm.MethodName)) ∈ zBG := zin_2 (List.mem_of_getElem? (i := 105) rfl) rfl
theorem zt_2_106 : (Jvm.Cond.code ({ cls := "Flaghall", name := "needWithin", desc := "(III)V" } : Jvm.MethodName) prog_1_method_28_code (4 : Nat) (Option.none : Option Jvm.ClassFile.FieldType)) ∈ zBG := zin_2 (List.mem_of_getElem? (i := 106) rfl) rfl
theorem zt_2_107 : (Jvm.Cond.classLink "Flaghall" (38 : Nat) "java/lang/IllegalArgumentException") ∈ zBG := zin_2 (List.mem_of_getElem? (i := 107) rfl) rfl
theorem zt_2_108 : (Jvm.Cond.instantiable "java/lang/IllegalArgumentException" (6 : Nat)) ∈ zBG := zin_2 (List.mem_of_getElem? (i := 108) rfl) rfl
theorem zt_2_110 : (Jvm.Cond.selects "java/lang/IllegalArgumentException" ({ cls := "java/lang/Throwable", name := "fillInStackTrace", desc := "(I)Ljava/lang/Throwable;" } : Jvm.MethodName) ({ cls := "java/lang/Throwable", name := "fillInStackTrace", desc := "(I)Ljava/lang/Throwable;" } : Jvm.MethodName)) ∈ zBG := zin_2 (List.mem_of_getElem? (i := 110) rfl) rfl
theorem zt_2_111 : (Jvm.Cond.lays "java/lang/IllegalArgumentException" "java/lang/Throwable" "cause" "Ljava/lang/Throwable;") ∈ zBG := zin_2 (List.mem_of_getElem? (i := 111) rfl) rfl
theorem zt_2_112 : (Jvm.Cond.lays "java/lang/IllegalArgumentException" "java/lang/Throwable" "stackTrace" "[Ljava/lang/StackTraceElement;") ∈ zBG := zin_2 (List.mem_of_getElem? (i := 112) rfl) rfl
theorem zt_2_113 : (Jvm.Cond.lays "java/lang/IllegalArgumentException" "java/lang/Throwable" "suppressedExceptions" "Ljava/util/List;") ∈ zBG := zin_2 (List.mem_of_getElem? (i := 113) rfl) rfl
theorem zt_2_114 : (Jvm.Cond.lays "java/lang/IllegalArgumentException" "java/lang/Throwable" "detailMessage" "Ljava/lang/String;") ∈ zBG := zin_2 (List.mem_of_getElem? (i := 114) rfl) rfl
theorem zt_2_115 : (Jvm.Cond.lays "java/lang/IllegalArgumentException" "java/lang/Throwable" "backtrace" "Ljava/lang/Object;") ∈ zBG := zin_2 (List.mem_of_getElem? (i := 115) rfl) rfl
theorem zt_2_117 : (Jvm.Cond.methodLink "Flaghall" (42 : Nat) ({ cls := "java/lang/IllegalArgumentException", name := "<init>", desc := "(Ljava/lang/String;)V" } : Jvm.MethodName)) ∈ zBG := zin_2 (List.mem_of_getElem? (i := 117) rfl) rfl
theorem zt_2_118 : (Jvm.Cond.instanceMethod ({ cls := "java/lang/IllegalArgumentException", name := "<init>", desc := "(Ljava/lang/String;)V" } : Jvm.MethodName)) ∈ zBG := zin_2 (List.mem_of_getElem? (i := 118) rfl) rfl
theorem zt_2_119 : (Jvm.Cond.code ({ cls := "java/lang/IllegalArgumentException", name := "<init>", desc := "(Ljava/lang/String;)V" } : Jvm.MethodName) prog_12_method_2_code (2 : Nat) (Option.none : Option Jvm.ClassFile.FieldType)) ∈ zBG := zin_2 (List.mem_of_getElem? (i := 119) rfl) rfl
theorem zt_2_120 : (Jvm.Cond.methodLink "java/lang/IllegalArgumentException" (7 : Nat) ({ cls := "java/lang/RuntimeException", name := "<init>", desc := "(Ljava/lang/String;)V" } : Jvm.MethodName)) ∈ zBG := zin_2 (List.mem_of_getElem? (i := 120) rfl) rfl
theorem zt_2_121 : (Jvm.Cond.lays "java/lang/IllegalArgumentException" "java/lang/Throwable" "depth" "I") ∈ zBG := zin_2 (List.mem_of_getElem? (i := 121) rfl) rfl
theorem zt_2_122 : (Jvm.Cond.superclass "java/lang/IllegalArgumentException" "java/lang/RuntimeException") ∈ zBG := zin_2 (List.mem_of_getElem? (i := 122) rfl) rfl
theorem zt_2_125 : (Jvm.Cond.instanceMethod ({ cls := "Flaghall$Book", name := "enterMortgage", desc := "(IIIJ)I" } : Jvm.MethodName)) ∈ zBG := zin_2 (List.mem_of_getElem? (i := 125) rfl) rfl
theorem zt_2_126 : (Jvm.Cond.code ({ cls := "Flaghall$Book", name := "enterMortgage", desc := "(IIIJ)I" } : Jvm.MethodName) prog_2_method_4_code (8 : Nat) (Option.some Jvm.ClassFile.FieldType.int)) ∈ zBG := zin_2 (List.mem_of_getElem? (i := 126) rfl) rfl
theorem zt_2_127 : (Jvm.Cond.methodLink "Flaghall$Book" (55 : Nat) ({ cls := "Flaghall$Book", name := "takePlace", desc := "(IIJ)I" } : Jvm.MethodName)) ∈ zBG := zin_2 (List.mem_of_getElem? (i := 127) rfl) rfl
theorem zt_2_129 : (Jvm.Cond.instanceMethod ({ cls := "Flaghall$Book", name := "takePlace", desc := "(IIJ)I" } : Jvm.MethodName)) ∈ zBG := zin_2 (List.mem_of_getElem? (i := 129) rfl) rfl
theorem zt_2_130 : (Jvm.Cond.code ({ cls := "Flaghall$Book", name := "takePlace", desc := "(IIJ)I" } : Jvm.MethodName) prog_2_method_6_code (6 : Nat) (Option.some Jvm.ClassFile.FieldType.int)) ∈ zBG := zin_2 (List.mem_of_getElem? (i := 130) rfl) rfl
theorem zt_2_131 : (Jvm.Cond.methodLink "Flaghall$Book" (84 : Nat) ({ cls := "Flaghall$Book", name := "firstOpenRow", desc := "(I)I" } : Jvm.MethodName)) ∈ zBG := zin_2 (List.mem_of_getElem? (i := 131) rfl) rfl
theorem zt_2_133 : (Jvm.Cond.instanceMethod ({ cls := "Flaghall$Book", name := "firstOpenRow", desc := "(I)I" } : Jvm.MethodName)) ∈ zBG := zin_2 (List.mem_of_getElem? (i := 133) rfl) rfl
theorem zt_2_134 : (Jvm.Cond.code ({ cls := "Flaghall$Book", name := "firstOpenRow", desc := "(I)I" } : Jvm.MethodName) prog_2_method_7_code (3 : Nat) (Option.some Jvm.ClassFile.FieldType.int)) ∈ zBG := zin_2 (List.mem_of_getElem? (i := 134) rfl) rfl
theorem zt_2_135 : (Jvm.Cond.fieldLink "Flaghall$Book" (96 : Nat) "Flaghall$Kind" "COURT" "LFlaghall$Kind;") ∈ zBG := zin_2 (List.mem_of_getElem? (i := 135) rfl) rfl
theorem zt_2_139 : (Jvm.Cond.instanceMethod ({ cls := "Flaghall$Paper", name := "holdsPlaceFor", desc := "(IIJ)Z" } : Jvm.MethodName)) ∈ zBG := zin_2 (List.mem_of_getElem? (i := 139) rfl) rfl
theorem zt_2_140 : (Jvm.Cond.code ({ cls := "Flaghall$Paper", name := "holdsPlaceFor", desc := "(IIJ)Z" } : Jvm.MethodName) prog_5_method_3_code (5 : Nat) (Option.some Jvm.ClassFile.FieldType.boolean)) ∈ zBG := zin_2 (List.mem_of_getElem? (i := 140) rfl) rfl
theorem zt_2_141 : (Jvm.Cond.constantLong "Flaghall$Paper" (49 : Nat) (20160 : Int64)) ∈ zBG := zin_2 (List.mem_of_getElem? (i := 141) rfl) rfl
theorem zt_2_142 : (Jvm.Cond.fieldLink "Flaghall$Book" (65 : Nat) "Flaghall$Kind" "MORTGAGE" "LFlaghall$Kind;") ∈ zBG := zin_2 (List.mem_of_getElem? (i := 142) rfl) rfl
theorem zt_2_144 : (Jvm.Cond.methodLink "Flaghall$Book" (70 : Nat) ({ cls := "Flaghall$Book", name := "enter", desc := "(LFlaghall$Kind;IIJ)LFlaghall$Paper;" } : Jvm.MethodName)) ∈ zBG := zin_2 (List.mem_of_getElem? (i := 144) rfl) rfl
theorem zt_2_145 : (Jvm.Cond.methodLink "FlaghallLaw" (139 : Nat) ({ cls := "Flaghall", name := "lien", desc := "(IIII)I" } : Jvm.MethodName)) ∈ zBG := zin_2 (List.mem_of_getElem? (i := 145) rfl) rfl
theorem zt_2_146 : (Jvm.Cond.instanceMethod ({ cls := "Flaghall", name := "lien", desc := "(IIII)I" } : Jvm.MethodName)) ∈ zBG := zin_2 (List.mem_of_getElem? (i := 146) rfl) rfl
theorem zt_2_147 : (Jvm.Cond.selects "Flaghall" ({ cls := "Flaghall", name := "lien", desc := "(IIII)I" } : Jvm.MethodName) ({ cls := "Flaghall", name := "lien", desc := "(IIII)I" } : Jvm.MethodName)) ∈ zBG := zin_2 (List.mem_of_getElem? (i := 147) rfl) rfl
theorem zt_2_148 : (Jvm.Cond.code ({ cls := "Flaghall", name := "lien", desc := "(IIII)I" } : Jvm.MethodName) prog_1_method_13_code (6 : Nat) (Option.some Jvm.ClassFile.FieldType.int)) ∈ zBG := zin_2 (List.mem_of_getElem? (i := 148) rfl) rfl
theorem zt_2_149 : (Jvm.Cond.fieldLink "Flaghall" (178 : Nat) "Flaghall$Kind" "LIEN" "LFlaghall$Kind;") ∈ zBG := zin_2 (List.mem_of_getElem? (i := 149) rfl) rfl
theorem zt_2_151 : (Jvm.Cond.methodLink "FlaghallLaw" (151 : Nat) ({ cls := "Flaghall", name := "court", desc := "(III)J" } : Jvm.MethodName)) ∈ zBG := zin_2 (List.mem_of_getElem? (i := 151) rfl) rfl
theorem zt_2_152 : (Jvm.Cond.instanceMethod ({ cls := "Flaghall", name := "court", desc := "(III)J" } : Jvm.MethodName)) ∈ zBG := zin_2 (List.mem_of_getElem? (i := 152) rfl) rfl
theorem zt_2_153 : (Jvm.Cond.selects "Flaghall" ({ cls := "Flaghall", name := "court", desc := "(III)J" } : Jvm.MethodName) ({ cls := "Flaghall", name := "court", desc := "(III)J" } : Jvm.MethodName)) ∈ zBG := zin_2 (List.mem_of_getElem? (i := 153) rfl) rfl
theorem zt_2_154 : (Jvm.Cond.code ({ cls := "Flaghall", name := "court", desc := "(III)J" } : Jvm.MethodName) prog_1_method_14_code (6 : Nat) (Option.some Jvm.ClassFile.FieldType.long)) ∈ zBG := zin_2 (List.mem_of_getElem? (i := 154) rfl) rfl
theorem zt_2_155 : (Jvm.Cond.constant "Flaghall" (189 : Nat) (2000000000 : Int32)) ∈ zBG := zin_2 (List.mem_of_getElem? (i := 155) rfl) rfl
theorem zt_2_156 : (Jvm.Cond.methodLink "Flaghall" (190 : Nat) ({ cls := "Flaghall", name := "payLiens", desc := "(IJ)J" } : Jvm.MethodName)) ∈ zBG := zin_2 (List.mem_of_getElem? (i := 156) rfl) rfl
theorem zt_2_158 : (Jvm.Cond.instanceMethod ({ cls := "Flaghall", name := "payLiens", desc := "(IJ)J" } : Jvm.MethodName)) ∈ zBG := zin_2 (List.mem_of_getElem? (i := 158) rfl) rfl
theorem zt_2_159 : (Jvm.Cond.code ({ cls := "Flaghall", name := "payLiens", desc := "(IJ)J" } : Jvm.MethodName) prog_1_method_34_code (10 : Nat) (Option.some Jvm.ClassFile.FieldType.long)) ∈ zBG := zin_2 (List.mem_of_getElem? (i := 159) rfl) rfl
theorem zt_2_163 : (Jvm.Cond.instanceMethod ({ cls := "Flaghall$Paper", name := "isLienOn", desc := "(IJ)Z" } : Jvm.MethodName)) ∈ zBG := zin_2 (List.mem_of_getElem? (i := 163) rfl) rfl
theorem zt_2_164 : (Jvm.Cond.code ({ cls := "Flaghall$Paper", name := "isLienOn", desc := "(IJ)Z" } : Jvm.MethodName) prog_5_method_2_code (4 : Nat) (Option.some Jvm.ClassFile.FieldType.boolean)) ∈ zBG := zin_2 (List.mem_of_getElem? (i := 164) rfl) rfl
theorem zt_2_165 : (Jvm.Cond.fieldLink "Flaghall$Paper" (36 : Nat) "Flaghall$Kind" "LIEN" "LFlaghall$Kind;") ∈ zBG := zin_2 (List.mem_of_getElem? (i := 165) rfl) rfl
theorem zt_2_166 : (Jvm.Cond.constantLong "Flaghall$Paper" (43 : Nat) (525600 : Int64)) ∈ zBG := zin_2 (List.mem_of_getElem? (i := 166) rfl) rfl
theorem zt_2_167 : (Jvm.Cond.methodLink "Flaghall" (276 : Nat) ({ cls := "java/lang/Math", name := "min", desc := "(JJ)J" } : Jvm.MethodName)) ∈ zBG := zin_2 (List.mem_of_getElem? (i := 167) rfl) rfl
theorem zt_2_168 : (Jvm.Cond.static ({ cls := "java/lang/Math", name := "min", desc := "(JJ)J" } : Jvm.MethodName)) ∈ zBG := zin_2 (List.mem_of_getElem? (i := 168) rfl) rfl
theorem zt_2_169 : (Jvm.Cond.code ({ cls := "java/lang/Math", name := "min", desc := "(JJ)J" } : Jvm.MethodName) prog_15_method_70_code (4 : Nat) (Option.some Jvm.ClassFile.FieldType.long)) ∈ zBG := zin_2 (List.mem_of_getElem? (i := 169) rfl) rfl
theorem zt_2_170 : (Jvm.Cond.methodLink "Flaghall" (282 : Nat) ({ cls := "Flaghall", name := "pay", desc := "(IJ)J" } : Jvm.MethodName)) ∈ zBG := zin_2 (List.mem_of_getElem? (i := 170) rfl) rfl
theorem zt_2_172 : (Jvm.Cond.instanceMethod ({ cls := "Flaghall", name := "pay", desc := "(IJ)J" } : Jvm.MethodName)) ∈ zBG := zin_2 (List.mem_of_getElem? (i := 172) rfl) rfl
theorem zt_2_173 : (Jvm.Cond.code ({ cls := "Flaghall", name := "pay", desc := "(IJ)J" } : Jvm.MethodName) prog_1_method_37_code (4 : Nat) (Option.some Jvm.ClassFile.FieldType.long)) ∈ zBG := zin_2 (List.mem_of_getElem? (i := 173) rfl) rfl
theorem zt_2_174 : (Jvm.Cond.methodLink "Flaghall" (194 : Nat) ({ cls := "Flaghall", name := "payMortgages", desc := "(IJ)J" } : Jvm.MethodName)) ∈ zBG := zin_2 (List.mem_of_getElem? (i := 174) rfl) rfl
theorem zt_2_176 : (Jvm.Cond.instanceMethod ({ cls := "Flaghall", name := "payMortgages", desc := "(IJ)J" } : Jvm.MethodName)) ∈ zBG := zin_2 (List.mem_of_getElem? (i := 176) rfl) rfl
theorem zt_2_177 : (Jvm.Cond.code ({ cls := "Flaghall", name := "payMortgages", desc := "(IJ)J" } : Jvm.MethodName) prog_1_method_35_code (9 : Nat) (Option.some Jvm.ClassFile.FieldType.long)) ∈ zBG := zin_2 (List.mem_of_getElem? (i := 177) rfl) rfl
theorem zt_2_180 : (Jvm.Cond.instanceMethod ({ cls := "Flaghall$Book", name := "readUpTo", desc := "(IJ)V" } : Jvm.MethodName)) ∈ zBG := zin_2 (List.mem_of_getElem? (i := 180) rfl) rfl
theorem zt_2_181 : (Jvm.Cond.code ({ cls := "Flaghall$Book", name := "readUpTo", desc := "(IJ)V" } : Jvm.MethodName) prog_2_method_9_code (5 : Nat) (Option.none : Option Jvm.ClassFile.FieldType)) ∈ zBG := zin_2 (List.mem_of_getElem? (i := 181) rfl) rfl
theorem zt_2_182 : (Jvm.Cond.methodLink "Flaghall$Book" (99 : Nat) ({ cls := "java/util/Arrays", name := "fill", desc := "([II)V" } : Jvm.MethodName)) ∈ zBG := zin_2 (List.mem_of_getElem? (i := 182) rfl) rfl
theorem zt_2_183 : (Jvm.Cond.static ({ cls := "java/util/Arrays", name := "fill", desc := "([II)V" } : Jvm.MethodName)) ∈ zBG := zin_2 (List.mem_of_getElem? (i := 183) rfl) rfl
theorem zt_2_184 : (Jvm.Cond.code ({ cls := "java/util/Arrays", name := "fill", desc := "([II)V" } : Jvm.MethodName) prog_19_method_103_code (4 : Nat) (Option.none : Option Jvm.ClassFile.FieldType)) ∈ zBG := zin_2 (List.mem_of_getElem? (i := 184) rfl) rfl
theorem zt_2_185 : (Jvm.Cond.methodLink "Flaghall$Book" (105 : Nat) ({ cls := "Flaghall$Book", name := "read", desc := "(LFlaghall$Paper;)V" } : Jvm.MethodName)) ∈ zBG := zin_2 (List.mem_of_getElem? (i := 185) rfl) rfl
theorem zt_2_187 : (Jvm.Cond.instanceMethod ({ cls := "Flaghall$Book", name := "read", desc := "(LFlaghall$Paper;)V" } : Jvm.MethodName)) ∈ zBG := zin_2 (List.mem_of_getElem? (i := 187) rfl) rfl
theorem zt_2_188 : (Jvm.Cond.code ({ cls := "Flaghall$Book", name := "read", desc := "(LFlaghall$Paper;)V" } : Jvm.MethodName) prog_2_method_10_code (3 : Nat) (Option.none : Option Jvm.ClassFile.FieldType)) ∈ zBG := zin_2 (List.mem_of_getElem? (i := 188) rfl) rfl
theorem zt_2_189 : (Jvm.Cond.fieldLink "Flaghall$Book" (78 : Nat) "Flaghall$Kind" "DISCHARGE" "LFlaghall$Kind;") ∈ zBG := zin_2 (List.mem_of_getElem? (i := 189) rfl) rfl
theorem zt_2_191 : (Jvm.Cond.methodLink "Flaghall" (197 : Nat) ({ cls := "Flaghall", name := "payOwners", desc := "(LFlaghall$Ship;J)J" } : Jvm.MethodName)) ∈ zBG := zin_2 (List.mem_of_getElem? (i := 191) rfl) rfl
theorem zt_2_193 : (Jvm.Cond.instanceMethod ({ cls := "Flaghall", name := "payOwners", desc := "(LFlaghall$Ship;J)J" } : Jvm.MethodName)) ∈ zBG := zin_2 (List.mem_of_getElem? (i := 193) rfl) rfl
theorem zt_2_194 : (Jvm.Cond.code ({ cls := "Flaghall", name := "payOwners", desc := "(LFlaghall$Ship;J)J" } : Jvm.MethodName) prog_1_method_36_code (7 : Nat) (Option.some Jvm.ClassFile.FieldType.long)) ∈ zBG := zin_2 (List.mem_of_getElem? (i := 194) rfl) rfl
theorem zt_2_195 : (Jvm.Cond.constantLong "Flaghall" (300 : Nat) (64 : Int64)) ∈ zBG := zin_2 (List.mem_of_getElem? (i := 195) rfl) rfl
theorem zt_2_196 : (Jvm.Cond.fieldLink "Flaghall" (201 : Nat) "Flaghall$Kind" "COURT" "LFlaghall$Kind;") ∈ zBG := zin_2 (List.mem_of_getElem? (i := 196) rfl) rfl
theorem zt_2_199 : (Jvm.Cond.instanceMethod ({ cls := "Flaghall$Ship", name := "handTo", desc := "(I)V" } : Jvm.MethodName)) ∈ zBG := zin_2 (List.mem_of_getElem? (i := 199) rfl) rfl
theorem zt_2_200 : (Jvm.Cond.code ({ cls := "Flaghall$Ship", name := "handTo", desc := "(I)V" } : Jvm.MethodName) prog_7_method_5_code (2 : Nat) (Option.none : Option Jvm.ClassFile.FieldType)) ∈ zBG := zin_2 (List.mem_of_getElem? (i := 200) rfl) rfl
theorem zt_2_201 : (Jvm.Cond.methodLink "Flaghall$Ship" (36 : Nat) ({ cls := "java/util/Arrays", name := "fill", desc := "([II)V" } : Jvm.MethodName)) ∈ zBG := zin_2 (List.mem_of_getElem? (i := 201) rfl) rfl
theorem zt_2_202 : (Jvm.Cond.methodLink "FlaghallLaw" (156 : Nat) ({ cls := "Flaghall", name := "pass", desc := "(I)J" } : Jvm.MethodName)) ∈ zBG := zin_2 (List.mem_of_getElem? (i := 202) rfl) rfl
theorem zt_2_203 : (Jvm.Cond.instanceMethod ({ cls := "Flaghall", name := "pass", desc := "(I)J" } : Jvm.MethodName)) ∈ zBG := zin_2 (List.mem_of_getElem? (i := 203) rfl) rfl
theorem zt_2_204 : (Jvm.Cond.selects "Flaghall" ({ cls := "Flaghall", name := "pass", desc := "(I)J" } : Jvm.MethodName) ({ cls := "Flaghall", name := "pass", desc := "(I)J" } : Jvm.MethodName)) ∈ zBG := zin_2 (List.mem_of_getElem? (i := 204) rfl) rfl
theorem zt_2_205 : (Jvm.Cond.code ({ cls := "Flaghall", name := "pass", desc := "(I)J" } : Jvm.MethodName) prog_1_method_15_code (2 : Nat) (Option.some Jvm.ClassFile.FieldType.long)) ∈ zBG := zin_2 (List.mem_of_getElem? (i := 205) rfl) rfl
theorem zt_2_206 : (Jvm.Cond.constant "Flaghall" (204 : Nat) (1000000 : Int32)) ∈ zBG := zin_2 (List.mem_of_getElem? (i := 206) rfl) rfl
theorem zt_2_207 : (Jvm.Cond.methodLink "FlaghallLaw" (7 : Nat) ({ cls := "FlaghallLaw", name := "lands", desc := "([I[I[I[I)V" } : Jvm.MethodName)) ∈ zBG := zin_2 (List.mem_of_getElem? (i := 207) rfl) rfl
theorem zt_2_208 : (Jvm.Cond.static ({ cls := "FlaghallLaw", name := "lands", desc := "([I[I[I[I)V" } : Jvm.MethodName)) ∈ zBG := zin_2 (List.mem_of_getElem? (i := 208) rfl) rfl
theorem zt_2_209 : (Jvm.Cond.code ({ cls := "FlaghallLaw", name := "lands", desc := "([I[I[I[I)V" } : Jvm.MethodName) method_2_code (10 : Nat) (Option.none : Option Jvm.ClassFile.FieldType)) ∈ zBG := zin_2 (List.mem_of_getElem? (i := 209) rfl) rfl
theorem zt_2_210 : (Jvm.Cond.methodLink "FlaghallLaw" (13 : Nat) ({ cls := "FlaghallLaw", name := "can", desc := "([I[I[III)Z" } : Jvm.MethodName)) ∈ zBG := zin_2 (List.mem_of_getElem? (i := 210) rfl) rfl
theorem zt_2_211 : (Jvm.Cond.static ({ cls := "FlaghallLaw", name := "can", desc := "([I[I[III)Z" } : Jvm.MethodName)) ∈ zBG := zin_2 (List.mem_of_getElem? (i := 211) rfl) rfl
theorem zt_2_212 : (Jvm.Cond.code ({ cls := "FlaghallLaw", name := "can", desc := "([I[I[III)Z" } : Jvm.MethodName) method_3_code (7 : Nat) (Option.some Jvm.ClassFile.FieldType.boolean)) ∈ zBG := zin_2 (List.mem_of_getElem? (i := 212) rfl) rfl
theorem zt_2_213 : (Jvm.Cond.methodLink "FlaghallLaw" (132 : Nat) ({ cls := "FlaghallLaw", name := "looks", desc := "([I[I[I[I[J[IJ)V" } : Jvm.MethodName)) ∈ zBG := zin_2 (List.mem_of_getElem? (i := 213) rfl) rfl
theorem zt_2_214 : (Jvm.Cond.static ({ cls := "FlaghallLaw", name := "looks", desc := "([I[I[I[I[J[IJ)V" } : Jvm.MethodName)) ∈ zBG := zin_2 (List.mem_of_getElem? (i := 214) rfl) rfl
theorem zt_2_215 : (Jvm.Cond.code ({ cls := "FlaghallLaw", name := "looks", desc := "([I[I[I[I[J[IJ)V" } : Jvm.MethodName) method_4_code (11 : Nat) (Option.none : Option Jvm.ClassFile.FieldType)) ∈ zBG := zin_2 (List.mem_of_getElem? (i := 215) rfl) rfl
theorem zt_2_216 : (Jvm.Cond.constantLong "FlaghallLaw" (17 : Nat) (-1 : Int64)) ∈ zBG := zin_2 (List.mem_of_getElem? (i := 216) rfl) rfl
theorem zt_2_217 : (Jvm.Cond.methodLink "FlaghallLaw" (97 : Nat) ({ cls := "FlaghallLaw", name := "flag", desc := "([I[JIJ)I" } : Jvm.MethodName)) ∈ zBG := zin_2 (List.mem_of_getElem? (i := 217) rfl) rfl
theorem zt_2_218 : (Jvm.Cond.static ({ cls := "FlaghallLaw", name := "flag", desc := "([I[JIJ)I" } : Jvm.MethodName)) ∈ zBG := zin_2 (List.mem_of_getElem? (i := 218) rfl) rfl
theorem zt_2_219 : (Jvm.Cond.code ({ cls := "FlaghallLaw", name := "flag", desc := "([I[JIJ)I" } : Jvm.MethodName) method_5_code (5 : Nat) (Option.some Jvm.ClassFile.FieldType.int)) ∈ zBG := zin_2 (List.mem_of_getElem? (i := 219) rfl) rfl
theorem zt_2_220 : (Jvm.Cond.constantLong "FlaghallLaw" (19 : Nat) (129600 : Int64)) ∈ zBG := zin_2 (List.mem_of_getElem? (i := 220) rfl) rfl
theorem zt_2_221 : (Jvm.Cond.methodLink "FlaghallLaw" (25 : Nat) ({ cls := "FlaghallLaw", name := "was", desc := "([I[J[J[I[IIJ)Z" } : Jvm.MethodName)) ∈ zBG := zin_2 (List.mem_of_getElem? (i := 221) rfl) rfl
theorem zt_2_222 : (Jvm.Cond.static ({ cls := "FlaghallLaw", name := "was", desc := "([I[J[J[I[IIJ)Z" } : Jvm.MethodName)) ∈ zBG := zin_2 (List.mem_of_getElem? (i := 222) rfl) rfl
theorem zt_2_223 : (Jvm.Cond.code ({ cls := "FlaghallLaw", name := "was", desc := "([I[J[J[I[IIJ)Z" } : Jvm.MethodName) method_7_code (10 : Nat) (Option.some Jvm.ClassFile.FieldType.boolean)) ∈ zBG := zin_2 (List.mem_of_getElem? (i := 223) rfl) rfl
theorem zt_2_224 : (Jvm.Cond.methodLink "FlaghallLaw" (147 : Nat) ({ cls := "FlaghallLaw", name := "sold", desc := "([I[I[I[J[J[I[I[J[IIIIJ)J" } : Jvm.MethodName)) ∈ zBG := zin_2 (List.mem_of_getElem? (i := 224) rfl) rfl
theorem zt_2_225 : (Jvm.Cond.static ({ cls := "FlaghallLaw", name := "sold", desc := "([I[I[I[J[J[I[I[J[IIIIJ)J" } : Jvm.MethodName)) ∈ zBG := zin_2 (List.mem_of_getElem? (i := 225) rfl) rfl
theorem zt_2_226 : (Jvm.Cond.code ({ cls := "FlaghallLaw", name := "sold", desc := "([I[I[I[J[J[I[I[J[IIIIJ)J" } : Jvm.MethodName) method_12_code (20 : Nat) (Option.some Jvm.ClassFile.FieldType.long)) ∈ zBG := zin_2 (List.mem_of_getElem? (i := 226) rfl) rfl
theorem zt_2_227 : (Jvm.Cond.methodLink "FlaghallLaw" (31 : Nat) ({ cls := "FlaghallLaw", name := "isLien", desc := "([I[J[JIIJ)Z" } : Jvm.MethodName)) ∈ zBG := zin_2 (List.mem_of_getElem? (i := 227) rfl) rfl
theorem zt_2_228 : (Jvm.Cond.static ({ cls := "FlaghallLaw", name := "isLien", desc := "([I[J[JIIJ)Z" } : Jvm.MethodName)) ∈ zBG := zin_2 (List.mem_of_getElem? (i := 228) rfl) rfl
theorem zt_2_229 : (Jvm.Cond.code ({ cls := "FlaghallLaw", name := "isLien", desc := "([I[J[JIIJ)Z" } : Jvm.MethodName) method_9_code (7 : Nat) (Option.some Jvm.ClassFile.FieldType.boolean)) ∈ zBG := zin_2 (List.mem_of_getElem? (i := 229) rfl) rfl
theorem zt_2_230 : (Jvm.Cond.methodLink "FlaghallLaw" (21 : Nat) ({ cls := "FlaghallLaw", name := "isOf", desc := "([IIII)Z" } : Jvm.MethodName)) ∈ zBG := zin_2 (List.mem_of_getElem? (i := 230) rfl) rfl
theorem zt_2_231 : (Jvm.Cond.static ({ cls := "FlaghallLaw", name := "isOf", desc := "([IIII)Z" } : Jvm.MethodName)) ∈ zBG := zin_2 (List.mem_of_getElem? (i := 231) rfl) rfl
theorem zt_2_232 : (Jvm.Cond.code ({ cls := "FlaghallLaw", name := "isOf", desc := "([IIII)Z" } : Jvm.MethodName) method_6_code (4 : Nat) (Option.some Jvm.ClassFile.FieldType.boolean)) ∈ zBG := zin_2 (List.mem_of_getElem? (i := 232) rfl) rfl
theorem zt_2_233 : (Jvm.Cond.constantLong "FlaghallLaw" (29 : Nat) (525600 : Int64)) ∈ zBG := zin_2 (List.mem_of_getElem? (i := 233) rfl) rfl
theorem zt_2_234 : (Jvm.Cond.methodLink "FlaghallLaw" (35 : Nat) ({ cls := "FlaghallLaw", name := "some", desc := "(JI)J" } : Jvm.MethodName)) ∈ zBG := zin_2 (List.mem_of_getElem? (i := 234) rfl) rfl
theorem zt_2_235 : (Jvm.Cond.static ({ cls := "FlaghallLaw", name := "some", desc := "(JI)J" } : Jvm.MethodName)) ∈ zBG := zin_2 (List.mem_of_getElem? (i := 235) rfl) rfl
theorem zt_2_236 : (Jvm.Cond.code ({ cls := "FlaghallLaw", name := "some", desc := "(JI)J" } : Jvm.MethodName) method_11_code (3 : Nat) (Option.some Jvm.ClassFile.FieldType.long)) ∈ zBG := zin_2 (List.mem_of_getElem? (i := 236) rfl) rfl
theorem zt_2_237 : (Jvm.Cond.methodLink "FlaghallLaw" (39 : Nat) ({ cls := "FlaghallLaw", name := "at", desc := "([I[J[J[I[I[IIJI)I" } : Jvm.MethodName)) ∈ zBG := zin_2 (List.mem_of_getElem? (i := 237) rfl) rfl
theorem zt_2_238 : (Jvm.Cond.static ({ cls := "FlaghallLaw", name := "at", desc := "([I[J[J[I[I[IIJI)I" } : Jvm.MethodName)) ∈ zBG := zin_2 (List.mem_of_getElem? (i := 238) rfl) rfl
theorem zt_2_239 : (Jvm.Cond.code ({ cls := "FlaghallLaw", name := "at", desc := "([I[J[J[I[I[IIJI)I" } : Jvm.MethodName) method_8_code (17 : Nat) (Option.some Jvm.ClassFile.FieldType.int)) ∈ zBG := zin_2 (List.mem_of_getElem? (i := 239) rfl) rfl
theorem zt_3_0 : (Jvm.Cond.methodLink "FlaghallLaw" (126 : Nat) ({ cls := "FlaghallLaw", name := "does", desc := "(LFlaghall;IIIII)J" } : Jvm.MethodName)) ∈ zBG := zin_3 (List.mem_of_getElem? (i := 0) rfl) rfl
theorem zt_3_1 : (Jvm.Cond.static ({ cls := "FlaghallLaw", name := "does", desc := "(LFlaghall;IIIII)J" } : Jvm.MethodName)) ∈ zBG := zin_3 (List.mem_of_getElem? (i := 1) rfl) rfl
theorem zt_3_2 : (Jvm.Cond.codeWith ({ cls := "FlaghallLaw", name := "does", desc := "(LFlaghall;IIIII)J" } : Jvm.MethodName) method_13_code (7 : Nat) (Option.some Jvm.ClassFile.FieldType.long) [((0 : Nat), (94 : Nat), (95 : Nat), (69 : Nat)), ((0 : Nat), (94 : Nat), (101 : Nat), (73 : Nat)), ((0 : Nat), (94 : Nat), (107 : Nat), (77 : Nat))]) ∈ zBG := zin_3 (List.mem_of_getElem? (i := 2) rfl) rfl
theorem zt_3_3 : (Jvm.Cond.classLink "FlaghallLaw" (69 : Nat) "java/lang/IndexOutOfBoundsException") ∈ zBG := zin_3 (List.mem_of_getElem? (i := 3) rfl) rfl
theorem zt_3_4 : (Jvm.Cond.classLink "FlaghallLaw" (73 : Nat) "java/lang/IllegalArgumentException") ∈ zBG := zin_3 (List.mem_of_getElem? (i := 4) rfl) rfl
theorem zt_3_5 : (Jvm.Cond.classLink "FlaghallLaw" (77 : Nat) "java/lang/IllegalStateException") ∈ zBG := zin_3 (List.mem_of_getElem? (i := 5) rfl) rfl
theorem zt_3_6 : (Jvm.Cond.methodLink "FlaghallLaw" (43 : Nat) ({ cls := "Flaghall", name := "ship", desc := "(I)I" } : Jvm.MethodName)) ∈ zBG := zin_3 (List.mem_of_getElem? (i := 6) rfl) rfl
theorem zt_3_7 : (Jvm.Cond.instanceMethod ({ cls := "Flaghall", name := "ship", desc := "(I)I" } : Jvm.MethodName)) ∈ zBG := zin_3 (List.mem_of_getElem? (i := 7) rfl) rfl
theorem zt_3_8 : (Jvm.Cond.selects "Flaghall" ({ cls := "Flaghall", name := "ship", desc := "(I)I" } : Jvm.MethodName) ({ cls := "Flaghall", name := "ship", desc := "(I)I" } : Jvm.MethodName)) ∈ zBG := zin_3 (List.mem_of_getElem? (i := 8) rfl) rfl
theorem zt_3_9 : (Jvm.Cond.code ({ cls := "Flaghall", name := "ship", desc := "(I)I" } : Jvm.MethodName) prog_1_method_7_code (4 : Nat) (Option.some Jvm.ClassFile.FieldType.int)) ∈ zBG := zin_3 (List.mem_of_getElem? (i := 9) rfl) rfl
theorem zt_3_13 : (Jvm.Cond.instanceMethod ({ cls := "Flaghall$Ship", name := "takeName", desc := "([CI)V" } : Jvm.MethodName)) ∈ zBG := zin_3 (List.mem_of_getElem? (i := 13) rfl) rfl
theorem zt_3_14 : (Jvm.Cond.code ({ cls := "Flaghall$Ship", name := "takeName", desc := "([CI)V" } : Jvm.MethodName) prog_7_method_2_code (4 : Nat) (Option.none : Option Jvm.ClassFile.FieldType)) ∈ zBG := zin_3 (List.mem_of_getElem? (i := 14) rfl) rfl
theorem zt_3_15 : (Jvm.Cond.methodLink "Flaghall$Ship" (32 : Nat) ({ cls := "Flaghall$Ship", name := "isHeard", desc := "(C)Z" } : Jvm.MethodName)) ∈ zBG := zin_3 (List.mem_of_getElem? (i := 15) rfl) rfl
theorem zt_3_17 : (Jvm.Cond.instanceMethod ({ cls := "Flaghall$Ship", name := "isHeard", desc := "(C)Z" } : Jvm.MethodName)) ∈ zBG := zin_3 (List.mem_of_getElem? (i := 17) rfl) rfl
theorem zt_3_18 : (Jvm.Cond.code ({ cls := "Flaghall$Ship", name := "isHeard", desc := "(C)Z" } : Jvm.MethodName) prog_7_method_3_code (2 : Nat) (Option.some Jvm.ClassFile.FieldType.boolean)) ∈ zBG := zin_3 (List.mem_of_getElem? (i := 18) rfl) rfl
theorem zt_3_21 : (Jvm.Cond.instanceMethod ({ cls := "Flaghall$Ship", name := "soundsLike", desc := "(LFlaghall$Ship;)Z" } : Jvm.MethodName)) ∈ zBG := zin_3 (List.mem_of_getElem? (i := 21) rfl) rfl
theorem zt_3_22 : (Jvm.Cond.code ({ cls := "Flaghall$Ship", name := "soundsLike", desc := "(LFlaghall$Ship;)Z" } : Jvm.MethodName) prog_7_method_4_code (3 : Nat) (Option.some Jvm.ClassFile.FieldType.boolean)) ∈ zBG := zin_3 (List.mem_of_getElem? (i := 22) rfl) rfl
theorem zt_3_23 : (Jvm.Cond.methodLink "FlaghallLaw" (49 : Nat) ({ cls := "Flaghall", name := "sell", desc := "(IIII)I" } : Jvm.MethodName)) ∈ zBG := zin_3 (List.mem_of_getElem? (i := 23) rfl) rfl
theorem zt_3_24 : (Jvm.Cond.instanceMethod ({ cls := "Flaghall", name := "sell", desc := "(IIII)I" } : Jvm.MethodName)) ∈ zBG := zin_3 (List.mem_of_getElem? (i := 24) rfl) rfl
theorem zt_3_25 : (Jvm.Cond.selects "Flaghall" ({ cls := "Flaghall", name := "sell", desc := "(IIII)I" } : Jvm.MethodName) ({ cls := "Flaghall", name := "sell", desc := "(IIII)I" } : Jvm.MethodName)) ∈ zBG := zin_3 (List.mem_of_getElem? (i := 25) rfl) rfl
theorem zt_3_26 : (Jvm.Cond.code ({ cls := "Flaghall", name := "sell", desc := "(IIII)I" } : Jvm.MethodName) prog_1_method_8_code (6 : Nat) (Option.some Jvm.ClassFile.FieldType.int)) ∈ zBG := zin_3 (List.mem_of_getElem? (i := 26) rfl) rfl
theorem zt_3_29 : (Jvm.Cond.methodLink "Flaghall" (88 : Nat) ({ cls := "Flaghall", name := "checkGrace", desc := "(LFlaghall$Ship;)V" } : Jvm.MethodName)) ∈ zBG := zin_3 (List.mem_of_getElem? (i := 29) rfl) rfl
theorem zt_3_31 : (Jvm.Cond.instanceMethod ({ cls := "Flaghall", name := "checkGrace", desc := "(LFlaghall$Ship;)V" } : Jvm.MethodName)) ∈ zBG := zin_3 (List.mem_of_getElem? (i := 31) rfl) rfl
theorem zt_3_32 : (Jvm.Cond.code ({ cls := "Flaghall", name := "checkGrace", desc := "(LFlaghall$Ship;)V" } : Jvm.MethodName) prog_1_method_33_code (2 : Nat) (Option.none : Option Jvm.ClassFile.FieldType)) ∈ zBG := zin_3 (List.mem_of_getElem? (i := 32) rfl) rfl
theorem zt_3_33 : (Jvm.Cond.methodLink "Flaghall" (118 : Nat) ({ cls := "Flaghall", name := "landOfMost", desc := "([I)I" } : Jvm.MethodName)) ∈ zBG := zin_3 (List.mem_of_getElem? (i := 33) rfl) rfl
theorem zt_3_35 : (Jvm.Cond.instanceMethod ({ cls := "Flaghall", name := "landOfMost", desc := "([I)I" } : Jvm.MethodName)) ∈ zBG := zin_3 (List.mem_of_getElem? (i := 35) rfl) rfl
theorem zt_3_36 : (Jvm.Cond.code ({ cls := "Flaghall", name := "landOfMost", desc := "([I)I" } : Jvm.MethodName) prog_1_method_32_code (4 : Nat) (Option.some Jvm.ClassFile.FieldType.int)) ∈ zBG := zin_3 (List.mem_of_getElem? (i := 36) rfl) rfl
theorem zt_3_37 : (Jvm.Cond.methodLink "Flaghall" (267 : Nat) ({ cls := "java/util/Arrays", name := "fill", desc := "([II)V" } : Jvm.MethodName)) ∈ zBG := zin_3 (List.mem_of_getElem? (i := 37) rfl) rfl
theorem zt_3_38 : (Jvm.Cond.constantLong "Flaghall" (135 : Nat) (-1 : Int64)) ∈ zBG := zin_3 (List.mem_of_getElem? (i := 38) rfl) rfl
theorem zt_3_39 : (Jvm.Cond.methodLink "FlaghallLaw" (53 : Nat) ({ cls := "Flaghall", name := "fly", desc := "(II)I" } : Jvm.MethodName)) ∈ zBG := zin_3 (List.mem_of_getElem? (i := 39) rfl) rfl
theorem zt_3_40 : (Jvm.Cond.instanceMethod ({ cls := "Flaghall", name := "fly", desc := "(II)I" } : Jvm.MethodName)) ∈ zBG := zin_3 (List.mem_of_getElem? (i := 40) rfl) rfl
theorem zt_3_41 : (Jvm.Cond.selects "Flaghall" ({ cls := "Flaghall", name := "fly", desc := "(II)I" } : Jvm.MethodName) ({ cls := "Flaghall", name := "fly", desc := "(II)I" } : Jvm.MethodName)) ∈ zBG := zin_3 (List.mem_of_getElem? (i := 41) rfl) rfl
theorem zt_3_42 : (Jvm.Cond.code ({ cls := "Flaghall", name := "fly", desc := "(II)I" } : Jvm.MethodName) prog_1_method_9_code (5 : Nat) (Option.some Jvm.ClassFile.FieldType.int)) ∈ zBG := zin_3 (List.mem_of_getElem? (i := 42) rfl) rfl
theorem zt_3_46 : (Jvm.Cond.instanceMethod ({ cls := "Flaghall$Ship", name := "flagAt", desc := "(J)I" } : Jvm.MethodName)) ∈ zBG := zin_3 (List.mem_of_getElem? (i := 46) rfl) rfl
theorem zt_3_47 : (Jvm.Cond.code ({ cls := "Flaghall$Ship", name := "flagAt", desc := "(J)I" } : Jvm.MethodName) prog_7_method_6_code (4 : Nat) (Option.some Jvm.ClassFile.FieldType.int)) ∈ zBG := zin_3 (List.mem_of_getElem? (i := 47) rfl) rfl
theorem zt_3_48 : (Jvm.Cond.constantLong "Flaghall$Ship" (42 : Nat) (129600 : Int64)) ∈ zBG := zin_3 (List.mem_of_getElem? (i := 48) rfl) rfl
theorem zt_3_49 : (Jvm.Cond.methodLink "FlaghallLaw" (57 : Nat) ({ cls := "Flaghall", name := "part", desc := "(III)I" } : Jvm.MethodName)) ∈ zBG := zin_3 (List.mem_of_getElem? (i := 49) rfl) rfl
theorem zt_3_50 : (Jvm.Cond.instanceMethod ({ cls := "Flaghall", name := "part", desc := "(III)I" } : Jvm.MethodName)) ∈ zBG := zin_3 (List.mem_of_getElem? (i := 50) rfl) rfl
theorem zt_3_51 : (Jvm.Cond.selects "Flaghall" ({ cls := "Flaghall", name := "part", desc := "(III)I" } : Jvm.MethodName) ({ cls := "Flaghall", name := "part", desc := "(III)I" } : Jvm.MethodName)) ∈ zBG := zin_3 (List.mem_of_getElem? (i := 51) rfl) rfl
theorem zt_3_52 : (Jvm.Cond.code ({ cls := "Flaghall", name := "part", desc := "(III)I" } : Jvm.MethodName) prog_1_method_5_code (7 : Nat) (Option.some Jvm.ClassFile.FieldType.int)) ∈ zBG := zin_3 (List.mem_of_getElem? (i := 52) rfl) rfl
theorem zt_3_55 : (Jvm.Cond.instanceMethod ({ cls := "Flaghall$Party", name := "partsOfParties", desc := "()I" } : Jvm.MethodName)) ∈ zBG := zin_3 (List.mem_of_getElem? (i := 55) rfl) rfl
theorem zt_3_56 : (Jvm.Cond.code ({ cls := "Flaghall$Party", name := "partsOfParties", desc := "()I" } : Jvm.MethodName) prog_6_method_2_code (3 : Nat) (Option.some Jvm.ClassFile.FieldType.int)) ∈ zBG := zin_3 (List.mem_of_getElem? (i := 56) rfl) rfl
theorem zt_3_58 : (Jvm.Cond.methodLink "Flaghall" (82 : Nat) ({ cls := "Flaghall", name := "findHomes", desc := "()V" } : Jvm.MethodName)) ∈ zBG := zin_3 (List.mem_of_getElem? (i := 58) rfl) rfl
theorem zt_3_60 : (Jvm.Cond.instanceMethod ({ cls := "Flaghall", name := "findHomes", desc := "()V" } : Jvm.MethodName)) ∈ zBG := zin_3 (List.mem_of_getElem? (i := 60) rfl) rfl
theorem zt_3_61 : (Jvm.Cond.code ({ cls := "Flaghall", name := "findHomes", desc := "()V" } : Jvm.MethodName) prog_1_method_31_code (3 : Nat) (Option.none : Option Jvm.ClassFile.FieldType)) ∈ zBG := zin_3 (List.mem_of_getElem? (i := 61) rfl) rfl
theorem zt_3_62 : (Jvm.Cond.methodLink "FlaghallLaw" (61 : Nat) ({ cls := "FlaghallLaw", name := "discharges", desc := "(LFlaghall;IZ)J" } : Jvm.MethodName)) ∈ zBG := zin_3 (List.mem_of_getElem? (i := 62) rfl) rfl
theorem zt_3_63 : (Jvm.Cond.static ({ cls := "FlaghallLaw", name := "discharges", desc := "(LFlaghall;IZ)J" } : Jvm.MethodName)) ∈ zBG := zin_3 (List.mem_of_getElem? (i := 63) rfl) rfl
theorem zt_3_64 : (Jvm.Cond.code ({ cls := "FlaghallLaw", name := "discharges", desc := "(LFlaghall;IZ)J" } : Jvm.MethodName) method_14_code (3 : Nat) (Option.some Jvm.ClassFile.FieldType.long)) ∈ zBG := zin_3 (List.mem_of_getElem? (i := 64) rfl) rfl
theorem zt_3_65 : (Jvm.Cond.methodLink "FlaghallLaw" (81 : Nat) ({ cls := "Flaghall", name := "discharge", desc := "(IZ)V" } : Jvm.MethodName)) ∈ zBG := zin_3 (List.mem_of_getElem? (i := 65) rfl) rfl
theorem zt_3_66 : (Jvm.Cond.instanceMethod ({ cls := "Flaghall", name := "discharge", desc := "(IZ)V" } : Jvm.MethodName)) ∈ zBG := zin_3 (List.mem_of_getElem? (i := 66) rfl) rfl
theorem zt_3_67 : (Jvm.Cond.selects "Flaghall" ({ cls := "Flaghall", name := "discharge", desc := "(IZ)V" } : Jvm.MethodName) ({ cls := "Flaghall", name := "discharge", desc := "(IZ)V" } : Jvm.MethodName)) ∈ zBG := zin_3 (List.mem_of_getElem? (i := 67) rfl) rfl
theorem zt_3_68 : (Jvm.Cond.code ({ cls := "Flaghall", name := "discharge", desc := "(IZ)V" } : Jvm.MethodName) prog_1_method_12_code (4 : Nat) (Option.none : Option Jvm.ClassFile.FieldType)) ∈ zBG := zin_3 (List.mem_of_getElem? (i := 68) rfl) rfl
theorem zt_3_69 : (Jvm.Cond.methodLink "Flaghall" (161 : Nat) ({ cls := "Flaghall", name := "needMortgage", desc := "(I)V" } : Jvm.MethodName)) ∈ zBG := zin_3 (List.mem_of_getElem? (i := 69) rfl) rfl
theorem zt_3_71 : (Jvm.Cond.instanceMethod ({ cls := "Flaghall", name := "needMortgage", desc := "(I)V" } : Jvm.MethodName)) ∈ zBG := zin_3 (List.mem_of_getElem? (i := 71) rfl) rfl
theorem zt_3_72 : (Jvm.Cond.code ({ cls := "Flaghall", name := "needMortgage", desc := "(I)V" } : Jvm.MethodName) prog_1_method_26_code (2 : Nat) (Option.none : Option Jvm.ClassFile.FieldType)) ∈ zBG := zin_3 (List.mem_of_getElem? (i := 72) rfl) rfl
theorem zt_3_76 : (Jvm.Cond.instanceMethod ({ cls := "Flaghall$Book", name := "rankOf", desc := "(IJ)I" } : Jvm.MethodName)) ∈ zBG := zin_3 (List.mem_of_getElem? (i := 76) rfl) rfl
theorem zt_3_77 : (Jvm.Cond.code ({ cls := "Flaghall$Book", name := "rankOf", desc := "(IJ)I" } : Jvm.MethodName) prog_2_method_11_code (6 : Nat) (Option.some Jvm.ClassFile.FieldType.int)) ∈ zBG := zin_3 (List.mem_of_getElem? (i := 77) rfl) rfl
theorem zt_3_78 : (Jvm.Cond.methodLink "Flaghall$Book" (109 : Nat) ({ cls := "Flaghall$Book", name := "readUpTo", desc := "(IJ)V" } : Jvm.MethodName)) ∈ zBG := zin_3 (List.mem_of_getElem? (i := 78) rfl) rfl
theorem zt_3_81 : (Jvm.Cond.instanceMethod ({ cls := "Flaghall$Book", name := "isOver", desc := "(I)Z" } : Jvm.MethodName)) ∈ zBG := zin_3 (List.mem_of_getElem? (i := 81) rfl) rfl
theorem zt_3_82 : (Jvm.Cond.code ({ cls := "Flaghall$Book", name := "isOver", desc := "(I)Z" } : Jvm.MethodName) prog_2_method_8_code (3 : Nat) (Option.some Jvm.ClassFile.FieldType.boolean)) ∈ zBG := zin_3 (List.mem_of_getElem? (i := 82) rfl) rfl
theorem zt_3_86 : (Jvm.Cond.instanceMethod ({ cls := "Flaghall$Book", name := "enterDischarge", desc := "(IZJ)V" } : Jvm.MethodName)) ∈ zBG := zin_3 (List.mem_of_getElem? (i := 86) rfl) rfl
theorem zt_3_87 : (Jvm.Cond.code ({ cls := "Flaghall$Book", name := "enterDischarge", desc := "(IZJ)V" } : Jvm.MethodName) prog_2_method_5_code (7 : Nat) (Option.none : Option Jvm.ClassFile.FieldType)) ∈ zBG := zin_3 (List.mem_of_getElem? (i := 87) rfl) rfl
theorem zt_3_88 : (Jvm.Cond.fieldLink "Flaghall$Book" (81 : Nat) "Flaghall$Kind" "RESTORING" "LFlaghall$Kind;") ∈ zBG := zin_3 (List.mem_of_getElem? (i := 88) rfl) rfl
theorem zt_3_90 : (Jvm.Cond.methodLink "FlaghallLaw" (65 : Nat) ({ cls := "Flaghall", name := "letter", desc := "(C)I" } : Jvm.MethodName)) ∈ zBG := zin_3 (List.mem_of_getElem? (i := 90) rfl) rfl
theorem zt_3_91 : (Jvm.Cond.instanceMethod ({ cls := "Flaghall", name := "letter", desc := "(C)I" } : Jvm.MethodName)) ∈ zBG := zin_3 (List.mem_of_getElem? (i := 91) rfl) rfl
theorem zt_3_92 : (Jvm.Cond.selects "Flaghall" ({ cls := "Flaghall", name := "letter", desc := "(C)I" } : Jvm.MethodName) ({ cls := "Flaghall", name := "letter", desc := "(C)I" } : Jvm.MethodName)) ∈ zBG := zin_3 (List.mem_of_getElem? (i := 92) rfl) rfl
theorem zt_3_93 : (Jvm.Cond.code ({ cls := "Flaghall", name := "letter", desc := "(C)I" } : Jvm.MethodName) prog_1_method_2_code (2 : Nat) (Option.some Jvm.ClassFile.FieldType.int)) ∈ zBG := zin_3 (List.mem_of_getElem? (i := 93) rfl) rfl
theorem zt_3_96 : (Jvm.Cond.constantLong "FlaghallLaw" (71 : Nat) (-11 : Int64)) ∈ zBG := zin_3 (List.mem_of_getElem? (i := 96) rfl) rfl
theorem zt_3_97 : (Jvm.Cond.constantLong "FlaghallLaw" (75 : Nat) (-12 : Int64)) ∈ zBG := zin_3 (List.mem_of_getElem? (i := 97) rfl) rfl
theorem zt_3_98 : (Jvm.Cond.constantLong "FlaghallLaw" (79 : Nat) (-13 : Int64)) ∈ zBG := zin_3 (List.mem_of_getElem? (i := 98) rfl) rfl
theorem zt_3_99 : (Jvm.Cond.methodLink "FlaghallLaw" (159 : Nat) ({ cls := "FlaghallLaw", name := "isHall", desc := "(LFlaghall;[I[I[I[I[J[I[J[J[I[I[I[J[IJI)Z" } : Jvm.MethodName)) ∈ zBG := zin_3 (List.mem_of_getElem? (i := 99) rfl) rfl
theorem zt_3_100 : (Jvm.Cond.static ({ cls := "FlaghallLaw", name := "isHall", desc := "(LFlaghall;[I[I[I[I[J[I[J[J[I[I[I[J[IJI)Z" } : Jvm.MethodName)) ∈ zBG := zin_3 (List.mem_of_getElem? (i := 100) rfl) rfl
theorem zt_3_101 : (Jvm.Cond.code ({ cls := "FlaghallLaw", name := "isHall", desc := "(LFlaghall;[I[I[I[I[J[I[J[J[I[I[I[J[IJI)Z" } : Jvm.MethodName) method_15_code (25 : Nat) (Option.some Jvm.ClassFile.FieldType.boolean)) ∈ zBG := zin_3 (List.mem_of_getElem? (i := 101) rfl) rfl
theorem zt_3_102 : (Jvm.Cond.methodLink "FlaghallLaw" (85 : Nat) ({ cls := "Flaghall", name := "land", desc := "(I)I" } : Jvm.MethodName)) ∈ zBG := zin_3 (List.mem_of_getElem? (i := 102) rfl) rfl
theorem zt_3_103 : (Jvm.Cond.instanceMethod ({ cls := "Flaghall", name := "land", desc := "(I)I" } : Jvm.MethodName)) ∈ zBG := zin_3 (List.mem_of_getElem? (i := 103) rfl) rfl
theorem zt_3_104 : (Jvm.Cond.selects "Flaghall" ({ cls := "Flaghall", name := "land", desc := "(I)I" } : Jvm.MethodName) ({ cls := "Flaghall", name := "land", desc := "(I)I" } : Jvm.MethodName)) ∈ zBG := zin_3 (List.mem_of_getElem? (i := 104) rfl) rfl
theorem zt_3_105 : (Jvm.Cond.code ({ cls := "Flaghall", name := "land", desc := "(I)I" } : Jvm.MethodName) prog_1_method_6_code (2 : Nat) (Option.some Jvm.ClassFile.FieldType.int)) ∈ zBG := zin_3 (List.mem_of_getElem? (i := 105) rfl) rfl
theorem zt_3_106 : (Jvm.Cond.methodLink "FlaghallLaw" (88 : Nat) ({ cls := "Flaghall", name := "got", desc := "(I)J" } : Jvm.MethodName)) ∈ zBG := zin_3 (List.mem_of_getElem? (i := 106) rfl) rfl
theorem zt_3_107 : (Jvm.Cond.instanceMethod ({ cls := "Flaghall", name := "got", desc := "(I)J" } : Jvm.MethodName)) ∈ zBG := zin_3 (List.mem_of_getElem? (i := 107) rfl) rfl
theorem zt_3_108 : (Jvm.Cond.selects "Flaghall" ({ cls := "Flaghall", name := "got", desc := "(I)J" } : Jvm.MethodName) ({ cls := "Flaghall", name := "got", desc := "(I)J" } : Jvm.MethodName)) ∈ zBG := zin_3 (List.mem_of_getElem? (i := 108) rfl) rfl
theorem zt_3_109 : (Jvm.Cond.code ({ cls := "Flaghall", name := "got", desc := "(I)J" } : Jvm.MethodName) prog_1_method_21_code (2 : Nat) (Option.some Jvm.ClassFile.FieldType.long)) ∈ zBG := zin_3 (List.mem_of_getElem? (i := 109) rfl) rfl
theorem zt_3_110 : (Jvm.Cond.constantLong "FlaghallLaw" (92 : Nat) (10 : Int64)) ∈ zBG := zin_3 (List.mem_of_getElem? (i := 110) rfl) rfl
theorem zt_3_111 : (Jvm.Cond.methodLink "FlaghallLaw" (94 : Nat) ({ cls := "Flaghall", name := "flag", desc := "(I)I" } : Jvm.MethodName)) ∈ zBG := zin_3 (List.mem_of_getElem? (i := 111) rfl) rfl
theorem zt_3_112 : (Jvm.Cond.instanceMethod ({ cls := "Flaghall", name := "flag", desc := "(I)I" } : Jvm.MethodName)) ∈ zBG := zin_3 (List.mem_of_getElem? (i := 112) rfl) rfl
theorem zt_3_113 : (Jvm.Cond.selects "Flaghall" ({ cls := "Flaghall", name := "flag", desc := "(I)I" } : Jvm.MethodName) ({ cls := "Flaghall", name := "flag", desc := "(I)I" } : Jvm.MethodName)) ∈ zBG := zin_3 (List.mem_of_getElem? (i := 113) rfl) rfl
theorem zt_3_114 : (Jvm.Cond.code ({ cls := "Flaghall", name := "flag", desc := "(I)I" } : Jvm.MethodName) prog_1_method_18_code (2 : Nat) (Option.some Jvm.ClassFile.FieldType.int)) ∈ zBG := zin_3 (List.mem_of_getElem? (i := 114) rfl) rfl
theorem zt_3_115 : (Jvm.Cond.methodLink "FlaghallLaw" (100 : Nat) ({ cls := "Flaghall", name := "liens", desc := "(I)I" } : Jvm.MethodName)) ∈ zBG := zin_3 (List.mem_of_getElem? (i := 115) rfl) rfl
theorem zt_3_116 : (Jvm.Cond.instanceMethod ({ cls := "Flaghall", name := "liens", desc := "(I)I" } : Jvm.MethodName)) ∈ zBG := zin_3 (List.mem_of_getElem? (i := 116) rfl) rfl
theorem zt_3_117 : (Jvm.Cond.selects "Flaghall" ({ cls := "Flaghall", name := "liens", desc := "(I)I" } : Jvm.MethodName) ({ cls := "Flaghall", name := "liens", desc := "(I)I" } : Jvm.MethodName)) ∈ zBG := zin_3 (List.mem_of_getElem? (i := 117) rfl) rfl
theorem zt_3_118 : (Jvm.Cond.code ({ cls := "Flaghall", name := "liens", desc := "(I)I" } : Jvm.MethodName) prog_1_method_22_code (4 : Nat) (Option.some Jvm.ClassFile.FieldType.int)) ∈ zBG := zin_3 (List.mem_of_getElem? (i := 118) rfl) rfl
theorem zt_3_119 : (Jvm.Cond.methodLink "FlaghallLaw" (103 : Nat) ({ cls := "FlaghallLaw", name := "liens", desc := "([I[J[J[IIJ)I" } : Jvm.MethodName)) ∈ zBG := zin_3 (List.mem_of_getElem? (i := 119) rfl) rfl
theorem zt_3_120 : (Jvm.Cond.static ({ cls := "FlaghallLaw", name := "liens", desc := "([I[J[J[IIJ)I" } : Jvm.MethodName)) ∈ zBG := zin_3 (List.mem_of_getElem? (i := 120) rfl) rfl
theorem zt_3_121 : (Jvm.Cond.code ({ cls := "FlaghallLaw", name := "liens", desc := "([I[J[J[IIJ)I" } : Jvm.MethodName) method_10_code (9 : Nat) (Option.some Jvm.ClassFile.FieldType.int)) ∈ zBG := zin_3 (List.mem_of_getElem? (i := 121) rfl) rfl
theorem zt_3_122 : (Jvm.Cond.methodLink "FlaghallLaw" (106 : Nat) ({ cls := "Flaghall", name := "share", desc := "(II)I" } : Jvm.MethodName)) ∈ zBG := zin_3 (List.mem_of_getElem? (i := 122) rfl) rfl
theorem zt_3_123 : (Jvm.Cond.instanceMethod ({ cls := "Flaghall", name := "share", desc := "(II)I" } : Jvm.MethodName)) ∈ zBG := zin_3 (List.mem_of_getElem? (i := 123) rfl) rfl
theorem zt_3_124 : (Jvm.Cond.selects "Flaghall" ({ cls := "Flaghall", name := "share", desc := "(II)I" } : Jvm.MethodName) ({ cls := "Flaghall", name := "share", desc := "(II)I" } : Jvm.MethodName)) ∈ zBG := zin_3 (List.mem_of_getElem? (i := 124) rfl) rfl
theorem zt_3_125 : (Jvm.Cond.code ({ cls := "Flaghall", name := "share", desc := "(II)I" } : Jvm.MethodName) prog_1_method_16_code (3 : Nat) (Option.some Jvm.ClassFile.FieldType.int)) ∈ zBG := zin_3 (List.mem_of_getElem? (i := 125) rfl) rfl
theorem zt_3_126 : (Jvm.Cond.methodLink "FlaghallLaw" (109 : Nat) ({ cls := "Flaghall", name := "search", desc := "(IJI)I" } : Jvm.MethodName)) ∈ zBG := zin_3 (List.mem_of_getElem? (i := 126) rfl) rfl
theorem zt_3_127 : (Jvm.Cond.instanceMethod ({ cls := "Flaghall", name := "search", desc := "(IJI)I" } : Jvm.MethodName)) ∈ zBG := zin_3 (List.mem_of_getElem? (i := 127) rfl) rfl
theorem zt_3_128 : (Jvm.Cond.selects "Flaghall" ({ cls := "Flaghall", name := "search", desc := "(IJI)I" } : Jvm.MethodName) ({ cls := "Flaghall", name := "search", desc := "(IJI)I" } : Jvm.MethodName)) ∈ zBG := zin_3 (List.mem_of_getElem? (i := 128) rfl) rfl
theorem zt_3_129 : (Jvm.Cond.code ({ cls := "Flaghall", name := "search", desc := "(IJI)I" } : Jvm.MethodName) prog_1_method_20_code (5 : Nat) (Option.some Jvm.ClassFile.FieldType.int)) ∈ zBG := zin_3 (List.mem_of_getElem? (i := 129) rfl) rfl
theorem zt_3_130 : (Jvm.Cond.methodLink "Flaghall" (205 : Nat) ({ cls := "Flaghall", name := "needNotNegative", desc := "(I)V" } : Jvm.MethodName)) ∈ zBG := zin_3 (List.mem_of_getElem? (i := 130) rfl) rfl
theorem zt_3_132 : (Jvm.Cond.instanceMethod ({ cls := "Flaghall", name := "needNotNegative", desc := "(I)V" } : Jvm.MethodName)) ∈ zBG := zin_3 (List.mem_of_getElem? (i := 132) rfl) rfl
theorem zt_3_133 : (Jvm.Cond.code ({ cls := "Flaghall", name := "needNotNegative", desc := "(I)V" } : Jvm.MethodName) prog_1_method_27_code (2 : Nat) (Option.none : Option Jvm.ClassFile.FieldType)) ∈ zBG := zin_3 (List.mem_of_getElem? (i := 133) rfl) rfl
theorem zt_3_138 : (Jvm.Cond.instanceMethod ({ cls := "Flaghall$Book", name := "mortgageOfRank", desc := "(IIJ)I" } : Jvm.MethodName)) ∈ zBG := zin_3 (List.mem_of_getElem? (i := 138) rfl) rfl
theorem zt_3_139 : (Jvm.Cond.code ({ cls := "Flaghall$Book", name := "mortgageOfRank", desc := "(IIJ)I" } : Jvm.MethodName) prog_2_method_12_code (7 : Nat) (Option.some Jvm.ClassFile.FieldType.int)) ∈ zBG := zin_3 (List.mem_of_getElem? (i := 139) rfl) rfl
theorem zt_3_140 : (Jvm.Cond.methodLink "FlaghallLaw" (113 : Nat) ({ cls := "Flaghall", name := "rank", desc := "(I)I" } : Jvm.MethodName)) ∈ zBG := zin_3 (List.mem_of_getElem? (i := 140) rfl) rfl
theorem zt_3_141 : (Jvm.Cond.instanceMethod ({ cls := "Flaghall", name := "rank", desc := "(I)I" } : Jvm.MethodName)) ∈ zBG := zin_3 (List.mem_of_getElem? (i := 141) rfl) rfl
theorem zt_3_142 : (Jvm.Cond.selects "Flaghall" ({ cls := "Flaghall", name := "rank", desc := "(I)I" } : Jvm.MethodName) ({ cls := "Flaghall", name := "rank", desc := "(I)I" } : Jvm.MethodName)) ∈ zBG := zin_3 (List.mem_of_getElem? (i := 142) rfl) rfl
theorem zt_3_143 : (Jvm.Cond.code ({ cls := "Flaghall", name := "rank", desc := "(I)I" } : Jvm.MethodName) prog_1_method_19_code (2 : Nat) (Option.some Jvm.ClassFile.FieldType.int)) ∈ zBG := zin_3 (List.mem_of_getElem? (i := 143) rfl) rfl
theorem zt_3_144 : (Jvm.Cond.constant "FlaghallLaw" (117 : Nat) (2147483647 : Int32)) ∈ zBG := zin_3 (List.mem_of_getElem? (i := 144) rfl) rfl
theorem zt_3_145 : (Jvm.Cond.constant "FlaghallLaw" (118 : Nat) (45211 : Int32)) ∈ zBG := zin_3 (List.mem_of_getElem? (i := 145) rfl) rfl
theorem zt_3_146 : (Jvm.Cond.constantLong "FlaghallLaw" (130 : Nat) (32 : Int64)) ∈ zBG := zin_3 (List.mem_of_getElem? (i := 146) rfl) rfl
theorem zt_3_147 : (Jvm.Cond.constantLong "FlaghallLaw" (142 : Nat) (20160 : Int64)) ∈ zBG := zin_3 (List.mem_of_getElem? (i := 147) rfl) rfl
theorem zt_3_148 : (Jvm.Cond.constant "FlaghallLaw" (155 : Nat) (200000 : Int32)) ∈ zBG := zin_3 (List.mem_of_getElem? (i := 148) rfl) rfl
theorem zt_3_149 : (Jvm.Cond.arrayClass Jvm.ClassFile.FieldType.long) ∈ zBG := zin_3 (List.mem_of_getElem? (i := 149) rfl) rfl
