theorem zni_0 : (Cond.fieldLinkNest RX6 113 "Flaghall$Ship" "shares" "[I" "Flaghall" : Cond) ∈ lw_tbl := List.mem_append_right _ (List.mem_append_left _ (List.mem_of_getElem? (i := 165) rfl))
theorem zni_1 : (Cond.fieldLinkNest RX6 132 "Flaghall$Ship" "flown" "I" "Flaghall" : Cond) ∈ lw_tbl := List.mem_append_right _ (List.mem_append_left _ (List.mem_of_getElem? (i := 168) rfl))
theorem zni_2 : (Cond.fieldLinkNest RX6 137 "Flaghall$Ship" "graceFrom" "J" "Flaghall" : Cond) ∈ lw_tbl := List.mem_append_right _ (List.mem_append_left _ (List.mem_of_getElem? (i := 170) rfl))
theorem zni_3 : (Cond.fieldLinkNest RX6 153 "Flaghall$Book" "paperCount" "I" "Flaghall" : Cond) ∈ lw_tbl := List.mem_append_right _ (List.mem_append_left _ (List.mem_of_getElem? (i := 118) rfl))
theorem zni_4 : (Cond.fieldLinkNest RX6 181 "Flaghall$Paper" "lienClass" "I" "Flaghall" : Cond) ∈ lw_tbl := List.mem_append_right _ (List.mem_append_left _ (List.mem_of_getElem? (i := 57) rfl))
theorem zni_5 : (Cond.fieldLinkNest RX6 186 "Flaghall$Paper" "amount" "I" "Flaghall" : Cond) ∈ lw_tbl := List.mem_append_right _ (List.mem_append_left _ (List.mem_of_getElem? (i := 55) rfl))
theorem zni_6 : (Cond.fieldLinkNest RX6 220 "Flaghall$Party" "received" "J" "Flaghall" : Cond) ∈ lw_tbl := List.mem_append_right _ (List.mem_append_left _ (List.mem_of_getElem? (i := 144) rfl))
theorem zni_7 : (Cond.fieldLinkNest RX6 227 "Flaghall$Book" "papers" "[LFlaghall$Paper;" "Flaghall" : Cond) ∈ lw_tbl := List.mem_append_right _ (List.mem_append_left _ (List.mem_of_getElem? (i := 112) rfl))
theorem zni_8 : (Cond.fieldLinkNest RX6 247 "Flaghall$Book" "mortgageCount" "I" "Flaghall" : Cond) ∈ lw_tbl := List.mem_append_right _ (List.mem_append_left _ (List.mem_of_getElem? (i := 120) rfl))
theorem zni_9 : (Cond.fieldLinkNest RX6 264 "Flaghall$Party" "nextHome" "I" "Flaghall" : Cond) ∈ lw_tbl := List.mem_append_right _ (List.mem_append_left _ (List.mem_of_getElem? (i := 143) rfl))
theorem zni_10 : (Cond.fieldLinkNest RX6 273 "Flaghall$Paper" "party" "I" "Flaghall" : Cond) ∈ lw_tbl := List.mem_append_right _ (List.mem_append_left _ (List.mem_of_getElem? (i := 52) rfl))
theorem zni_11 : (Cond.fieldLinkNest RX6 289 "Flaghall$Book" "standing" "[I" "Flaghall" : Cond) ∈ lw_tbl := List.mem_append_right _ (List.mem_append_left _ (List.mem_of_getElem? (i := 116) rfl))
theorem zni_12 : (Cond.fieldLinkNest RX6 292 "Flaghall$Book" "mortgages" "[LFlaghall$Mortgage;" "Flaghall" : Cond) ∈ lw_tbl := List.mem_append_right _ (List.mem_append_left _ (List.mem_of_getElem? (i := 114) rfl))
theorem zni_13 : (Cond.fieldLinkNest RX6 296 "Flaghall$Mortgage" "party" "I" "Flaghall" : Cond) ∈ lw_tbl := List.mem_append_right _ (List.mem_append_left _ (List.mem_of_getElem? (i := 93) rfl))
theorem zni_14 : (Cond.fieldLinkNest RX6 299 "Flaghall$Mortgage" "amount" "I" "Flaghall" : Cond) ∈ lw_tbl := List.mem_append_right _ (List.mem_append_left _ (List.mem_of_getElem? (i := 95) rfl))
theorem zni_15 : (Cond.fieldLinkNest RX6 69 "Flaghall$Party" "parts" "[I" "Flaghall" : Cond) ∈ lw_tbl := List.mem_append_right _ (List.mem_append_left _ (List.mem_of_getElem? (i := 138) rfl))
theorem zni_16 : (Cond.fieldLinkNest RX6 72 "Flaghall$Party" "isCompany" "Z" "Flaghall" : Cond) ∈ lw_tbl := List.mem_append_right _ (List.mem_append_left _ (List.mem_of_getElem? (i := 139) rfl))
theorem zni_17 : (Cond.fieldLinkNest RX6 92 "Flaghall$Party" "home" "I" "Flaghall" : Cond) ∈ lw_tbl := List.mem_append_right _ (List.mem_append_left _ (List.mem_of_getElem? (i := 141) rfl))
theorem zni_18 : (Cond.fieldLinkNest RX0 36 "Flaghall$Paper" "kind" "LFlaghall$Kind;" "Flaghall" : Cond) ∈ lw_tbl := List.mem_append_right _ (List.mem_append_left _ (List.mem_of_getElem? (i := 47) rfl))
theorem zni_19 : (Cond.fieldLinkNest RX0 40 "Flaghall$Paper" "ship" "I" "Flaghall" : Cond) ∈ lw_tbl := List.mem_append_right _ (List.mem_append_left _ (List.mem_of_getElem? (i := 49) rfl))
theorem zni_20 : (Cond.fieldLinkNest RX0 43 "Flaghall$Paper" "party" "I" "Flaghall" : Cond) ∈ lw_tbl := List.mem_append_right _ (List.mem_append_left _ (List.mem_of_getElem? (i := 51) rfl))
theorem zni_21 : (Cond.fieldLinkNest RX0 46 "Flaghall$Paper" "minute" "J" "Flaghall" : Cond) ∈ lw_tbl := List.mem_append_right _ (List.mem_append_left _ (List.mem_of_getElem? (i := 54) rfl))
theorem zni_22 : (Cond.fieldLinkNest RX0 50 "Flaghall$Mortgage" "ship" "I" "Flaghall" : Cond) ∈ lw_tbl := List.mem_append_right _ (List.mem_append_left _ (List.mem_of_getElem? (i := 90) rfl))
theorem zni_23 : (Cond.fieldLinkNest RX0 51 "Flaghall$Mortgage" "party" "I" "Flaghall" : Cond) ∈ lw_tbl := List.mem_append_right _ (List.mem_append_left _ (List.mem_of_getElem? (i := 92) rfl))
theorem zni_24 : (Cond.fieldLinkNest RX0 52 "Flaghall$Mortgage" "amount" "I" "Flaghall" : Cond) ∈ lw_tbl := List.mem_append_right _ (List.mem_append_left _ (List.mem_of_getElem? (i := 94) rfl))
theorem zni_25 : (Cond.fieldLinkNest RX0 59 "Flaghall$Mortgage" "place" "I" "Flaghall" : Cond) ∈ lw_tbl := List.mem_append_right _ (List.mem_append_left _ (List.mem_of_getElem? (i := 97) rfl))
theorem zni_26 : (Cond.fieldLinkNest RX0 62 "Flaghall$Mortgage" "row" "I" "Flaghall" : Cond) ∈ lw_tbl := List.mem_append_right _ (List.mem_append_left _ (List.mem_of_getElem? (i := 99) rfl))
theorem zni_27 : (Cond.fieldLinkNest RX0 74 "Flaghall$Paper" "mortgage" "I" "Flaghall" : Cond) ∈ lw_tbl := List.mem_append_right _ (List.mem_append_left _ (List.mem_of_getElem? (i := 59) rfl))
theorem zni_28 : (Cond.fieldLinkNest RX0 77 "Flaghall$Paper" "place" "I" "Flaghall" : Cond) ∈ lw_tbl := List.mem_append_right _ (List.mem_append_left _ (List.mem_of_getElem? (i := 61) rfl))
theorem zni_29 : (Cond.fieldLinkNest RX0 92 "Flaghall$Paper" "isPlaceTaken" "Z" "Flaghall" : Cond) ∈ lw_tbl := List.mem_append_right _ (List.mem_append_left _ (List.mem_of_getElem? (i := 63) rfl))
theorem zni_30 : (Cond.methodLinkNest RX6 101 yX5_soundsLike "Flaghall" : Cond) ∈ lw_tbl := List.mem_append_right _ (List.mem_append_right _ (List.mem_append_right _ (List.mem_of_getElem? (i := 19) rfl)))
theorem zni_31 : (Cond.methodLinkNest RX6 105 yX5_handTo "Flaghall" : Cond) ∈ lw_tbl := List.mem_append_right _ (List.mem_append_right _ (List.mem_append_left _ (List.mem_of_getElem? (i := 197) rfl)))
theorem zni_32 : (Cond.methodLinkNest RX6 128 yX5_flagAt "Flaghall" : Cond) ∈ lw_tbl := List.mem_append_right _ (List.mem_append_right _ (List.mem_append_right _ (List.mem_of_getElem? (i := 44) rfl)))
theorem zni_33 : (Cond.methodLinkNest RX6 149 yX0_enter "Flaghall" : Cond) ∈ lw_tbl := List.mem_append_right _ (List.mem_append_right _ (List.mem_append_left _ (List.mem_of_getElem? (i := 94) rfl)))
theorem zni_34 : (Cond.methodLinkNest RX6 157 yX0_enterMortgage "Flaghall" : Cond) ∈ lw_tbl := List.mem_append_right _ (List.mem_append_right _ (List.mem_append_left _ (List.mem_of_getElem? (i := 123) rfl)))
theorem zni_35 : (Cond.methodLinkNest RX6 164 yX0_rankOf "Flaghall" : Cond) ∈ lw_tbl := List.mem_append_right _ (List.mem_append_right _ (List.mem_append_right _ (List.mem_of_getElem? (i := 74) rfl)))
theorem zni_36 : (Cond.methodLinkNest RX6 168 yX0_isOver "Flaghall" : Cond) ∈ lw_tbl := List.mem_append_right _ (List.mem_append_right _ (List.mem_append_right _ (List.mem_of_getElem? (i := 79) rfl)))
theorem zni_37 : (Cond.methodLinkNest RX6 174 yX0_enterDischarge "Flaghall" : Cond) ∈ lw_tbl := List.mem_append_right _ (List.mem_append_right _ (List.mem_append_right _ (List.mem_of_getElem? (i := 84) rfl)))
theorem zni_38 : (Cond.methodLinkNest RX6 216 yX0_mortgageOfRank "Flaghall" : Cond) ∈ lw_tbl := List.mem_append_right _ (List.mem_append_right _ (List.mem_append_right _ (List.mem_of_getElem? (i := 136) rfl)))
theorem zni_39 : (Cond.methodLinkNest RX6 223 yX0_firstOpenRow "Flaghall" : Cond) ∈ lw_tbl := List.mem_append_right _ (List.mem_append_right _ (List.mem_append_left _ (List.mem_of_getElem? (i := 160) rfl)))
theorem zni_40 : (Cond.methodLinkNest RX6 23 yX0_init "Flaghall" : Cond) ∈ lw_tbl := List.mem_append_right _ (List.mem_append_left _ (List.mem_of_getElem? (i := 31) rfl))
theorem zni_41 : (Cond.methodLinkNest RX6 231 yX3_isLienOn "Flaghall" : Cond) ∈ lw_tbl := List.mem_append_right _ (List.mem_append_right _ (List.mem_append_left _ (List.mem_of_getElem? (i := 161) rfl)))
theorem zni_42 : (Cond.methodLinkNest RX6 256 yX0_isFull "Flaghall" : Cond) ∈ lw_tbl := List.mem_append_right _ (List.mem_append_right _ (List.mem_append_left _ (List.mem_of_getElem? (i := 88) rfl)))
theorem zni_43 : (Cond.methodLinkNest RX6 285 yX0_readUpTo "Flaghall" : Cond) ∈ lw_tbl := List.mem_append_right _ (List.mem_append_right _ (List.mem_append_left _ (List.mem_of_getElem? (i := 178) rfl)))
theorem zni_44 : (Cond.methodLinkNest RX6 36 yX4_init "Flaghall" : Cond) ∈ lw_tbl := List.mem_append_right _ (List.mem_append_left _ (List.mem_of_getElem? (i := 133) rfl))
theorem zni_45 : (Cond.methodLinkNest RX6 37 yX5_init "Flaghall" : Cond) ∈ lw_tbl := List.mem_append_right _ (List.mem_append_left _ (List.mem_of_getElem? (i := 158) rfl))
theorem zni_46 : (Cond.methodLinkNest RX6 76 yX4_partsOfParties "Flaghall" : Cond) ∈ lw_tbl := List.mem_append_right _ (List.mem_append_right _ (List.mem_append_right _ (List.mem_of_getElem? (i := 53) rfl)))
theorem zni_47 : (Cond.methodLinkNest RX6 97 yX5_takeName "Flaghall" : Cond) ∈ lw_tbl := List.mem_append_right _ (List.mem_append_right _ (List.mem_append_right _ (List.mem_of_getElem? (i := 11) rfl)))
theorem zni_48 : (Cond.methodLinkNest RX0 27 yX3_init "Flaghall" : Cond) ∈ lw_tbl := List.mem_append_right _ (List.mem_append_left _ (List.mem_of_getElem? (i := 40) rfl))
theorem zni_49 : (Cond.methodLinkNest RX0 28 yX2_init "Flaghall" : Cond) ∈ lw_tbl := List.mem_append_right _ (List.mem_append_left _ (List.mem_of_getElem? (i := 85) rfl))
theorem zni_50 : (Cond.methodLinkNest RX0 88 yX3_holdsPlaceFor "Flaghall" : Cond) ∈ lw_tbl := List.mem_append_right _ (List.mem_append_right _ (List.mem_append_left _ (List.mem_of_getElem? (i := 137) rfl)))
theorem zni_51 : (Cond.castable "java/lang/IllegalArgumentException" "java/lang/IllegalArgumentException" : Cond) ∈ lw_tbl := List.mem_append_right _ (List.mem_append_right _ (List.mem_append_left _ (List.mem_of_getElem? (i := 109) rfl)))
theorem zni_52 : (Cond.castable "java/lang/IllegalStateException" "java/lang/IllegalStateException" : Cond) ∈ lw_tbl := List.mem_append_right _ (List.mem_append_right _ (List.mem_append_left _ (List.mem_of_getElem? (i := 52) rfl)))
theorem zni_53 : (Cond.castable "java/lang/IndexOutOfBoundsException" "java/lang/IndexOutOfBoundsException" : Cond) ∈ lw_tbl := List.mem_append_right _ (List.mem_append_left _ (List.mem_of_getElem? (i := 220) rfl))
theorem zni_54 : (Cond.declares ⟨"java/lang/Exception", "<init>", "()V"⟩ : Cond) ∈ lw_tbl := List.mem_append_right _ (List.mem_append_left _ (List.mem_of_getElem? (i := 223) rfl))
theorem zni_55 : (Cond.declares ⟨"java/lang/Exception", "<init>", "(Ljava/lang/String;)V"⟩ : Cond) ∈ lw_tbl := List.mem_append_right _ (List.mem_append_left _ (List.mem_of_getElem? (i := 224) rfl))
theorem zni_56 : (Cond.declares ⟨"java/lang/RuntimeException", "<init>", "()V"⟩ : Cond) ∈ lw_tbl := List.mem_append_right _ (List.mem_append_left _ (List.mem_of_getElem? (i := 221) rfl))
theorem zni_57 : (Cond.declares ⟨"java/lang/RuntimeException", "<init>", "(Ljava/lang/String;)V"⟩ : Cond) ∈ lw_tbl := List.mem_append_right _ (List.mem_append_left _ (List.mem_of_getElem? (i := 222) rfl))
theorem zni_58 : (Cond.declares ⟨"java/lang/Throwable", "<init>", "()V"⟩ : Cond) ∈ lw_tbl := List.mem_append_right _ (List.mem_append_left _ (List.mem_of_getElem? (i := 225) rfl))
theorem zni_59 : (Cond.declares ⟨"java/lang/Throwable", "<init>", "(Ljava/lang/String;)V"⟩ : Cond) ∈ lw_tbl := List.mem_append_right _ (List.mem_append_left _ (List.mem_of_getElem? (i := 226) rfl))
theorem znw_in : ∀ w ∈ znw, w ∈ lw_tbl := List.forall_mem_cons.mpr ⟨zni_0, List.forall_mem_cons.mpr ⟨zni_1, List.forall_mem_cons.mpr ⟨zni_2, List.forall_mem_cons.mpr ⟨zni_3, List.forall_mem_cons.mpr ⟨zni_4, List.forall_mem_cons.mpr ⟨zni_5, List.forall_mem_cons.mpr ⟨zni_6, List.forall_mem_cons.mpr ⟨zni_7, List.forall_mem_cons.mpr ⟨zni_8, List.forall_mem_cons.mpr ⟨zni_9, List.forall_mem_cons.mpr ⟨zni_10, List.forall_mem_cons.mpr ⟨zni_11, List.forall_mem_cons.mpr ⟨zni_12, List.forall_mem_cons.mpr ⟨zni_13, List.forall_mem_cons.mpr ⟨zni_14, List.forall_mem_cons.mpr ⟨zni_15, List.forall_mem_cons.mpr ⟨zni_16, List.forall_mem_cons.mpr ⟨zni_17, List.forall_mem_cons.mpr ⟨zni_18, List.forall_mem_cons.mpr ⟨zni_19, List.forall_mem_cons.mpr ⟨zni_20, List.forall_mem_cons.mpr ⟨zni_21, List.forall_mem_cons.mpr ⟨zni_22, List.forall_mem_cons.mpr ⟨zni_23, List.forall_mem_cons.mpr ⟨zni_24, List.forall_mem_cons.mpr ⟨zni_25, List.forall_mem_cons.mpr ⟨zni_26, List.forall_mem_cons.mpr ⟨zni_27, List.forall_mem_cons.mpr ⟨zni_28, List.forall_mem_cons.mpr ⟨zni_29, List.forall_mem_cons.mpr ⟨zni_30, List.forall_mem_cons.mpr ⟨zni_31, List.forall_mem_cons.mpr ⟨zni_32, List.forall_mem_cons.mpr ⟨zni_33, List.forall_mem_cons.mpr ⟨zni_34, List.forall_mem_cons.mpr ⟨zni_35, List.forall_mem_cons.mpr ⟨zni_36, List.forall_mem_cons.mpr ⟨zni_37, List.forall_mem_cons.mpr ⟨zni_38, List.forall_mem_cons.mpr ⟨zni_39, List.forall_mem_cons.mpr ⟨zni_40, List.forall_mem_cons.mpr ⟨zni_41, List.forall_mem_cons.mpr ⟨zni_42, List.forall_mem_cons.mpr ⟨zni_43, List.forall_mem_cons.mpr ⟨zni_44, List.forall_mem_cons.mpr ⟨zni_45, List.forall_mem_cons.mpr ⟨zni_46, List.forall_mem_cons.mpr ⟨zni_47, List.forall_mem_cons.mpr ⟨zni_48, List.forall_mem_cons.mpr ⟨zni_49, List.forall_mem_cons.mpr ⟨zni_50, List.forall_mem_cons.mpr ⟨zni_51, List.forall_mem_cons.mpr ⟨zni_52, List.forall_mem_cons.mpr ⟨zni_53, List.forall_mem_cons.mpr ⟨zni_54, List.forall_mem_cons.mpr ⟨zni_55, List.forall_mem_cons.mpr ⟨zni_56, List.forall_mem_cons.mpr ⟨zni_57, List.forall_mem_cons.mpr ⟨zni_58, List.forall_mem_cons.mpr ⟨zni_59, fun _ h => absurd h List.not_mem_nil⟩⟩⟩⟩⟩⟩⟩⟩⟩⟩⟩⟩⟩⟩⟩⟩⟩⟩⟩⟩⟩⟩⟩⟩⟩⟩⟩⟩⟩⟩⟩⟩⟩⟩⟩⟩⟩⟩⟩⟩⟩⟩⟩⟩⟩⟩⟩⟩⟩⟩⟩⟩⟩⟩⟩⟩⟩⟩⟩⟩
theorem znw_t : znw.all Cond.onTables = true := by decide +kernel
def zeN : List String := ["NOTICE", "MORTGAGE", "DISCHARGE", "RESTORING", "LIEN", "COURT"]
theorem zarr {s : State} {c : ClassId} {k : Class} {comp : ClassId} {ty : FieldType} (h2 : s.vm.classes[c]? = some k) (h3 : k.kind = .array comp ty) : ArrOfT s c ty := fun n z => ⟨fun k h => (by cases h), k, h2, comp, h3⟩
set_option maxHeartbeats 4000000 in
set_option maxRecDepth 100000 in
theorem zenv {s : State} {args : Array Value} (hts : ∀ w ∈ lw_tbl, w.before args s = true) (hgv : (Jvm.Cond.and given_1 narrow_1).before args s = true) : ∃ E : zE, zEnv E (fun q : Nat => s.heap.size ≤ q) s ∧ (∀ C ∈ zaoL, va_AO C s) ∧ zN E = 182 := by
  have hs := flat_of_before _ hgv
  have hg : ∀ w ∈ zBG, w.before args s = true := fun w hw => hts w (zBG_in hw)
  have hA : ∀ a : Nat, a < s.heap.size → ¬ (fun q : Nat => s.heap.size ≤ q) a := fun a h1 h2 => Nat.not_le.mpr h1 h2
  obtain ⟨c0, i0, hK0⟩ := u_known (C := RX0) (T := TX0) (N := 5) (n := 5) hg zu_0 (hg _ zt_1_30)
  obtain ⟨c1, i1, hK1⟩ := u_known (C := RX2) (T := TX2) (N := 5) (n := 5) hg zu_2 (hg _ zt_1_84)
  obtain ⟨c2, i2, hK2⟩ := u_known (C := RX3) (T := TX3) (N := 9) (n := 9) hg zu_3 (hg _ zt_1_39)
  obtain ⟨c3, i3, hK3⟩ := u_known (C := RX4) (T := TX4) (N := 5) (n := 5) hg zu_4 (hg _ zt_1_132)
  obtain ⟨c4, i4, hK4⟩ := u_known (C := RX5) (T := TX5) (N := 5) (n := 5) hg zu_5 (hg _ zt_1_157)
  obtain ⟨c5, i5, hK5⟩ := u_known (C := RX6) (T := TX6) (N := 9) (n := 9) hg zu_6 (hg _ zt_1_18)
  obtain ⟨dC, dI, hKc⟩ : ∃ (dC : Nat → ClassId) (dI : Nat → Nat → Nat), ∀ (k : Nat) (q : vw_C), vwCl[k]? = some q → u_Kn s q.1 q.2.1 q.2.2 (dC k) (dI k) := by
    refine ⟨fun k => if k = 0 then c0 else if k = 1 then c1 else if k = 2 then c2 else if k = 3 then c3 else if k = 4 then c4 else c5, fun k => if k = 0 then i0 else if k = 1 then i1 else if k = 2 then i2 else if k = 3 then i3 else if k = 4 then i4 else i5, ?_⟩
    intro k q hq
    match k, hq with
    | 0, hq => cases hq; exact hK0
    | 1, hq => cases hq; exact hK1
    | 2, hq => cases hq; exact hK2
    | 3, hq => cases hq; exact hK3
    | 4, hq => cases hq; exact hK4
    | 5, hq => cases hq; exact hK5
    | k + 6, hq => simp [vwCl] at hq
  obtain ⟨y7, k7, o7, f7, g7, e7⟩ := Cond.arrayClass_spec (hg _ zt_1_156)
  obtain ⟨y8, k8, o8, f8, g8, e8⟩ := Cond.arrayClass_spec (hg _ zt_1_83)
  obtain ⟨y9, k9, o9, f9, g9, e9⟩ := Cond.arrayClass_spec (hg _ zt_3_149)
  have a11 : va_AO "Flaghall$Mortgage" s := hts _ (List.mem_append_right _ (List.mem_append_left _ (List.mem_of_getElem? (i := 38) rfl)))
  obtain ⟨o11, y11, k11, f11, -, g11, e11, n11⟩ := Cond.arrayOver_spec a11
  have a12 : va_AO "Flaghall$Paper" s := hts _ (List.mem_append_right _ (List.mem_append_left _ (List.mem_of_getElem? (i := 36) rfl)))
  obtain ⟨o12, y12, k12, f12, -, g12, e12, n12⟩ := Cond.arrayOver_spec a12
  have a13 : va_AO "Flaghall$Party" s := hts _ (List.mem_append_right _ (List.mem_append_left _ (List.mem_of_getElem? (i := 26) rfl)))
  obtain ⟨o13, y13, k13, f13, -, g13, e13, n13⟩ := Cond.arrayOver_spec a13
  have a14 : va_AO "Flaghall$Ship" s := hts _ (List.mem_append_right _ (List.mem_append_left _ (List.mem_of_getElem? (i := 28) rfl)))
  obtain ⟨o14, y14, k14, f14, -, g14, e14, n14⟩ := Cond.arrayOver_spec a14
  obtain ⟨en, hen⟩ := va_Enof (args := args) (s := s) (E := RX1) (d := "LFlaghall$Kind;") (nm := zeN) (F := []) (A := fun q : Nat => s.heap.size ≤ q)
    (fun i hi => by
    match i, hi with
    | 0, _ => exact hts _ (List.mem_append_right _ (List.mem_append_left _ (List.mem_of_getElem? (i := 45) rfl)))
    | 1, _ => exact hts _ (List.mem_append_right _ (List.mem_append_right _ (List.mem_append_left _ (List.mem_of_getElem? (i := 143) rfl))))
    | 2, _ => exact hts _ (List.mem_append_right _ (List.mem_append_right _ (List.mem_append_left _ (List.mem_of_getElem? (i := 190) rfl))))
    | 3, _ => exact hts _ (List.mem_append_right _ (List.mem_append_right _ (List.mem_append_right _ (List.mem_of_getElem? (i := 89) rfl))))
    | 4, _ => exact hts _ (List.mem_append_right _ (List.mem_append_right _ (List.mem_append_left _ (List.mem_of_getElem? (i := 150) rfl))))
    | 5, _ => exact hts _ (List.mem_append_right _ (List.mem_append_right _ (List.mem_append_left _ (List.mem_of_getElem? (i := 136) rfl))))
    | k + 6, hi => exact absurd hi (by show ¬ k + 6 < 6; omega))
    (hg _ zt_1_5)
    (fun i hi => by
    match i, hi with
    | 0, _ => exact hs (Cond.exactly (.static "Flaghall$Kind" "NOTICE" "LFlaghall$Kind;") "Flaghall$Kind") (by decide +kernel)
    | 1, _ => exact hs (Cond.exactly (.static "Flaghall$Kind" "MORTGAGE" "LFlaghall$Kind;") "Flaghall$Kind") (by decide +kernel)
    | 2, _ => exact hs (Cond.exactly (.static "Flaghall$Kind" "DISCHARGE" "LFlaghall$Kind;") "Flaghall$Kind") (by decide +kernel)
    | 3, _ => exact hs (Cond.exactly (.static "Flaghall$Kind" "RESTORING" "LFlaghall$Kind;") "Flaghall$Kind") (by decide +kernel)
    | 4, _ => exact hs (Cond.exactly (.static "Flaghall$Kind" "LIEN" "LFlaghall$Kind;") "Flaghall$Kind") (by decide +kernel)
    | 5, _ => exact hs (Cond.exactly (.static "Flaghall$Kind" "COURT" "LFlaghall$Kind;") "Flaghall$Kind") (by decide +kernel)
    | k + 6, hi => exact absurd hi (by show ¬ k + 6 < 6; omega))
    (fun q hq => absurd hq List.not_mem_nil)
    (fun i j hi hj hij => by
      have h6 : i < 6 := hi
      have h7 : j < 6 := hj
      match i, j, h6, h7 with
      | 0, 0, _, _ => exact absurd rfl hij
      | 0, 1, _, _ => exact Or.inl (hs (Cond.not (.eq (.static "Flaghall$Kind" "NOTICE" "LFlaghall$Kind;") (.static "Flaghall$Kind" "MORTGAGE" "LFlaghall$Kind;"))) (by decide +kernel))
      | 0, 2, _, _ => exact Or.inl (hs (Cond.not (.eq (.static "Flaghall$Kind" "NOTICE" "LFlaghall$Kind;") (.static "Flaghall$Kind" "DISCHARGE" "LFlaghall$Kind;"))) (by decide +kernel))
      | 0, 3, _, _ => exact Or.inl (hs (Cond.not (.eq (.static "Flaghall$Kind" "NOTICE" "LFlaghall$Kind;") (.static "Flaghall$Kind" "RESTORING" "LFlaghall$Kind;"))) (by decide +kernel))
      | 0, 4, _, _ => exact Or.inl (hs (Cond.not (.eq (.static "Flaghall$Kind" "NOTICE" "LFlaghall$Kind;") (.static "Flaghall$Kind" "LIEN" "LFlaghall$Kind;"))) (by decide +kernel))
      | 0, 5, _, _ => exact Or.inl (hs (Cond.not (.eq (.static "Flaghall$Kind" "NOTICE" "LFlaghall$Kind;") (.static "Flaghall$Kind" "COURT" "LFlaghall$Kind;"))) (by decide +kernel))
      | 1, 0, _, _ => exact Or.inr (hs (Cond.not (.eq (.static "Flaghall$Kind" "NOTICE" "LFlaghall$Kind;") (.static "Flaghall$Kind" "MORTGAGE" "LFlaghall$Kind;"))) (by decide +kernel))
      | 1, 1, _, _ => exact absurd rfl hij
      | 1, 2, _, _ => exact Or.inl (hs (Cond.not (.eq (.static "Flaghall$Kind" "MORTGAGE" "LFlaghall$Kind;") (.static "Flaghall$Kind" "DISCHARGE" "LFlaghall$Kind;"))) (by decide +kernel))
      | 1, 3, _, _ => exact Or.inl (hs (Cond.not (.eq (.static "Flaghall$Kind" "MORTGAGE" "LFlaghall$Kind;") (.static "Flaghall$Kind" "RESTORING" "LFlaghall$Kind;"))) (by decide +kernel))
      | 1, 4, _, _ => exact Or.inl (hs (Cond.not (.eq (.static "Flaghall$Kind" "MORTGAGE" "LFlaghall$Kind;") (.static "Flaghall$Kind" "LIEN" "LFlaghall$Kind;"))) (by decide +kernel))
      | 1, 5, _, _ => exact Or.inr (hs (Cond.not (.eq (.static "Flaghall$Kind" "COURT" "LFlaghall$Kind;") (.static "Flaghall$Kind" "MORTGAGE" "LFlaghall$Kind;"))) (by decide +kernel))
      | 2, 0, _, _ => exact Or.inr (hs (Cond.not (.eq (.static "Flaghall$Kind" "NOTICE" "LFlaghall$Kind;") (.static "Flaghall$Kind" "DISCHARGE" "LFlaghall$Kind;"))) (by decide +kernel))
      | 2, 1, _, _ => exact Or.inr (hs (Cond.not (.eq (.static "Flaghall$Kind" "MORTGAGE" "LFlaghall$Kind;") (.static "Flaghall$Kind" "DISCHARGE" "LFlaghall$Kind;"))) (by decide +kernel))
      | 2, 2, _, _ => exact absurd rfl hij
      | 2, 3, _, _ => exact Or.inl (hs (Cond.not (.eq (.static "Flaghall$Kind" "DISCHARGE" "LFlaghall$Kind;") (.static "Flaghall$Kind" "RESTORING" "LFlaghall$Kind;"))) (by decide +kernel))
      | 2, 4, _, _ => exact Or.inr (hs (Cond.not (.eq (.static "Flaghall$Kind" "LIEN" "LFlaghall$Kind;") (.static "Flaghall$Kind" "DISCHARGE" "LFlaghall$Kind;"))) (by decide +kernel))
      | 2, 5, _, _ => exact Or.inr (hs (Cond.not (.eq (.static "Flaghall$Kind" "COURT" "LFlaghall$Kind;") (.static "Flaghall$Kind" "DISCHARGE" "LFlaghall$Kind;"))) (by decide +kernel))
      | 3, 0, _, _ => exact Or.inr (hs (Cond.not (.eq (.static "Flaghall$Kind" "NOTICE" "LFlaghall$Kind;") (.static "Flaghall$Kind" "RESTORING" "LFlaghall$Kind;"))) (by decide +kernel))
      | 3, 1, _, _ => exact Or.inr (hs (Cond.not (.eq (.static "Flaghall$Kind" "MORTGAGE" "LFlaghall$Kind;") (.static "Flaghall$Kind" "RESTORING" "LFlaghall$Kind;"))) (by decide +kernel))
      | 3, 2, _, _ => exact Or.inr (hs (Cond.not (.eq (.static "Flaghall$Kind" "DISCHARGE" "LFlaghall$Kind;") (.static "Flaghall$Kind" "RESTORING" "LFlaghall$Kind;"))) (by decide +kernel))
      | 3, 3, _, _ => exact absurd rfl hij
      | 3, 4, _, _ => exact Or.inr (hs (Cond.not (.eq (.static "Flaghall$Kind" "LIEN" "LFlaghall$Kind;") (.static "Flaghall$Kind" "RESTORING" "LFlaghall$Kind;"))) (by decide +kernel))
      | 3, 5, _, _ => exact Or.inr (hs (Cond.not (.eq (.static "Flaghall$Kind" "COURT" "LFlaghall$Kind;") (.static "Flaghall$Kind" "RESTORING" "LFlaghall$Kind;"))) (by decide +kernel))
      | 4, 0, _, _ => exact Or.inr (hs (Cond.not (.eq (.static "Flaghall$Kind" "NOTICE" "LFlaghall$Kind;") (.static "Flaghall$Kind" "LIEN" "LFlaghall$Kind;"))) (by decide +kernel))
      | 4, 1, _, _ => exact Or.inr (hs (Cond.not (.eq (.static "Flaghall$Kind" "MORTGAGE" "LFlaghall$Kind;") (.static "Flaghall$Kind" "LIEN" "LFlaghall$Kind;"))) (by decide +kernel))
      | 4, 2, _, _ => exact Or.inl (hs (Cond.not (.eq (.static "Flaghall$Kind" "LIEN" "LFlaghall$Kind;") (.static "Flaghall$Kind" "DISCHARGE" "LFlaghall$Kind;"))) (by decide +kernel))
      | 4, 3, _, _ => exact Or.inl (hs (Cond.not (.eq (.static "Flaghall$Kind" "LIEN" "LFlaghall$Kind;") (.static "Flaghall$Kind" "RESTORING" "LFlaghall$Kind;"))) (by decide +kernel))
      | 4, 4, _, _ => exact absurd rfl hij
      | 4, 5, _, _ => exact Or.inr (hs (Cond.not (.eq (.static "Flaghall$Kind" "COURT" "LFlaghall$Kind;") (.static "Flaghall$Kind" "LIEN" "LFlaghall$Kind;"))) (by decide +kernel))
      | 5, 0, _, _ => exact Or.inr (hs (Cond.not (.eq (.static "Flaghall$Kind" "NOTICE" "LFlaghall$Kind;") (.static "Flaghall$Kind" "COURT" "LFlaghall$Kind;"))) (by decide +kernel))
      | 5, 1, _, _ => exact Or.inl (hs (Cond.not (.eq (.static "Flaghall$Kind" "COURT" "LFlaghall$Kind;") (.static "Flaghall$Kind" "MORTGAGE" "LFlaghall$Kind;"))) (by decide +kernel))
      | 5, 2, _, _ => exact Or.inl (hs (Cond.not (.eq (.static "Flaghall$Kind" "COURT" "LFlaghall$Kind;") (.static "Flaghall$Kind" "DISCHARGE" "LFlaghall$Kind;"))) (by decide +kernel))
      | 5, 3, _, _ => exact Or.inl (hs (Cond.not (.eq (.static "Flaghall$Kind" "COURT" "LFlaghall$Kind;") (.static "Flaghall$Kind" "RESTORING" "LFlaghall$Kind;"))) (by decide +kernel))
      | 5, 4, _, _ => exact Or.inl (hs (Cond.not (.eq (.static "Flaghall$Kind" "COURT" "LFlaghall$Kind;") (.static "Flaghall$Kind" "LIEN" "LFlaghall$Kind;"))) (by decide +kernel))
      | 5, 5, _, _ => exact absurd rfl hij
      | k + 6, _, h, _ => exact absurd h (by omega)
      | _, k + 6, _, h => exact absurd h (by omega))
    hA
  refine ⟨(fun _ => 0, en, fun k => if k = 100 then 182 else if k = 7 then y7 else if k = 8 then y8 else if k = 9 then y9 else if k = 11 then y11 else if k = 12 then y12 else if k = 13 then y13 else y14, (dC, dI)), ⟨⟨hKc, ?_⟩, fun w hw => va_Nw.of (List.all_eq_true.mp znw_t w hw) (hts w (znw_in w hw)), ?_, ?_, ?_, ?_, ?_, ⟨fun i j h1 h2 h3 => hen.2 i j h1 h2 h3, (by decide : 182 ≤ min 182 184)⟩⟩, ?_, (by decide : min 182 184 = 182)⟩
  · intro k q hq
    match k, hq with
    | 0, hq => cases hq; exact ⟨zarr g7 e7, f7⟩
    | 1, hq => cases hq; exact ⟨zarr g8 e8, f8⟩
    | 2, hq => cases hq; exact ⟨zarr g9 e9, f9⟩
    | 3, hq => cases hq; exact ⟨zarr g8 e8, f8⟩
    | 4, hq => cases hq; exact ⟨zarr g11 e11, k11, o11, g11, e11, f11, n11⟩
    | 5, hq => cases hq; exact ⟨zarr g12 e12, k12, o12, g12, e12, f12, n12⟩
    | 6, hq => cases hq; exact ⟨zarr g13 e13, k13, o13, g13, e13, f13, n13⟩
    | 7, hq => cases hq; exact ⟨zarr g14 e14, k14, o14, g14, e14, f14, n14⟩
    | k + 8, hq => simp [zys] at hq
  · exact List.forall_mem_cons.mpr ⟨va_Nc.of (hs (Cond.not (.castable "java/lang/IllegalArgumentException" "java/lang/IllegalStateException")) (by decide +kernel)), List.forall_mem_cons.mpr ⟨va_Nc.of (hs (Cond.not (.castable "java/lang/IllegalArgumentException" "java/lang/IndexOutOfBoundsException")) (by decide +kernel)), List.forall_mem_cons.mpr ⟨va_Nc.of (hs (Cond.not (.castable "java/lang/IllegalStateException" "java/lang/IllegalArgumentException")) (by decide +kernel)), List.forall_mem_cons.mpr ⟨va_Nc.of (hs (Cond.not (.castable "java/lang/IllegalStateException" "java/lang/IndexOutOfBoundsException")) (by decide +kernel)), List.forall_mem_cons.mpr ⟨va_Nc.of (hs (Cond.not (.castable "java/lang/IndexOutOfBoundsException" "java/lang/IllegalArgumentException")) (by decide +kernel)), List.forall_mem_cons.mpr ⟨va_Nc.of (hs (Cond.not (.castable "java/lang/IndexOutOfBoundsException" "java/lang/IllegalStateException")) (by decide +kernel)), fun _ h => absurd h List.not_mem_nil⟩⟩⟩⟩⟩⟩
  · exact List.forall_mem_cons.mpr ⟨(hen.1 0 (by decide)).1, List.forall_mem_cons.mpr ⟨(hen.1 1 (by decide)).1, List.forall_mem_cons.mpr ⟨(hen.1 2 (by decide)).1, List.forall_mem_cons.mpr ⟨(hen.1 3 (by decide)).1, List.forall_mem_cons.mpr ⟨(hen.1 4 (by decide)).1, List.forall_mem_cons.mpr ⟨(hen.1 5 (by decide)).1, fun _ h => absurd h List.not_mem_nil⟩⟩⟩⟩⟩⟩
  · have hst : ∀ (own tx : String) (k : Nat), (Cond.stringRef own k tx).before args s = true → (Cond.exactly (.string own k) "java/lang/String").before args s = true → ∃ sa, vk_R own k tx sa s := fun own tx k h1 h2 => by
      obtain ⟨a, c, cA, kA, q1, -⟩ := Cond.exactly_spec (args := args) (first := s) (o := none) (s := s) (idx := []) (t := .string own k) (cls := "java/lang/String") h2
      exact ⟨a, vk_R.of h1 q1⟩
    exact List.forall_mem_cons.mpr ⟨hst _ _ _ (hts _ (List.mem_append_right _ (List.mem_append_right _ (List.mem_append_right _ (List.mem_of_getElem? (i := 94) rfl))))) (hs (Cond.exactly (.string "Flaghall" 40) "java/lang/String") (by decide +kernel)), List.forall_mem_cons.mpr ⟨hst _ _ _ (hts _ (List.mem_append_right _ (List.mem_append_right _ (List.mem_append_right _ (List.mem_of_getElem? (i := 95) rfl))))) (hs (Cond.exactly (.string "Flaghall" 51) "java/lang/String") (by decide +kernel)), List.forall_mem_cons.mpr ⟨hst _ _ _ (hts _ (List.mem_append_right _ (List.mem_append_right _ (List.mem_append_right _ (List.mem_of_getElem? (i := 57) rfl))))) (hs (Cond.exactly (.string "Flaghall" 80) "java/lang/String") (by decide +kernel)), List.forall_mem_cons.mpr ⟨hst _ _ _ (hts _ (List.mem_append_right _ (List.mem_append_right _ (List.mem_append_right _ (List.mem_of_getElem? (i := 10) rfl))))) (hs (Cond.exactly (.string "Flaghall" 95) "java/lang/String") (by decide +kernel)), List.forall_mem_cons.mpr ⟨hst _ _ _ (hts _ (List.mem_append_right _ (List.mem_append_right _ (List.mem_append_right _ (List.mem_of_getElem? (i := 27) rfl))))) (hs (Cond.exactly (.string "Flaghall" 111) "java/lang/String") (by decide +kernel)), List.forall_mem_cons.mpr ⟨hst _ _ _ (hts _ (List.mem_append_right _ (List.mem_append_right _ (List.mem_append_right _ (List.mem_of_getElem? (i := 28) rfl))))) (hs (Cond.exactly (.string "Flaghall" 116) "java/lang/String") (by decide +kernel)), List.forall_mem_cons.mpr ⟨hst _ _ _ (hts _ (List.mem_append_right _ (List.mem_append_right _ (List.mem_append_right _ (List.mem_of_getElem? (i := 43) rfl))))) (hs (Cond.exactly (.string "Flaghall" 122) "java/lang/String") (by decide +kernel)), List.forall_mem_cons.mpr ⟨hst _ _ _ (hts _ (List.mem_append_right _ (List.mem_append_right _ (List.mem_append_right _ (List.mem_of_getElem? (i := 83) rfl))))) (hs (Cond.exactly (.string "Flaghall" 172) "java/lang/String") (by decide +kernel)), List.forall_mem_cons.mpr ⟨hst _ _ _ (hts _ (List.mem_append_right _ (List.mem_append_right _ (List.mem_append_right _ (List.mem_of_getElem? (i := 135) rfl))))) (hs (Cond.exactly (.string "Flaghall" 214) "java/lang/String") (by decide +kernel)), List.forall_mem_cons.mpr ⟨hst _ _ _ (hts _ (List.mem_append_right _ (List.mem_append_right _ (List.mem_append_left _ (List.mem_of_getElem? (i := 19) rfl))))) (hs (Cond.exactly (.string "Flaghall" 237) "java/lang/String") (by decide +kernel)), List.forall_mem_cons.mpr ⟨hst _ _ _ (hts _ (List.mem_append_right _ (List.mem_append_right _ (List.mem_append_left _ (List.mem_of_getElem? (i := 83) rfl))))) (hs (Cond.exactly (.string "Flaghall" 243) "java/lang/String") (by decide +kernel)), List.forall_mem_cons.mpr ⟨hst _ _ _ (hts _ (List.mem_append_right _ (List.mem_append_right _ (List.mem_append_left _ (List.mem_of_getElem? (i := 78) rfl))))) (hs (Cond.exactly (.string "Flaghall" 245) "java/lang/String") (by decide +kernel)), List.forall_mem_cons.mpr ⟨hst _ _ _ (hts _ (List.mem_append_right _ (List.mem_append_right _ (List.mem_append_right _ (List.mem_of_getElem? (i := 73) rfl))))) (hs (Cond.exactly (.string "Flaghall" 250) "java/lang/String") (by decide +kernel)), List.forall_mem_cons.mpr ⟨hst _ _ _ (hts _ (List.mem_append_right _ (List.mem_append_right _ (List.mem_append_right _ (List.mem_of_getElem? (i := 134) rfl))))) (hs (Cond.exactly (.string "Flaghall" 252) "java/lang/String") (by decide +kernel)), List.forall_mem_cons.mpr ⟨hst _ _ _ (hts _ (List.mem_append_right _ (List.mem_append_right _ (List.mem_append_left _ (List.mem_of_getElem? (i := 116) rfl))))) (hs (Cond.exactly (.string "Flaghall" 254) "java/lang/String") (by decide +kernel)), List.forall_mem_cons.mpr ⟨hst _ _ _ (hts _ (List.mem_append_right _ (List.mem_append_right _ (List.mem_append_left _ (List.mem_of_getElem? (i := 92) rfl))))) (hs (Cond.exactly (.string "Flaghall" 260) "java/lang/String") (by decide +kernel)), List.forall_mem_cons.mpr ⟨hst _ _ _ (hts _ (List.mem_append_right _ (List.mem_append_right _ (List.mem_append_left _ (List.mem_of_getElem? (i := 59) rfl))))) (hs (Cond.exactly (.string "Flaghall" 262) "java/lang/String") (by decide +kernel)), fun _ h => absurd h List.not_mem_nil⟩⟩⟩⟩⟩⟩⟩⟩⟩⟩⟩⟩⟩⟩⟩⟩⟩
  · exact vx_Zqof (args := args) (hts _ (List.mem_append_right _ (List.mem_append_right _ (List.mem_append_left _ (List.mem_of_getElem? (i := 5) rfl))))) (hg _ zt_1_9) (hs (Cond.isRef (.static "java/lang/Throwable" "UNASSIGNED_STACK" "[Ljava/lang/StackTraceElement;")) (by decide +kernel)) hA
  · exact vx_Zqof (args := args) (hts _ (List.mem_append_right _ (List.mem_append_right _ (List.mem_append_left _ (List.mem_of_getElem? (i := 7) rfl))))) (hg _ zt_1_9) (hs (Cond.isRef (.static "java/lang/Throwable" "SUPPRESSED_SENTINEL" "Ljava/util/List;")) (by decide +kernel)) hA
  · exact List.forall_mem_cons.mpr ⟨a11, List.forall_mem_cons.mpr ⟨a12, List.forall_mem_cons.mpr ⟨a13, List.forall_mem_cons.mpr ⟨a14, fun _ h => absurd h List.not_mem_nil⟩⟩⟩⟩
set_option maxHeartbeats 4000000 in
set_option maxRecDepth 100000 in
theorem zhallx : ∀ (E : zE) (h0 p1 p2 h3 p4 p5 qp qm qs l1 l2 l3 l4 l5 l6 l7 l8 l9 l10 l11 l12 l13 l14 l15 : Nat) (ab bb a b a2 b2 c2 : Nat → Nat), zh2 E h0 p1 p2 h3 p4 p5 (zhx E h3 qp qm qs ab bb p4 p5) a b a2 b2 c2 6 ++ [(l1, zai E 8 6), (l2, zai E 8 36), (l3, zai E 8 18), (l4, .inl (E.2.2.1 9, 3, .inr (.inl (fun _ => 0)))), (l5, zai E 8 3), (l6, .inl (E.2.2.1 9, 3, .inr (.inl (fun _ => 0)))), (l7, zai E 8 40), (l8, zai E 8 40), (l9, .inl (E.2.2.1 9, 40, .inr (.inl (fun _ => 0)))), (l10, .inl (E.2.2.1 9, 40, .inr (.inl (fun _ => 0)))), (l11, zai E 8 40), (l12, zai E 8 40), (l13, zai E 8 40), (l14, .inl (E.2.2.1 9, 6, .inr (.inl (fun _ => 0)))), (l15, zai E 8 4)] = zWx E h0 p1 p2 h3 p4 p5 qp qm qs l1 l2 l3 l4 l5 l6 l7 l8 l9 l10 l11 l12 l13 l14 l15 ab bb a b a2 b2 c2 := by
  intros
  rfl
theorem c_istore4 {K : zK} {cc : ByteArray} {own : String} {rm : Room} {cl sl : Nat} {ws : va_W} {pc : Nat} {lv lv' : List (Nat × Value)} {st : List Value} (X : CY K cc own rm) {i : Nat} {x : Int32} (d : decode cc pc = .ok (.istore i, 2)) (hn : i < K.2.2.2.2.2.2.2.2.2.2.2.2.2) (hv : (i, Value.int x) :: lv.filter (fun q => !(q.1 == i) && !(q.1 + 1 == i && q.2.category == 2)) = lv') (k : WC K cl sl ws (pc + 2) lv' st) : WC K cl sl ws pc lv (.int x :: st) := by
  obtain ⟨p, l, e, R, s, m, args, below, meth, c, E, A, Q, nL⟩ := K
  obtain ⟨hx, hb, hml, hown, hts, hlk, hE, hAO, hA, hR⟩ := X
  intro H locs ls hP hD hS hl
  exact lv_istore hx hb d hl hn hv (fun ls2 hl2 => k H locs ls2 hP hD hS hl2)
theorem c_astoreW {K : zK} {cc : ByteArray} {own : String} {rm : Room} {cl sl : Nat} {ws : va_W} {pc : Nat} {lv lv' : List (Nat × Value)} {st : List Value} (X : CY K cc own rm) {i a : Nat} (d : decode cc pc = .ok (.astore i, 2)) (hn : i < K.2.2.2.2.2.2.2.2.2.2.2.2.2) (hv : (i, Value.ref a) :: lv.filter (fun q => !(q.1 == i) && !(q.1 + 1 == i && q.2.category == 2)) = lv') (k : WC K cl sl ws (pc + 2) lv' st) : WC K cl sl ws pc lv (.ref a :: st) := by
  obtain ⟨p, l, e, R, s, m, args, below, meth, c, E, A, Q, nL⟩ := K
  obtain ⟨hx, hb, hml, hown, hts, hlk, hE, hAO, hA, hR⟩ := X
  intro H locs ls hP hD hS hl
  exact lv_astore hx hb d hl hn hv (fun ls2 hl2 => k H locs ls2 hP hD hS hl2)
theorem c_lconst {K : zK} {cc : ByteArray} {own : String} {rm : Room} {cl sl : Nat} {ws : va_W} {pc : Nat} {lv lv' : List (Nat × Value)} {st : List Value} (X : CY K cc own rm) {i : Fin 2} {n : Int} (d : decode cc pc = .ok (.lconst i, 1)) (hv : Int64.ofNat (i : Nat) = zJ n) (k : WC K cl sl ws (pc + 1) lv (.long (zJ n) :: st)) : WC K cl sl ws pc lv st := by
  obtain ⟨p, l, e, R, s, m, args, below, meth, c, E, A, Q, nL⟩ := K
  obtain ⟨hx, hb, hml, hown, hts, hlk, hE, hAO, hA, hR⟩ := X
  intro H locs ls hP hD hS hl
  exact lv_lconst (v := zJ n) hx hb d hv (k H locs ls hP hD hS hl)
theorem c_lstore {K : zK} {cc : ByteArray} {own : String} {rm : Room} {cl sl : Nat} {ws : va_W} {pc : Nat} {lv lv' : List (Nat × Value)} {st : List Value} (X : CY K cc own rm) {i : Nat} {x : Int64} (d : decode cc pc = .ok (.lstore i, 2)) (hn : i + 1 < K.2.2.2.2.2.2.2.2.2.2.2.2.2) (hv : (i, Value.long x) :: lv.filter (fun q => !(q.1 == i) && (!(q.1 == i + 1) && !(q.1 + 1 == i && q.2.category == 2))) = lv') (k : WC K cl sl ws (pc + 2) lv' st) : WC K cl sl ws pc lv (.long x :: st) := by
  obtain ⟨p, l, e, R, s, m, args, below, meth, c, E, A, Q, nL⟩ := K
  obtain ⟨hx, hb, hml, hown, hts, hlk, hE, hAO, hA, hR⟩ := X
  intro H locs ls hP hD hS hl
  exact lv_lstore hx hb d hl hn hv (fun ls2 hl2 => k H locs ls2 hP hD hS hl2)
set_option maxHeartbeats 4000000 in
set_option maxRecDepth 100000 in
theorem zentry {p : Program} {e : Env} {s : State} {m : MethodId} {below : List Frame} {meth : Method} {c : Code} (l : Launch) (hflags : l.flags = flags0) {b L : Nat} {xs : Nat → Int32} (C0 : lw_At p s m meth c b L xs) {E : zE} (hE : zEnv E (fun q : Nat => s.heap.size ≤ q) s) (hEN : zN E = 182) (se : zS) (hsem : fL_law_l101 xs L 140 0 1 0 zs0 = some (0, (1 : Int), se)) {K : zK} (hKd : K = (p, l, e, room_1, s, m, #[Value.ref b], below, meth, c, E, (fun q : Nat => s.heap.size ≤ q), lw_Z below #[Value.ref b] s, 35))
    (h0 p1 p2 h3 p4 p5 qp qm qs l1 l2 l3 l4 l5 l6 l7 l8 l9 l10 l11 l12 l13 l14 l15 : Nat) (ab bb a b' a2 b2 c2 : Nat → Nat) : WC K 182 1709 (zWx E h0 p1 p2 h3 p4 p5 qp qm qs l1 l2 l3 l4 l5 l6 l7 l8 l9 l10 l11 l12 l13 l14 l15 ab bb a b' a2 b2 c2) 101 [(20, .int (zI 0)), (19, .int (zI 1)), (17, .long (zJ 0)), (16, .ref l15), (15, .ref l14), (14, .ref l13), (13, .ref l12), (12, .ref l11), (11, .ref l10), (10, .ref l9), (9, .ref l8), (8, .ref l7), (7, .ref l6), (6, .ref l5), (5, .ref l4), (4, .ref l3), (3, .ref l2), (2, .ref l1), (1, .ref h0), (0, .ref b)] [] := by
  subst hKd
  obtain ⟨hx, hb, hr, hml, hown, hts, hX, hbl, hlocks, hgv⟩ := C0
  intro H locs ls hP hD hS hl
  have hall := z9_all E h0 p1 p2 h3 p4 p5 qp qm qs l1 l2 l3 l4 l5 l6 l7 l8 l9 l10 l11 l12 l13 l14 l15 ab bb a b' a2 b2 c2
  have hN2 : zN (zEx E h0 p1 p2 h3 p4 p5 qp qm qs l1 l2 l3 l4 l5 l6 l7 l8 l9 l10 l11 l12 l13 l14 l15 ab bb a b' a2 b2 c2) = 182 := hEN
  have hP' : va_P E.2.2.2 vwCl (zwd (zEx E h0 p1 p2 h3 p4 p5 qp qm qs l1 l2 l3 l4 l5 l6 l7 l8 l9 l10 l11 l12 l13 l14 l15 ab bb a b' a2 b2 c2) zs0) H := by
    intro k q hk
    obtain ⟨u1, u2, u3⟩ := zwd_inv hk
    obtain ⟨e1, g1, g2⟩ := hall k (by rw [← hN2]; exact u1)
    have u4 := hP _ _ g1
    have u5 : q = ((zEx E h0 p1 p2 h3 p4 p5 qp qm qs l1 l2 l3 l4 l5 l6 l7 l8 l9 l10 l11 l12 l13 l14 l15 ab bb a b' a2 b2 c2).1 (zpo k), zce (zEx E h0 p1 p2 h3 p4 p5 qp qm qs l1 l2 l3 l4 l5 l6 l7 l8 l9 l10 l11 l12 l13 l14 l15 ab bb a b' a2 b2 c2) zs0 (zpo k)) := Prod.ext u2 u3
    rw [u5]
    exact g2 _ _ _ u4
  have hD' : ∀ σ, va_D (fun q : Nat => s.heap.size ≤ q) (zwd (zEx E h0 p1 p2 h3 p4 p5 qp qm qs l1 l2 l3 l4 l5 l6 l7 l8 l9 l10 l11 l12 l13 l14 l15 ab bb a b' a2 b2 c2) σ) := by
    intro σ
    refine ⟨fun i j p q hi hj hpq => ?_, fun k q hk => ?_⟩
    · obtain ⟨i1, i2, -⟩ := zwd_inv hi
      obtain ⟨j1, j2, -⟩ := zwd_inv hj
      have i3 : i < 182 := by rw [← hN2]; exact i1
      have j3 : j < 182 := by rw [← hN2]; exact j1
      obtain ⟨e1, g1, -⟩ := hall i i3
      obtain ⟨e2, g2, -⟩ := hall j j3
      have h5 := hD.1 _ _ _ _ g1 g2 (by rw [← i2, ← j2]; exact hpq)
      rw [← zg_inv i i3, ← zg_inv j j3, h5]
    · obtain ⟨k1, k2, -⟩ := zwd_inv hk
      obtain ⟨e1, g1, -⟩ := hall k (by rw [← hN2]; exact k1)
      rw [k2]
      exact hD.2 _ _ g1
  have htr : l.stackTraces = false := by
    unfold Launch.stackTraces
    rw [hflags]
    decide
  have X : CX (p, l, e, room_1, s, m, #[Value.ref b], below, meth, c, zEx E h0 p1 p2 h3 p4 p5 qp qm qs l1 l2 l3 l4 l5 l6 l7 l8 l9 l10 l11 l12 l13 l14 l15 ab bb a b' a2 b2 c2, (fun q : Nat => s.heap.size ≤ q), lw_Z below #[Value.ref b] s, 35) cL_law RL zlwr room_1 (c.exceptionTable.toList.map fun h => (h.startPc, h.endPc, h.handlerPc, h.catchType)) := ⟨hx, hb, hr, hml, hown, fun w hw => hts w (zBG_in hw), hlocks, hE, hD', fun _ h => h, htr, rfl, (table_eq _).symm⟩
  have Sx : SX (p, l, e, room_1, s, m, #[Value.ref b], below, meth, c, zEx E h0 p1 p2 h3 p4 p5 qp qm qs l1 l2 l3 l4 l5 l6 l7 l8 l9 l10 l11 l12 l13 l14 l15 ab bb a b' a2 b2 c2, (fun q : Nat => s.heap.size ≤ q), lw_Z below #[Value.ref b] s, 35) b L xs := ⟨hX, hbl, Nat.not_le.mpr hbl, rfl, rfl, fun _ h => h⟩
  have h := wL_law_l101 rfl X Sx hN2 140 0 1 0 zs0 182 1709 (by decide) (by decide) hsem H locs ls hP' hS
  exact h (lv_sub hl [19, 18, 17, 16, 15, 14, 13, 12, 11, 10, 9, 8, 7, 6, 5, 4, 3, 2, 1, 0] rfl)
set_option maxHeartbeats 4000000 in
set_option maxRecDepth 100000 in
/-- the law from its entry, if the numbers say that it answers 1 -/
theorem zstart {p : Program} {e : Env} {s : State} {m : MethodId} {below : List Frame} {meth : Method} {c : Code} (l : Launch) (hflags : l.flags = flags0) {b L : Nat} {xs : Nat → Int32} (C0 : lw_At p s m meth c b L xs) (se : zS) (hsem : fL_law_l101 xs L 140 0 1 0 zs0 = some (0, (1 : Int), se)) : W p l e room_1 s m #[Value.ref b] below meth c s.heap [] 0 0 (lw_Z below #[Value.ref b] s) (entryFrame m ([Value.ref b] : List Value).toArray 35) := by
  obtain ⟨hx, hb, hr, hml, hown, hts, hX, hbl, hlocks, hgv⟩ := id C0
  obtain ⟨E, hE, hAO, hEN⟩ := zenv hts hgv
  have hg : ∀ w ∈ zBG, w.before #[Value.ref b] s = true := fun w hw => hts w (zBG_in hw)
  have hl := lv_entry ([.ref b]) (n := 35) (Nat.le_of_ble_eq_true rfl)
  rw [lg_entry_eq]
  obtain ⟨K, hKd⟩ : ∃ K : zK, K = (p, l, e, room_1, s, m, #[Value.ref b], below, meth, c, E, (fun q : Nat => s.heap.size ≤ q), lw_Z below #[Value.ref b] s, 35) := ⟨_, rfl⟩
  have hKn : K.2.2.2.2.2.2.2.2.2.2.2.2.2 = 35 := by rw [hKd]
  have X : CY K cL_law RL room_1 := by
    rw [hKd]
    exact ⟨hx, hb, hml, hown, hg, hlocks, hE, hAO, fun _ h => h, rfl⟩
  have main : WC K 0 0 [] 0 [(0, .ref b)] [] := by
    refine c_new (ci := 5) (C := RX6) (T := TX6) (N := 9) (fs := [.null, .null, .null, .null, .null, .int (zI 0), .int (zI 0), .int (zI 0), .long (zJ 0)]) X rfl zu_6 tyX6 tyX6_ok zt_1_17 zt_1_18 zt_1_1 (fun j hj => by rcases (show j = 0 ∨ j = 1 ∨ j = 2 ∨ j = 3 ∨ j = 4 ∨ j = 5 ∨ j = 6 ∨ j = 7 ∨ j = 8 by omega) with rfl | rfl | rfl | rfl | rfl | rfl | rfl | rfl | rfl <;> rfl) ⟨by decide, by decide⟩ dL_law_0 (fun h0 => ?_)
    refine c_dup X rfl dL_law_3 ?_
    refine c_callP X (kX6_init _ _ h0 []) zt_1_21 zt_1_1 zt_1_20 rfl zt_1_19 qX6_init ⟨by decide, by decide⟩ ⟨by decide, by decide⟩ (Nat.le_of_ble_eq_true rfl) dL_law_4 (fun ws1 hw1 => ?_)
    obtain ⟨p1, p2, h3, p4, p5, qp, qm, qs, ab, bb, a, b', a2, b2, c2, rfl⟩ := hw1
    refine c_astore (i := 1) (lv' := [(1, .ref h0), (0, .ref b)]) X dL_law_7 rfl (zlt hKn (by decide)) rfl ?_
    refine c_bipush X dL_law_8 (by decide +kernel) ?_
    refine c_newa_int (N := 6) X zt_1_83 (by decide +kernel) (by decide +kernel) (by decide) ⟨by decide, by decide⟩ dL_law_10 (fun l1 => ?_)
    refine c_ws (ws2 := zh2 (zKE K) h0 p1 p2 h3 p4 p5 (zhx (zKE K) h3 qp qm qs ab bb p4 p5) a b' a2 b2 c2 6 ++ [(l1, zai (zKE K) 8 6)]) (rfl) ?_
    refine c_astore (i := 2) (lv' := [(2, .ref l1), (1, .ref h0), (0, .ref b)]) X dL_law_12 rfl (zlt hKn (by decide)) rfl ?_
    refine c_bipush X dL_law_13 (by decide +kernel) ?_
    refine c_newa_int (N := 36) X zt_1_83 (by decide +kernel) (by decide +kernel) (by decide) ⟨by decide, by decide⟩ dL_law_15 (fun l2 => ?_)
    refine c_ws (ws2 := zh2 (zKE K) h0 p1 p2 h3 p4 p5 (zhx (zKE K) h3 qp qm qs ab bb p4 p5) a b' a2 b2 c2 6 ++ [(l1, zai (zKE K) 8 6), (l2, zai (zKE K) 8 36)]) (List.append_assoc _ _ _) ?_
    refine c_astore (i := 3) (lv' := [(3, .ref l2), (2, .ref l1), (1, .ref h0), (0, .ref b)]) X dL_law_17 rfl (zlt hKn (by decide)) rfl ?_
    refine c_bipush X dL_law_18 (by decide +kernel) ?_
    refine c_newa_int (N := 18) X zt_1_83 (by decide +kernel) (by decide +kernel) (by decide) ⟨by decide, by decide⟩ dL_law_20 (fun l3 => ?_)
    refine c_ws (ws2 := zh2 (zKE K) h0 p1 p2 h3 p4 p5 (zhx (zKE K) h3 qp qm qs ab bb p4 p5) a b' a2 b2 c2 6 ++ [(l1, zai (zKE K) 8 6), (l2, zai (zKE K) 8 36), (l3, zai (zKE K) 8 18)]) (List.append_assoc _ _ _) ?_
    refine c_astoreW (i := 4) (lv' := [(4, .ref l3), (3, .ref l2), (2, .ref l1), (1, .ref h0), (0, .ref b)]) X dL_law_22 (zlt hKn (by decide)) rfl ?_
    refine c_iconst X dL_law_24 ?_
    refine c_newa_long (N := 3) X zt_3_149 (by decide +kernel) (by decide +kernel) (by decide) ⟨by decide, by decide⟩ dL_law_25 (fun l4 => ?_)
    refine c_ws (ws2 := zh2 (zKE K) h0 p1 p2 h3 p4 p5 (zhx (zKE K) h3 qp qm qs ab bb p4 p5) a b' a2 b2 c2 6 ++ [(l1, zai (zKE K) 8 6), (l2, zai (zKE K) 8 36), (l3, zai (zKE K) 8 18), (l4, .inl ((zKE K).2.2.1 9, 3, .inr (.inl (fun _ => 0))))]) (List.append_assoc _ _ _) ?_
    refine c_astoreW (i := 5) (lv' := [(5, .ref l4), (4, .ref l3), (3, .ref l2), (2, .ref l1), (1, .ref h0), (0, .ref b)]) X dL_law_27 (zlt hKn (by decide)) rfl ?_
    refine c_iconst X dL_law_29 ?_
    refine c_newa_int (N := 3) X zt_1_83 (by decide +kernel) (by decide +kernel) (by decide) ⟨by decide, by decide⟩ dL_law_30 (fun l5 => ?_)
    refine c_ws (ws2 := zh2 (zKE K) h0 p1 p2 h3 p4 p5 (zhx (zKE K) h3 qp qm qs ab bb p4 p5) a b' a2 b2 c2 6 ++ [(l1, zai (zKE K) 8 6), (l2, zai (zKE K) 8 36), (l3, zai (zKE K) 8 18), (l4, .inl ((zKE K).2.2.1 9, 3, .inr (.inl (fun _ => 0)))), (l5, zai (zKE K) 8 3)]) (List.append_assoc _ _ _) ?_
    refine c_astoreW (i := 6) (lv' := [(6, .ref l5), (5, .ref l4), (4, .ref l3), (3, .ref l2), (2, .ref l1), (1, .ref h0), (0, .ref b)]) X dL_law_32 (zlt hKn (by decide)) rfl ?_
    refine c_iconst X dL_law_34 ?_
    refine c_newa_long (N := 3) X zt_3_149 (by decide +kernel) (by decide +kernel) (by decide) ⟨by decide, by decide⟩ dL_law_35 (fun l6 => ?_)
    refine c_ws (ws2 := zh2 (zKE K) h0 p1 p2 h3 p4 p5 (zhx (zKE K) h3 qp qm qs ab bb p4 p5) a b' a2 b2 c2 6 ++ [(l1, zai (zKE K) 8 6), (l2, zai (zKE K) 8 36), (l3, zai (zKE K) 8 18), (l4, .inl ((zKE K).2.2.1 9, 3, .inr (.inl (fun _ => 0)))), (l5, zai (zKE K) 8 3), (l6, .inl ((zKE K).2.2.1 9, 3, .inr (.inl (fun _ => 0))))]) (List.append_assoc _ _ _) ?_
    refine c_astoreW (i := 7) (lv' := [(7, .ref l6), (6, .ref l5), (5, .ref l4), (4, .ref l3), (3, .ref l2), (2, .ref l1), (1, .ref h0), (0, .ref b)]) X dL_law_37 (zlt hKn (by decide)) rfl ?_
    refine c_bipush X dL_law_39 (by decide +kernel) ?_
    refine c_newa_int (N := 40) X zt_1_83 (by decide +kernel) (by decide +kernel) (by decide) ⟨by decide, by decide⟩ dL_law_41 (fun l7 => ?_)
    refine c_ws (ws2 := zh2 (zKE K) h0 p1 p2 h3 p4 p5 (zhx (zKE K) h3 qp qm qs ab bb p4 p5) a b' a2 b2 c2 6 ++ [(l1, zai (zKE K) 8 6), (l2, zai (zKE K) 8 36), (l3, zai (zKE K) 8 18), (l4, .inl ((zKE K).2.2.1 9, 3, .inr (.inl (fun _ => 0)))), (l5, zai (zKE K) 8 3), (l6, .inl ((zKE K).2.2.1 9, 3, .inr (.inl (fun _ => 0)))), (l7, zai (zKE K) 8 40)]) (List.append_assoc _ _ _) ?_
    refine c_astoreW (i := 8) (lv' := [(8, .ref l7), (7, .ref l6), (6, .ref l5), (5, .ref l4), (4, .ref l3), (3, .ref l2), (2, .ref l1), (1, .ref h0), (0, .ref b)]) X dL_law_43 (zlt hKn (by decide)) rfl ?_
    refine c_bipush X dL_law_45 (by decide +kernel) ?_
    refine c_newa_int (N := 40) X zt_1_83 (by decide +kernel) (by decide +kernel) (by decide) ⟨by decide, by decide⟩ dL_law_47 (fun l8 => ?_)
    refine c_ws (ws2 := zh2 (zKE K) h0 p1 p2 h3 p4 p5 (zhx (zKE K) h3 qp qm qs ab bb p4 p5) a b' a2 b2 c2 6 ++ [(l1, zai (zKE K) 8 6), (l2, zai (zKE K) 8 36), (l3, zai (zKE K) 8 18), (l4, .inl ((zKE K).2.2.1 9, 3, .inr (.inl (fun _ => 0)))), (l5, zai (zKE K) 8 3), (l6, .inl ((zKE K).2.2.1 9, 3, .inr (.inl (fun _ => 0)))), (l7, zai (zKE K) 8 40), (l8, zai (zKE K) 8 40)]) (List.append_assoc _ _ _) ?_
    refine c_astoreW (i := 9) (lv' := [(9, .ref l8), (8, .ref l7), (7, .ref l6), (6, .ref l5), (5, .ref l4), (4, .ref l3), (3, .ref l2), (2, .ref l1), (1, .ref h0), (0, .ref b)]) X dL_law_49 (zlt hKn (by decide)) rfl ?_
    refine c_bipush X dL_law_51 (by decide +kernel) ?_
    refine c_newa_long (N := 40) X zt_3_149 (by decide +kernel) (by decide +kernel) (by decide) ⟨by decide, by decide⟩ dL_law_53 (fun l9 => ?_)
    refine c_ws (ws2 := zh2 (zKE K) h0 p1 p2 h3 p4 p5 (zhx (zKE K) h3 qp qm qs ab bb p4 p5) a b' a2 b2 c2 6 ++ [(l1, zai (zKE K) 8 6), (l2, zai (zKE K) 8 36), (l3, zai (zKE K) 8 18), (l4, .inl ((zKE K).2.2.1 9, 3, .inr (.inl (fun _ => 0)))), (l5, zai (zKE K) 8 3), (l6, .inl ((zKE K).2.2.1 9, 3, .inr (.inl (fun _ => 0)))), (l7, zai (zKE K) 8 40), (l8, zai (zKE K) 8 40), (l9, .inl ((zKE K).2.2.1 9, 40, .inr (.inl (fun _ => 0))))]) (List.append_assoc _ _ _) ?_
    refine c_astoreW (i := 10) (lv' := [(10, .ref l9), (9, .ref l8), (8, .ref l7), (7, .ref l6), (6, .ref l5), (5, .ref l4), (4, .ref l3), (3, .ref l2), (2, .ref l1), (1, .ref h0), (0, .ref b)]) X dL_law_55 (zlt hKn (by decide)) rfl ?_
    refine c_bipush X dL_law_57 (by decide +kernel) ?_
    refine c_newa_long (N := 40) X zt_3_149 (by decide +kernel) (by decide +kernel) (by decide) ⟨by decide, by decide⟩ dL_law_59 (fun l10 => ?_)
    refine c_ws (ws2 := zh2 (zKE K) h0 p1 p2 h3 p4 p5 (zhx (zKE K) h3 qp qm qs ab bb p4 p5) a b' a2 b2 c2 6 ++ [(l1, zai (zKE K) 8 6), (l2, zai (zKE K) 8 36), (l3, zai (zKE K) 8 18), (l4, .inl ((zKE K).2.2.1 9, 3, .inr (.inl (fun _ => 0)))), (l5, zai (zKE K) 8 3), (l6, .inl ((zKE K).2.2.1 9, 3, .inr (.inl (fun _ => 0)))), (l7, zai (zKE K) 8 40), (l8, zai (zKE K) 8 40), (l9, .inl ((zKE K).2.2.1 9, 40, .inr (.inl (fun _ => 0)))), (l10, .inl ((zKE K).2.2.1 9, 40, .inr (.inl (fun _ => 0))))]) (List.append_assoc _ _ _) ?_
    refine c_astoreW (i := 11) (lv' := [(11, .ref l10), (10, .ref l9), (9, .ref l8), (8, .ref l7), (7, .ref l6), (6, .ref l5), (5, .ref l4), (4, .ref l3), (3, .ref l2), (2, .ref l1), (1, .ref h0), (0, .ref b)]) X dL_law_61 (zlt hKn (by decide)) rfl ?_
    refine c_bipush X dL_law_63 (by decide +kernel) ?_
    refine c_newa_int (N := 40) X zt_1_83 (by decide +kernel) (by decide +kernel) (by decide) ⟨by decide, by decide⟩ dL_law_65 (fun l11 => ?_)
    refine c_ws (ws2 := zh2 (zKE K) h0 p1 p2 h3 p4 p5 (zhx (zKE K) h3 qp qm qs ab bb p4 p5) a b' a2 b2 c2 6 ++ [(l1, zai (zKE K) 8 6), (l2, zai (zKE K) 8 36), (l3, zai (zKE K) 8 18), (l4, .inl ((zKE K).2.2.1 9, 3, .inr (.inl (fun _ => 0)))), (l5, zai (zKE K) 8 3), (l6, .inl ((zKE K).2.2.1 9, 3, .inr (.inl (fun _ => 0)))), (l7, zai (zKE K) 8 40), (l8, zai (zKE K) 8 40), (l9, .inl ((zKE K).2.2.1 9, 40, .inr (.inl (fun _ => 0)))), (l10, .inl ((zKE K).2.2.1 9, 40, .inr (.inl (fun _ => 0)))), (l11, zai (zKE K) 8 40)]) (List.append_assoc _ _ _) ?_
    refine c_astoreW (i := 12) (lv' := [(12, .ref l11), (11, .ref l10), (10, .ref l9), (9, .ref l8), (8, .ref l7), (7, .ref l6), (6, .ref l5), (5, .ref l4), (4, .ref l3), (3, .ref l2), (2, .ref l1), (1, .ref h0), (0, .ref b)]) X dL_law_67 (zlt hKn (by decide)) rfl ?_
    refine c_bipush X dL_law_69 (by decide +kernel) ?_
    refine c_newa_int (N := 40) X zt_1_83 (by decide +kernel) (by decide +kernel) (by decide) ⟨by decide, by decide⟩ dL_law_71 (fun l12 => ?_)
    refine c_ws (ws2 := zh2 (zKE K) h0 p1 p2 h3 p4 p5 (zhx (zKE K) h3 qp qm qs ab bb p4 p5) a b' a2 b2 c2 6 ++ [(l1, zai (zKE K) 8 6), (l2, zai (zKE K) 8 36), (l3, zai (zKE K) 8 18), (l4, .inl ((zKE K).2.2.1 9, 3, .inr (.inl (fun _ => 0)))), (l5, zai (zKE K) 8 3), (l6, .inl ((zKE K).2.2.1 9, 3, .inr (.inl (fun _ => 0)))), (l7, zai (zKE K) 8 40), (l8, zai (zKE K) 8 40), (l9, .inl ((zKE K).2.2.1 9, 40, .inr (.inl (fun _ => 0)))), (l10, .inl ((zKE K).2.2.1 9, 40, .inr (.inl (fun _ => 0)))), (l11, zai (zKE K) 8 40), (l12, zai (zKE K) 8 40)]) (List.append_assoc _ _ _) ?_
    refine c_astoreW (i := 13) (lv' := [(13, .ref l12), (12, .ref l11), (11, .ref l10), (10, .ref l9), (9, .ref l8), (8, .ref l7), (7, .ref l6), (6, .ref l5), (5, .ref l4), (4, .ref l3), (3, .ref l2), (2, .ref l1), (1, .ref h0), (0, .ref b)]) X dL_law_73 (zlt hKn (by decide)) rfl ?_
    refine c_bipush X dL_law_75 (by decide +kernel) ?_
    refine c_newa_int (N := 40) X zt_1_83 (by decide +kernel) (by decide +kernel) (by decide) ⟨by decide, by decide⟩ dL_law_77 (fun l13 => ?_)
    refine c_ws (ws2 := zh2 (zKE K) h0 p1 p2 h3 p4 p5 (zhx (zKE K) h3 qp qm qs ab bb p4 p5) a b' a2 b2 c2 6 ++ [(l1, zai (zKE K) 8 6), (l2, zai (zKE K) 8 36), (l3, zai (zKE K) 8 18), (l4, .inl ((zKE K).2.2.1 9, 3, .inr (.inl (fun _ => 0)))), (l5, zai (zKE K) 8 3), (l6, .inl ((zKE K).2.2.1 9, 3, .inr (.inl (fun _ => 0)))), (l7, zai (zKE K) 8 40), (l8, zai (zKE K) 8 40), (l9, .inl ((zKE K).2.2.1 9, 40, .inr (.inl (fun _ => 0)))), (l10, .inl ((zKE K).2.2.1 9, 40, .inr (.inl (fun _ => 0)))), (l11, zai (zKE K) 8 40), (l12, zai (zKE K) 8 40), (l13, zai (zKE K) 8 40)]) (List.append_assoc _ _ _) ?_
    refine c_astoreW (i := 14) (lv' := [(14, .ref l13), (13, .ref l12), (12, .ref l11), (11, .ref l10), (10, .ref l9), (9, .ref l8), (8, .ref l7), (7, .ref l6), (6, .ref l5), (5, .ref l4), (4, .ref l3), (3, .ref l2), (2, .ref l1), (1, .ref h0), (0, .ref b)]) X dL_law_79 (zlt hKn (by decide)) rfl ?_
    refine c_bipush X dL_law_81 (by decide +kernel) ?_
    refine c_newa_long (N := 6) X zt_3_149 (by decide +kernel) (by decide +kernel) (by decide) ⟨by decide, by decide⟩ dL_law_83 (fun l14 => ?_)
    refine c_ws (ws2 := zh2 (zKE K) h0 p1 p2 h3 p4 p5 (zhx (zKE K) h3 qp qm qs ab bb p4 p5) a b' a2 b2 c2 6 ++ [(l1, zai (zKE K) 8 6), (l2, zai (zKE K) 8 36), (l3, zai (zKE K) 8 18), (l4, .inl ((zKE K).2.2.1 9, 3, .inr (.inl (fun _ => 0)))), (l5, zai (zKE K) 8 3), (l6, .inl ((zKE K).2.2.1 9, 3, .inr (.inl (fun _ => 0)))), (l7, zai (zKE K) 8 40), (l8, zai (zKE K) 8 40), (l9, .inl ((zKE K).2.2.1 9, 40, .inr (.inl (fun _ => 0)))), (l10, .inl ((zKE K).2.2.1 9, 40, .inr (.inl (fun _ => 0)))), (l11, zai (zKE K) 8 40), (l12, zai (zKE K) 8 40), (l13, zai (zKE K) 8 40), (l14, .inl ((zKE K).2.2.1 9, 6, .inr (.inl (fun _ => 0))))]) (List.append_assoc _ _ _) ?_
    refine c_astoreW (i := 15) (lv' := [(15, .ref l14), (14, .ref l13), (13, .ref l12), (12, .ref l11), (11, .ref l10), (10, .ref l9), (9, .ref l8), (8, .ref l7), (7, .ref l6), (6, .ref l5), (5, .ref l4), (4, .ref l3), (3, .ref l2), (2, .ref l1), (1, .ref h0), (0, .ref b)]) X dL_law_85 (zlt hKn (by decide)) rfl ?_
    refine c_iconst X dL_law_87 ?_
    refine c_newa_int (N := 4) X zt_1_83 (by decide +kernel) (by decide +kernel) (by decide) ⟨by decide, by decide⟩ dL_law_88 (fun l15 => ?_)
    refine c_ws (ws2 := zh2 (zKE K) h0 p1 p2 h3 p4 p5 (zhx (zKE K) h3 qp qm qs ab bb p4 p5) a b' a2 b2 c2 6 ++ [(l1, zai (zKE K) 8 6), (l2, zai (zKE K) 8 36), (l3, zai (zKE K) 8 18), (l4, .inl ((zKE K).2.2.1 9, 3, .inr (.inl (fun _ => 0)))), (l5, zai (zKE K) 8 3), (l6, .inl ((zKE K).2.2.1 9, 3, .inr (.inl (fun _ => 0)))), (l7, zai (zKE K) 8 40), (l8, zai (zKE K) 8 40), (l9, .inl ((zKE K).2.2.1 9, 40, .inr (.inl (fun _ => 0)))), (l10, .inl ((zKE K).2.2.1 9, 40, .inr (.inl (fun _ => 0)))), (l11, zai (zKE K) 8 40), (l12, zai (zKE K) 8 40), (l13, zai (zKE K) 8 40), (l14, .inl ((zKE K).2.2.1 9, 6, .inr (.inl (fun _ => 0)))), (l15, zai (zKE K) 8 4)]) (List.append_assoc _ _ _) ?_
    refine c_astoreW (i := 16) (lv' := [(16, .ref l15), (15, .ref l14), (14, .ref l13), (13, .ref l12), (12, .ref l11), (11, .ref l10), (10, .ref l9), (9, .ref l8), (8, .ref l7), (7, .ref l6), (6, .ref l5), (5, .ref l4), (4, .ref l3), (3, .ref l2), (2, .ref l1), (1, .ref h0), (0, .ref b)]) X dL_law_90 (zlt hKn (by decide)) rfl ?_
    refine c_lconst (lv' := []) (n := 0) X dL_law_92 (by decide +kernel) ?_
    refine c_lstore (i := 17) (lv' := [(17, .long (zJ 0)), (16, .ref l15), (15, .ref l14), (14, .ref l13), (13, .ref l12), (12, .ref l11), (11, .ref l10), (10, .ref l9), (9, .ref l8), (8, .ref l7), (7, .ref l6), (6, .ref l5), (5, .ref l4), (4, .ref l3), (3, .ref l2), (2, .ref l1), (1, .ref h0), (0, .ref b)]) X dL_law_93 (zlt hKn (by decide)) rfl ?_
    refine c_iconst X dL_law_95 ?_
    refine c_istore4 (i := 19) (lv' := [(19, .int (zI 1)), (17, .long (zJ 0)), (16, .ref l15), (15, .ref l14), (14, .ref l13), (13, .ref l12), (12, .ref l11), (11, .ref l10), (10, .ref l9), (9, .ref l8), (8, .ref l7), (7, .ref l6), (6, .ref l5), (5, .ref l4), (4, .ref l3), (3, .ref l2), (2, .ref l1), (1, .ref h0), (0, .ref b)]) X dL_law_96 (zlt hKn (by decide)) rfl ?_
    refine c_iconst X dL_law_98 ?_
    refine c_istore4 (i := 20) (lv' := [(20, .int (zI 0)), (19, .int (zI 1)), (17, .long (zJ 0)), (16, .ref l15), (15, .ref l14), (14, .ref l13), (13, .ref l12), (12, .ref l11), (11, .ref l10), (10, .ref l9), (9, .ref l8), (8, .ref l7), (7, .ref l6), (6, .ref l5), (5, .ref l4), (4, .ref l3), (3, .ref l2), (2, .ref l1), (1, .ref h0), (0, .ref b)]) X dL_law_99 (zlt hKn (by decide)) rfl ?_
    refine c_ws (ws2 := zWx (zKE K) h0 p1 p2 h3 p4 p5 qp qm qs l1 l2 l3 l4 l5 l6 l7 l8 l9 l10 l11 l12 l13 l14 l15 ab bb a b' a2 b2 c2) (zhallx (zKE K) h0 p1 p2 h3 p4 p5 qp qm qs l1 l2 l3 l4 l5 l6 l7 l8 l9 l10 l11 l12 l13 l14 l15 ab bb a b' a2 b2 c2) ?_
    refine c_rm (cl2 := 182) (sl2 := 1709) rfl rfl ?_
    rw [show zKE K = E from by rw [hKd]; rfl]
    exact zentry l hflags C0 hE hEN se hsem hKd h0 p1 p2 h3 p4 p5 qp qm qs l1 l2 l3 l4 l5 l6 l7 l8 l9 l10 l11 l12 l13 l14 l15 ab bb a b' a2 b2 c2
  rw [hKd] at main
  exact main s.heap [] _ (fun k q h => by simp at h) ⟨fun i j p q h => by simp at h, fun k q h => by simp at h⟩ va_S.rf hl
