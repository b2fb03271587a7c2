section
-- ===== PART A: goes FIRST, ahead of the names: the tables' words, and 'selects' of the private methods out of them =====
/-- a private method of a class that the tables say can be made, by its rows of tables_1 -/
def lw_okq (q : MethodName × Nat) : Prop := (q.1.cls ≠ "java/lang/invoke/MethodHandle" ∧ q.1.cls ≠ "java/lang/invoke/VarHandle") ∧ Cond.instantiable q.1.cls q.2 ∈ tables_1 ∧ Cond.privateMethod q.1 ∈ tables_1 ∧ Cond.instanceMethod q.1 ∈ tables_1
theorem lw_p0 : lw_okq (⟨"java/lang/Throwable", "fillInStackTrace", "(I)Ljava/lang/Throwable;"⟩, 6) := ⟨⟨by decide +kernel, by decide +kernel⟩, List.mem_of_getElem? (i := 261) (by decide +kernel), List.mem_of_getElem? (i := 259) (by decide +kernel), List.mem_of_getElem? (i := 260) (by decide +kernel)⟩
theorem lw_p1 : lw_okq (⟨"Flaghall", "needLand", "(I)V"⟩, 9) := ⟨⟨by decide +kernel, by decide +kernel⟩, List.mem_of_getElem? (i := 19) (by decide +kernel), List.mem_of_getElem? (i := 315) (by decide +kernel), List.mem_of_getElem? (i := 316) (by decide +kernel)⟩
theorem lw_p2 : lw_okq (⟨"Flaghall", "addParty", "(ZI)I"⟩, 9) := ⟨⟨by decide +kernel, by decide +kernel⟩, List.mem_of_getElem? (i := 19) (by decide +kernel), List.mem_of_getElem? (i := 335) (by decide +kernel), List.mem_of_getElem? (i := 336) (by decide +kernel)⟩
theorem lw_p3 : lw_okq (⟨"Flaghall", "needParty", "(I)V"⟩, 9) := ⟨⟨by decide +kernel, by decide +kernel⟩, List.mem_of_getElem? (i := 19) (by decide +kernel), List.mem_of_getElem? (i := 354) (by decide +kernel), List.mem_of_getElem? (i := 355) (by decide +kernel)⟩
theorem lw_p4 : lw_okq (⟨"Flaghall", "needWithin", "(III)V"⟩, 9) := ⟨⟨by decide +kernel, by decide +kernel⟩, List.mem_of_getElem? (i := 19) (by decide +kernel), List.mem_of_getElem? (i := 359) (by decide +kernel), List.mem_of_getElem? (i := 360) (by decide +kernel)⟩
theorem lw_p5 : lw_okq (⟨"Flaghall$Party", "partsOfParties", "()I"⟩, 5) := ⟨⟨by decide +kernel, by decide +kernel⟩, List.mem_of_getElem? (i := 133) (by decide +kernel), List.mem_of_getElem? (i := 364) (by decide +kernel), List.mem_of_getElem? (i := 365) (by decide +kernel)⟩
theorem lw_p6 : lw_okq (⟨"Flaghall", "findHomes", "()V"⟩, 9) := ⟨⟨by decide +kernel, by decide +kernel⟩, List.mem_of_getElem? (i := 19) (by decide +kernel), List.mem_of_getElem? (i := 369) (by decide +kernel), List.mem_of_getElem? (i := 370) (by decide +kernel)⟩
theorem lw_p7 : lw_okq (⟨"Flaghall", "landOfMost", "([I)I"⟩, 9) := ⟨⟨by decide +kernel, by decide +kernel⟩, List.mem_of_getElem? (i := 19) (by decide +kernel), List.mem_of_getElem? (i := 373) (by decide +kernel), List.mem_of_getElem? (i := 374) (by decide +kernel)⟩
theorem lw_p8 : lw_okq (⟨"Flaghall", "checkGrace", "(LFlaghall$Ship;)V"⟩, 9) := ⟨⟨by decide +kernel, by decide +kernel⟩, List.mem_of_getElem? (i := 19) (by decide +kernel), List.mem_of_getElem? (i := 380) (by decide +kernel), List.mem_of_getElem? (i := 381) (by decide +kernel)⟩
theorem lw_p9 : lw_okq (⟨"Flaghall$Ship", "takeName", "([CI)V"⟩, 5) := ⟨⟨by decide +kernel, by decide +kernel⟩, List.mem_of_getElem? (i := 158) (by decide +kernel), List.mem_of_getElem? (i := 400) (by decide +kernel), List.mem_of_getElem? (i := 401) (by decide +kernel)⟩
theorem lw_p10 : lw_okq (⟨"Flaghall$Ship", "isHeard", "(C)Z"⟩, 5) := ⟨⟨by decide +kernel, by decide +kernel⟩, List.mem_of_getElem? (i := 158) (by decide +kernel), List.mem_of_getElem? (i := 404) (by decide +kernel), List.mem_of_getElem? (i := 405) (by decide +kernel)⟩
theorem lw_p11 : lw_okq (⟨"Flaghall$Ship", "soundsLike", "(LFlaghall$Ship;)Z"⟩, 5) := ⟨⟨by decide +kernel, by decide +kernel⟩, List.mem_of_getElem? (i := 158) (by decide +kernel), List.mem_of_getElem? (i := 408) (by decide +kernel), List.mem_of_getElem? (i := 409) (by decide +kernel)⟩
theorem lw_p12 : lw_okq (⟨"Flaghall$Ship", "handTo", "(I)V"⟩, 5) := ⟨⟨by decide +kernel, by decide +kernel⟩, List.mem_of_getElem? (i := 158) (by decide +kernel), List.mem_of_getElem? (i := 412) (by decide +kernel), List.mem_of_getElem? (i := 413) (by decide +kernel)⟩
theorem lw_p13 : lw_okq (⟨"Flaghall", "needShip", "(I)V"⟩, 9) := ⟨⟨by decide +kernel, by decide +kernel⟩, List.mem_of_getElem? (i := 19) (by decide +kernel), List.mem_of_getElem? (i := 424) (by decide +kernel), List.mem_of_getElem? (i := 425) (by decide +kernel)⟩
theorem lw_p14 : lw_okq (⟨"Flaghall$Ship", "flagAt", "(J)I"⟩, 5) := ⟨⟨by decide +kernel, by decide +kernel⟩, List.mem_of_getElem? (i := 158) (by decide +kernel), List.mem_of_getElem? (i := 439) (by decide +kernel), List.mem_of_getElem? (i := 440) (by decide +kernel)⟩
theorem lw_p15 : lw_okq (⟨"Flaghall", "needRoomInBook", "()V"⟩, 9) := ⟨⟨by decide +kernel, by decide +kernel⟩, List.mem_of_getElem? (i := 19) (by decide +kernel), List.mem_of_getElem? (i := 451) (by decide +kernel), List.mem_of_getElem? (i := 452) (by decide +kernel)⟩
def lw_privs_1 : List (MethodName × Nat) := [(⟨"java/lang/Throwable", "fillInStackTrace", "(I)Ljava/lang/Throwable;"⟩, 6), (⟨"Flaghall", "needLand", "(I)V"⟩, 9), (⟨"Flaghall", "addParty", "(ZI)I"⟩, 9), (⟨"Flaghall", "needParty", "(I)V"⟩, 9), (⟨"Flaghall", "needWithin", "(III)V"⟩, 9), (⟨"Flaghall$Party", "partsOfParties", "()I"⟩, 5), (⟨"Flaghall", "findHomes", "()V"⟩, 9), (⟨"Flaghall", "landOfMost", "([I)I"⟩, 9), (⟨"Flaghall", "checkGrace", "(LFlaghall$Ship;)V"⟩, 9), (⟨"Flaghall$Ship", "takeName", "([CI)V"⟩, 5), (⟨"Flaghall$Ship", "isHeard", "(C)Z"⟩, 5), (⟨"Flaghall$Ship", "soundsLike", "(LFlaghall$Ship;)Z"⟩, 5), (⟨"Flaghall$Ship", "handTo", "(I)V"⟩, 5), (⟨"Flaghall", "needShip", "(I)V"⟩, 9), (⟨"Flaghall$Ship", "flagAt", "(J)I"⟩, 5), (⟨"Flaghall", "needRoomInBook", "()V"⟩, 9)]
theorem lw_r1 : ∀ q ∈ lw_privs_1, lw_okq q := List.forall_mem_cons.mpr ⟨lw_p0, List.forall_mem_cons.mpr ⟨lw_p1, List.forall_mem_cons.mpr ⟨lw_p2, List.forall_mem_cons.mpr ⟨lw_p3, List.forall_mem_cons.mpr ⟨lw_p4, List.forall_mem_cons.mpr ⟨lw_p5, List.forall_mem_cons.mpr ⟨lw_p6, List.forall_mem_cons.mpr ⟨lw_p7, List.forall_mem_cons.mpr ⟨lw_p8, List.forall_mem_cons.mpr ⟨lw_p9, List.forall_mem_cons.mpr ⟨lw_p10, List.forall_mem_cons.mpr ⟨lw_p11, List.forall_mem_cons.mpr ⟨lw_p12, List.forall_mem_cons.mpr ⟨lw_p13, List.forall_mem_cons.mpr ⟨lw_p14, List.forall_mem_cons.mpr ⟨lw_p15, fun _ h => absurd h List.not_mem_nil⟩⟩⟩⟩⟩⟩⟩⟩⟩⟩⟩⟩⟩⟩⟩⟩
theorem lw_p16 : lw_okq (⟨"Flaghall$Book", "enter", "(LFlaghall$Kind;IIJ)LFlaghall$Paper;"⟩, 5) := ⟨⟨by decide +kernel, by decide +kernel⟩, List.mem_of_getElem? (i := 31) (by decide +kernel), List.mem_of_getElem? (i := 457) (by decide +kernel), List.mem_of_getElem? (i := 458) (by decide +kernel)⟩
theorem lw_p17 : lw_okq (⟨"Flaghall$Book", "enterMortgage", "(IIIJ)I"⟩, 5) := ⟨⟨by decide +kernel, by decide +kernel⟩, List.mem_of_getElem? (i := 31) (by decide +kernel), List.mem_of_getElem? (i := 469) (by decide +kernel), List.mem_of_getElem? (i := 470) (by decide +kernel)⟩
theorem lw_p18 : lw_okq (⟨"Flaghall$Book", "takePlace", "(IIJ)I"⟩, 5) := ⟨⟨by decide +kernel, by decide +kernel⟩, List.mem_of_getElem? (i := 31) (by decide +kernel), List.mem_of_getElem? (i := 473) (by decide +kernel), List.mem_of_getElem? (i := 474) (by decide +kernel)⟩
theorem lw_p19 : lw_okq (⟨"Flaghall$Book", "firstOpenRow", "(I)I"⟩, 5) := ⟨⟨by decide +kernel, by decide +kernel⟩, List.mem_of_getElem? (i := 31) (by decide +kernel), List.mem_of_getElem? (i := 477) (by decide +kernel), List.mem_of_getElem? (i := 478) (by decide +kernel)⟩
theorem lw_p20 : lw_okq (⟨"Flaghall$Paper", "holdsPlaceFor", "(IIJ)Z"⟩, 9) := ⟨⟨by decide +kernel, by decide +kernel⟩, List.mem_of_getElem? (i := 40) (by decide +kernel), List.mem_of_getElem? (i := 483) (by decide +kernel), List.mem_of_getElem? (i := 484) (by decide +kernel)⟩
theorem lw_p21 : lw_okq (⟨"Flaghall", "needMortgage", "(I)V"⟩, 9) := ⟨⟨by decide +kernel, by decide +kernel⟩, List.mem_of_getElem? (i := 19) (by decide +kernel), List.mem_of_getElem? (i := 498) (by decide +kernel), List.mem_of_getElem? (i := 499) (by decide +kernel)⟩
theorem lw_p22 : lw_okq (⟨"Flaghall$Book", "rankOf", "(IJ)I"⟩, 5) := ⟨⟨by decide +kernel, by decide +kernel⟩, List.mem_of_getElem? (i := 31) (by decide +kernel), List.mem_of_getElem? (i := 503) (by decide +kernel), List.mem_of_getElem? (i := 504) (by decide +kernel)⟩
theorem lw_p23 : lw_okq (⟨"Flaghall$Book", "readUpTo", "(IJ)V"⟩, 5) := ⟨⟨by decide +kernel, by decide +kernel⟩, List.mem_of_getElem? (i := 31) (by decide +kernel), List.mem_of_getElem? (i := 507) (by decide +kernel), List.mem_of_getElem? (i := 508) (by decide +kernel)⟩
theorem lw_p24 : lw_okq (⟨"Flaghall$Book", "read", "(LFlaghall$Paper;)V"⟩, 5) := ⟨⟨by decide +kernel, by decide +kernel⟩, List.mem_of_getElem? (i := 31) (by decide +kernel), List.mem_of_getElem? (i := 512) (by decide +kernel), List.mem_of_getElem? (i := 513) (by decide +kernel)⟩
theorem lw_p25 : lw_okq (⟨"Flaghall$Book", "isOver", "(I)Z"⟩, 5) := ⟨⟨by decide +kernel, by decide +kernel⟩, List.mem_of_getElem? (i := 31) (by decide +kernel), List.mem_of_getElem? (i := 518) (by decide +kernel), List.mem_of_getElem? (i := 519) (by decide +kernel)⟩
theorem lw_p26 : lw_okq (⟨"Flaghall$Book", "enterDischarge", "(IZJ)V"⟩, 5) := ⟨⟨by decide +kernel, by decide +kernel⟩, List.mem_of_getElem? (i := 31) (by decide +kernel), List.mem_of_getElem? (i := 523) (by decide +kernel), List.mem_of_getElem? (i := 524) (by decide +kernel)⟩
theorem lw_p27 : lw_okq (⟨"Flaghall", "payLiens", "(IJ)J"⟩, 9) := ⟨⟨by decide +kernel, by decide +kernel⟩, List.mem_of_getElem? (i := 19) (by decide +kernel), List.mem_of_getElem? (i := 546) (by decide +kernel), List.mem_of_getElem? (i := 547) (by decide +kernel)⟩
theorem lw_p28 : lw_okq (⟨"Flaghall$Paper", "isLienOn", "(IJ)Z"⟩, 9) := ⟨⟨by decide +kernel, by decide +kernel⟩, List.mem_of_getElem? (i := 40) (by decide +kernel), List.mem_of_getElem? (i := 551) (by decide +kernel), List.mem_of_getElem? (i := 552) (by decide +kernel)⟩
theorem lw_p29 : lw_okq (⟨"Flaghall", "pay", "(IJ)J"⟩, 9) := ⟨⟨by decide +kernel, by decide +kernel⟩, List.mem_of_getElem? (i := 19) (by decide +kernel), List.mem_of_getElem? (i := 560) (by decide +kernel), List.mem_of_getElem? (i := 561) (by decide +kernel)⟩
theorem lw_p30 : lw_okq (⟨"Flaghall", "payMortgages", "(IJ)J"⟩, 9) := ⟨⟨by decide +kernel, by decide +kernel⟩, List.mem_of_getElem? (i := 19) (by decide +kernel), List.mem_of_getElem? (i := 564) (by decide +kernel), List.mem_of_getElem? (i := 565) (by decide +kernel)⟩
theorem lw_p31 : lw_okq (⟨"Flaghall", "payOwners", "(LFlaghall$Ship;J)J"⟩, 9) := ⟨⟨by decide +kernel, by decide +kernel⟩, List.mem_of_getElem? (i := 19) (by decide +kernel), List.mem_of_getElem? (i := 569) (by decide +kernel), List.mem_of_getElem? (i := 570) (by decide +kernel)⟩
def lw_privs_2 : List (MethodName × Nat) := [(⟨"Flaghall$Book", "enter", "(LFlaghall$Kind;IIJ)LFlaghall$Paper;"⟩, 5), (⟨"Flaghall$Book", "enterMortgage", "(IIIJ)I"⟩, 5), (⟨"Flaghall$Book", "takePlace", "(IIJ)I"⟩, 5), (⟨"Flaghall$Book", "firstOpenRow", "(I)I"⟩, 5), (⟨"Flaghall$Paper", "holdsPlaceFor", "(IIJ)Z"⟩, 9), (⟨"Flaghall", "needMortgage", "(I)V"⟩, 9), (⟨"Flaghall$Book", "rankOf", "(IJ)I"⟩, 5), (⟨"Flaghall$Book", "readUpTo", "(IJ)V"⟩, 5), (⟨"Flaghall$Book", "read", "(LFlaghall$Paper;)V"⟩, 5), (⟨"Flaghall$Book", "isOver", "(I)Z"⟩, 5), (⟨"Flaghall$Book", "enterDischarge", "(IZJ)V"⟩, 5), (⟨"Flaghall", "payLiens", "(IJ)J"⟩, 9), (⟨"Flaghall$Paper", "isLienOn", "(IJ)Z"⟩, 9), (⟨"Flaghall", "pay", "(IJ)J"⟩, 9), (⟨"Flaghall", "payMortgages", "(IJ)J"⟩, 9), (⟨"Flaghall", "payOwners", "(LFlaghall$Ship;J)J"⟩, 9)]
theorem lw_r2 : ∀ q ∈ lw_privs_2, lw_okq q := List.forall_mem_cons.mpr ⟨lw_p16, List.forall_mem_cons.mpr ⟨lw_p17, List.forall_mem_cons.mpr ⟨lw_p18, List.forall_mem_cons.mpr ⟨lw_p19, List.forall_mem_cons.mpr ⟨lw_p20, List.forall_mem_cons.mpr ⟨lw_p21, List.forall_mem_cons.mpr ⟨lw_p22, List.forall_mem_cons.mpr ⟨lw_p23, List.forall_mem_cons.mpr ⟨lw_p24, List.forall_mem_cons.mpr ⟨lw_p25, List.forall_mem_cons.mpr ⟨lw_p26, List.forall_mem_cons.mpr ⟨lw_p27, List.forall_mem_cons.mpr ⟨lw_p28, List.forall_mem_cons.mpr ⟨lw_p29, List.forall_mem_cons.mpr ⟨lw_p30, List.forall_mem_cons.mpr ⟨lw_p31, fun _ h => absurd h List.not_mem_nil⟩⟩⟩⟩⟩⟩⟩⟩⟩⟩⟩⟩⟩⟩⟩⟩
theorem lw_p32 : lw_okq (⟨"Flaghall", "needNotNegative", "(I)V"⟩, 9) := ⟨⟨by decide +kernel, by decide +kernel⟩, List.mem_of_getElem? (i := 19) (by decide +kernel), List.mem_of_getElem? (i := 597) (by decide +kernel), List.mem_of_getElem? (i := 598) (by decide +kernel)⟩
theorem lw_p33 : lw_okq (⟨"Flaghall$Book", "mortgageOfRank", "(IIJ)I"⟩, 5) := ⟨⟨by decide +kernel, by decide +kernel⟩, List.mem_of_getElem? (i := 31) (by decide +kernel), List.mem_of_getElem? (i := 624) (by decide +kernel), List.mem_of_getElem? (i := 625) (by decide +kernel)⟩
theorem lw_p34 : lw_okq (⟨"FlaghallModel", "isParty", "(I)Z"⟩, 31) := ⟨⟨by decide +kernel, by decide +kernel⟩, List.mem_of_getElem? (i := 642) (by decide +kernel), List.mem_of_getElem? (i := 770) (by decide +kernel), List.mem_of_getElem? (i := 771) (by decide +kernel)⟩
theorem lw_p35 : lw_okq (⟨"FlaghallModel", "lookAtFlag", "(I)V"⟩, 31) := ⟨⟨by decide +kernel, by decide +kernel⟩, List.mem_of_getElem? (i := 642) (by decide +kernel), List.mem_of_getElem? (i := 774) (by decide +kernel), List.mem_of_getElem? (i := 775) (by decide +kernel)⟩
theorem lw_p36 : lw_okq (⟨"FlaghallModel", "canFly", "(II)Z"⟩, 31) := ⟨⟨by decide +kernel, by decide +kernel⟩, List.mem_of_getElem? (i := 642) (by decide +kernel), List.mem_of_getElem? (i := 778) (by decide +kernel), List.mem_of_getElem? (i := 779) (by decide +kernel)⟩
theorem lw_p37 : lw_okq (⟨"FlaghallModel", "findLands", "()V"⟩, 31) := ⟨⟨by decide +kernel, by decide +kernel⟩, List.mem_of_getElem? (i := 642) (by decide +kernel), List.mem_of_getElem? (i := 782) (by decide +kernel), List.mem_of_getElem? (i := 783) (by decide +kernel)⟩
theorem lw_p38 : lw_okq (⟨"FlaghallModel", "landOf", "(I)I"⟩, 31) := ⟨⟨by decide +kernel, by decide +kernel⟩, List.mem_of_getElem? (i := 642) (by decide +kernel), List.mem_of_getElem? (i := 786) (by decide +kernel), List.mem_of_getElem? (i := 787) (by decide +kernel)⟩
theorem lw_p39 : lw_okq (⟨"FlaghallModel", "hear", "()V"⟩, 31) := ⟨⟨by decide +kernel, by decide +kernel⟩, List.mem_of_getElem? (i := 642) (by decide +kernel), List.mem_of_getElem? (i := 799) (by decide +kernel), List.mem_of_getElem? (i := 800) (by decide +kernel)⟩
theorem lw_p40 : lw_okq (⟨"FlaghallModel", "isHeard", "(I)Z"⟩, 31) := ⟨⟨by decide +kernel, by decide +kernel⟩, List.mem_of_getElem? (i := 642) (by decide +kernel), List.mem_of_getElem? (i := 806) (by decide +kernel), List.mem_of_getElem? (i := 807) (by decide +kernel)⟩
theorem lw_p41 : lw_okq (⟨"FlaghallModel", "isShip", "(I)Z"⟩, 31) := ⟨⟨by decide +kernel, by decide +kernel⟩, List.mem_of_getElem? (i := 642) (by decide +kernel), List.mem_of_getElem? (i := 814) (by decide +kernel), List.mem_of_getElem? (i := 815) (by decide +kernel)⟩
theorem lw_p42 : lw_okq (⟨"FlaghallModel", "flagNow", "(I)I"⟩, 31) := ⟨⟨by decide +kernel, by decide +kernel⟩, List.mem_of_getElem? (i := 642) (by decide +kernel), List.mem_of_getElem? (i := 822) (by decide +kernel), List.mem_of_getElem? (i := 823) (by decide +kernel)⟩
theorem lw_p43 : lw_okq (⟨"FlaghallModel", "enter", "(IIIII)I"⟩, 31) := ⟨⟨by decide +kernel, by decide +kernel⟩, List.mem_of_getElem? (i := 642) (by decide +kernel), List.mem_of_getElem? (i := 831) (by decide +kernel), List.mem_of_getElem? (i := 832) (by decide +kernel)⟩
theorem lw_p44 : lw_okq (⟨"FlaghallModel", "noticeFor", "(II)I"⟩, 31) := ⟨⟨by decide +kernel, by decide +kernel⟩, List.mem_of_getElem? (i := 642) (by decide +kernel), List.mem_of_getElem? (i := 840) (by decide +kernel), List.mem_of_getElem? (i := 841) (by decide +kernel)⟩
theorem lw_p45 : lw_okq (⟨"FlaghallModel", "isMortgage", "(I)Z"⟩, 31) := ⟨⟨by decide +kernel, by decide +kernel⟩, List.mem_of_getElem? (i := 642) (by decide +kernel), List.mem_of_getElem? (i := 849) (by decide +kernel), List.mem_of_getElem? (i := 850) (by decide +kernel)⟩
theorem lw_p46 : lw_okq (⟨"FlaghallModel", "paysAll", "(I)V"⟩, 31) := ⟨⟨by decide +kernel, by decide +kernel⟩, List.mem_of_getElem? (i := 642) (by decide +kernel), List.mem_of_getElem? (i := 862) (by decide +kernel), List.mem_of_getElem? (i := 863) (by decide +kernel)⟩
theorem lw_p47 : lw_okq (⟨"FlaghallModel", "isLien", "(II)Z"⟩, 31) := ⟨⟨by decide +kernel, by decide +kernel⟩, List.mem_of_getElem? (i := 642) (by decide +kernel), List.mem_of_getElem? (i := 866) (by decide +kernel), List.mem_of_getElem? (i := 867) (by decide +kernel)⟩
def lw_privs_3 : List (MethodName × Nat) := [(⟨"Flaghall", "needNotNegative", "(I)V"⟩, 9), (⟨"Flaghall$Book", "mortgageOfRank", "(IIJ)I"⟩, 5), (⟨"FlaghallModel", "isParty", "(I)Z"⟩, 31), (⟨"FlaghallModel", "lookAtFlag", "(I)V"⟩, 31), (⟨"FlaghallModel", "canFly", "(II)Z"⟩, 31), (⟨"FlaghallModel", "findLands", "()V"⟩, 31), (⟨"FlaghallModel", "landOf", "(I)I"⟩, 31), (⟨"FlaghallModel", "hear", "()V"⟩, 31), (⟨"FlaghallModel", "isHeard", "(I)Z"⟩, 31), (⟨"FlaghallModel", "isShip", "(I)Z"⟩, 31), (⟨"FlaghallModel", "flagNow", "(I)I"⟩, 31), (⟨"FlaghallModel", "enter", "(IIIII)I"⟩, 31), (⟨"FlaghallModel", "noticeFor", "(II)I"⟩, 31), (⟨"FlaghallModel", "isMortgage", "(I)Z"⟩, 31), (⟨"FlaghallModel", "paysAll", "(I)V"⟩, 31), (⟨"FlaghallModel", "isLien", "(II)Z"⟩, 31)]
theorem lw_r3 : ∀ q ∈ lw_privs_3, lw_okq q := List.forall_mem_cons.mpr ⟨lw_p32, List.forall_mem_cons.mpr ⟨lw_p33, List.forall_mem_cons.mpr ⟨lw_p34, List.forall_mem_cons.mpr ⟨lw_p35, List.forall_mem_cons.mpr ⟨lw_p36, List.forall_mem_cons.mpr ⟨lw_p37, List.forall_mem_cons.mpr ⟨lw_p38, List.forall_mem_cons.mpr ⟨lw_p39, List.forall_mem_cons.mpr ⟨lw_p40, List.forall_mem_cons.mpr ⟨lw_p41, List.forall_mem_cons.mpr ⟨lw_p42, List.forall_mem_cons.mpr ⟨lw_p43, List.forall_mem_cons.mpr ⟨lw_p44, List.forall_mem_cons.mpr ⟨lw_p45, List.forall_mem_cons.mpr ⟨lw_p46, List.forall_mem_cons.mpr ⟨lw_p47, fun _ h => absurd h List.not_mem_nil⟩⟩⟩⟩⟩⟩⟩⟩⟩⟩⟩⟩⟩⟩⟩⟩
theorem lw_p48 : lw_okq (⟨"FlaghallModel", "pays", "(I)V"⟩, 31) := ⟨⟨by decide +kernel, by decide +kernel⟩, List.mem_of_getElem? (i := 642) (by decide +kernel), List.mem_of_getElem? (i := 871) (by decide +kernel), List.mem_of_getElem? (i := 872) (by decide +kernel)⟩
theorem lw_p49 : lw_okq (⟨"FlaghallModel", "isThere", "(II)Z"⟩, 31) := ⟨⟨by decide +kernel, by decide +kernel⟩, List.mem_of_getElem? (i := 642) (by decide +kernel), List.mem_of_getElem? (i := 875) (by decide +kernel), List.mem_of_getElem? (i := 876) (by decide +kernel)⟩
theorem lw_p50 : lw_okq (⟨"FlaghallModel", "rankOf", "(I)I"⟩, 31) := ⟨⟨by decide +kernel, by decide +kernel⟩, List.mem_of_getElem? (i := 642) (by decide +kernel), List.mem_of_getElem? (i := 879) (by decide +kernel), List.mem_of_getElem? (i := 880) (by decide +kernel)⟩
theorem lw_p51 : lw_okq (⟨"FlaghallModel", "findBook", "(IJ)V"⟩, 31) := ⟨⟨by decide +kernel, by decide +kernel⟩, List.mem_of_getElem? (i := 642) (by decide +kernel), List.mem_of_getElem? (i := 909) (by decide +kernel), List.mem_of_getElem? (i := 910) (by decide +kernel)⟩
def lw_privs_4 : List (MethodName × Nat) := [(⟨"FlaghallModel", "pays", "(I)V"⟩, 31), (⟨"FlaghallModel", "isThere", "(II)Z"⟩, 31), (⟨"FlaghallModel", "rankOf", "(I)I"⟩, 31), (⟨"FlaghallModel", "findBook", "(IJ)V"⟩, 31)]
theorem lw_r4 : ∀ q ∈ lw_privs_4, lw_okq q := List.forall_mem_cons.mpr ⟨lw_p48, List.forall_mem_cons.mpr ⟨lw_p49, List.forall_mem_cons.mpr ⟨lw_p50, List.forall_mem_cons.mpr ⟨lw_p51, fun _ h => absurd h List.not_mem_nil⟩⟩⟩⟩
def lw_privs : List (MethodName × Nat) := lw_privs_1 ++ (lw_privs_2 ++ (lw_privs_3 ++ (lw_privs_4)))
def lw_tbl : List Cond := k2_sels lw_privs ++ tables_1
theorem lw_privs_ok : ∀ q ∈ lw_privs, lw_okq q := by
  show ∀ q ∈ lw_privs_1 ++ (lw_privs_2 ++ (lw_privs_3 ++ (lw_privs_4))), lw_okq q
  exact List.forall_mem_append.mpr ⟨lw_r1, List.forall_mem_append.mpr ⟨lw_r2, List.forall_mem_append.mpr ⟨lw_r3, lw_r4⟩⟩⟩
-- ===== end of PART A; then your names; then what follows =====
/-! ===== BEGIN words of one list among another's, by their places ===== -/
theorem goodIn_r {big : List Cond} (ws : List Cond) (ps : List Nat) (hp : ws = ps.filterMap (fun i => big[i]?)) (h : ws.all goodWord = true) : GoodIn big ws := by
  intro w hw
  have h1 := List.all_eq_true.mp h w hw
  rw [hp] at hw
  obtain ⟨i, -, hi⟩ := List.mem_filterMap.mp hw
  have hm : w ∈ big := by first | exact List.mem_of_getElem? hi | exact List.getElem?_mem hi
  exact ⟨hm, good_of_word h1⟩
theorem goodIn_app {big a b : List Cond} (ha : GoodIn big a) (hb : GoodIn big b) : GoodIn big (a ++ b) := fun w h => (List.mem_append.mp h).elim (ha w) (hb w)
theorem goodIn_ca {big a b : List Cond} {c : Cond} (ha : GoodIn big (c :: a)) (hb : GoodIn big b) : GoodIn big (c :: (a ++ b)) := fun w h => (List.mem_cons.mp h).elim (fun e => ha w (List.mem_cons.mpr (Or.inl e))) (fun h => (List.mem_append.mp h).elim (fun h => ha w (List.mem_cons.mpr (Or.inr h))) (hb w))
theorem goodIn_sub {big ws : List Cond} (hm : ∀ w ∈ ws, w ∈ big) (h : ws.all goodWord = true) : GoodIn big ws := fun w hw => ⟨hm w hw, good_of_word (List.all_eq_true.mp h w hw)⟩
/-! ===== END ===== -/

/-! ===== BEGIN exceptions that leave a method, and their catching by the caller (launches without stack traces) ===== -/
section VXA
/-! The laws vx_back, vx_callV, vx_callS, vx_callSW, vx_throw0, vx_throwS follow proofs of the library, with one case more: JvmDerived/Free/Laws.lean (Back.of_free), Shelf42/LK1.lean (callV, callS), Shelf/KitTraced.lean (throwNew0V, throwNewS). -/
/-- where a method has thrown q: the class by its name, the cell, what was written, the world -/
def vx_T (XC : String → State → State → Prop) (st : State) (q : Addr) (t : State) (mc ms : Nat) (free : Addr → Prop) : Prop :=
  ∃ (E : String) (ce : Cell) (L : List Loc), XC E st t ∧ t.heap[q]? = some ce ∧ ce.vm = .none ∧ st.vm.findClass E = some ce.cls ∧ st.WarmedH t.vm ∧ st.sameButNew ({ t with vm := st.vm } : State) L mc ms ∧ ∀ z ∈ L, free z.base
def vx_Q (Qc : Array Value → State → Outcome → State → Prop) (XC : String → State → State → Prop) (mc ms : Nat) (free : Addr → Prop) : Array Value → State → Outcome → State → Prop := fun a st o t =>
  (Qc a st o t ∧ ∃ L, FrameEnd st o t L mc ms ∧ ∀ q ∈ L, free q.base) ∨ ∃ q, o = .threw q ∧ vx_T XC st q t mc ms free
/-- a callee that returns or throws -/
def vx_Met (l : Launch) (y : MethodName) (ws : List Cond) (rm : Room) (Pc : Array Value → State → Prop) (Qc : Array Value → State → Outcome → State → Prop) (XC : String → State → State → Prop) (mc ms : Nat) (free : Addr → Prop) : Prop :=
  MetFree l y (headSpec ws rm) Pc (fun _ _ _ _ _ => True) (vx_Q Qc XC mc ms free)
def vx_Post (XC : String → State → State → Prop) (mc ms : Nat) (free : Addr → Prop) : Pt → Array Value → Addr → Pt → Prop := fun A a q B =>
  ∃ (g : JFrame) (mk : MethodId) (t : State) (L : List Loc) (E : String) (ce : Cell), B.U.heap = t.heap ∧ B.U.vm = t.vm ∧ XC E (A.U.calling g mk a) t ∧ t.heap[q]? = some ce ∧ ce.vm = .none ∧ A.U.vm.findClass E = some ce.cls ∧ B.locs = A.locs ++ L ∧ (∀ z ∈ L, free z.base) ∧ B.cells = A.cells + mc ∧ B.slots = A.slots + ms
def vx_Back (l : Launch) (R : Room) (p : Program) (e : Env) (below : List Frame) (s : State) (sargs : Array Value) (y : MethodName) (len W9 : Nat)
    (Pre : Pt → Array Value → Prop) (Post : Pt → Array Value → Option Value → Pt → Prop) (PostX : Pt → Array Value → Addr → Pt → Prop) : Prop :=
  ∀ (m : MethodId) (meth : Method) (c : Code) (A : Pt) (g : JFrame) (ig : Instr) (mk : MethodId) (a : Array Value),
    Stand p l e R s m sargs below meth c A.U A.locs A.cells A.slots → g.method = m → g.locals.size = c.maxLocals → decode c.code g.pc = .ok (ig, len) →
    2 * g.monitorRoom + (g.stack.map fun v => v.category).sum ≤ W9 → A.U.methodNamed? y = some mk → Pre A a →
    (∃ (v : Option Value) (B : Pt), Stand p l e R s m sargs below meth c B.U B.locs B.cells B.slots ∧ Post A a v B ∧
      Steps p.tables e below (doInvoke e (A.U.setTop g) [] mk a).1 (B.U.setTop { g with pc := g.pc + len, stack := v.toList ++ g.stack })) ∨
    (∃ (q : Addr) (B : Pt), Stand p l e R s m sargs below meth c B.U B.locs B.cells B.slots ∧ PostX A a q B ∧
      Steps p.tables e below (doInvoke e (A.U.setTop g) [] mk a).1 ((B.U.setTop g).pushFrame (.throwing q)))
section Payer
variable {l : Launch} {R : Room} {p : Program} {e : Env} {below : List Frame} {s : State} {sargs : Array Value} {y : MethodName} {len W9 : Nat}
theorem vx_back {ws : List Cond} {rm : Room} {Pc : Array Value → State → Prop} {Qc : Array Value → State → Outcome → State → Prop} {XC : String → State → State → Prop} {mc ms : Nat} {free : Addr → Prop} {bytes : ByteArray} {maxL : Nat} {ret : Option FieldType}
    (hM : vx_Met l y ws rm Pc Qc XC mc ms free) (hblind : FrameBlind Pc) (hrc : rm.cells = mc) (hrs : rm.slots = ms)
    (hframes : rm.frames + 1 ≤ R.frames) (hlocals : W9 + (maxL + 11) + rm.locals ≤ R.locals)
    (hws : ∀ w ∈ ws, ∀ a' U, s.WarmedH U.vm → w.before a' U = true) (hcode : Cond.code y bytes maxL ret ∈ ws) (hinit : ∀ a' U, s.WarmedH U.vm → (Cond.initialized y.cls).before a' U = true) :
    vx_Back l R p e below s sargs y len W9 (PreOf R mc ms Pc) (PostOf Qc mc ms free) (vx_Post XC mc ms free) := by
  intro m meth c A g ig mk a X hg hsize hdg hW hn hp
  have h1 : (headSpec ws rm).pre.before a A.U = true := atoms_intro fun w hw => hws w hw _ _ X.warmed
  have h2 : (Cond.code y bytes maxL ret).before a A.U = true := hws _ hcode _ _ X.warmed
  have h3 : (Cond.initialized y.cls).before a A.U = true := hinit _ _ X.warmed
  have h4 : A.cells + (headSpec ws rm).room.cells ≤ R.cells := by rw [show (headSpec ws rm).room.cells = mc from hrc]; exact hp.1
  have h5 : A.slots + (headSpec ws rm).room.slots ≤ R.slots := by rw [show (headSpec ws rm).room.slots = ms from hrs]; exact hp.2.1
  have hPc : Pc a (A.U.calling g mk a) := hblind _ _ _ _ hp.2.2
  obtain ⟨U, Ls, c0, s0⟩ := A
  dsimp only [Pt.U, Pt.locs, Pt.cells, Pt.slots] at h1 h2 h3 h4 h5 X hn hPc ⊢
  obtain ⟨methY, cY, hmY, hcY, -, hlY, -, -, -, -⟩ := Cond.code_spec hn h2
  obtain ⟨kY, hkY, -⟩ := className_of_methodNamed hn
  have hinitY : kY.init = .initialized := Cond.initialized_spec (findClass_of_methodNamed hn) hkY h3
  have h : At U g.method c below := by rw [hg]; exact X.here
  have hlocals9 : W9 + (maxL + 11) + (headSpec ws rm).room.locals ≤ R.locals := hlocals
  have happ : (headSpec ws rm).appliesLoose y e.platform (U.calling g mk a) = true :=
    Spec.appliesLoose_calling (g := g) h hdg hn hkY hinitY
      (X.room_calling (g := g) (R' := (headSpec ws rm).room) hsize hmY hcY hframes (by rw [hlY]; omega) h4 h5) h1
  obtain ⟨mid, hmid⟩ := h.above
  have hfr : (U.setTop g).frames = (.java g :: mid) ++ below := by rw [State.frames_setTop' g h.top, hmid]; rfl
  obtain ⟨o, s₂, hsteps, -, hend, hq⟩ := Steps.callFree hM p X.admits X.cas X.clock (acts := []) hfr happ hPc trivial
  have hq' : vx_Q Qc XC mc ms free a (U.calling g mk a) o s₂ := hq
  rw [State.frames_setTop' g h.top] at hend
  obtain ⟨g₀, hg0⟩ := Option.isSome_iff_exists.mp h.top
  obtain ⟨r, hr⟩ := State.topJava?_eq_some.mp hg0
  have hr' : (({ U with heap := s₂.heap, slotsUsed := s₂.slotsUsed } : State).setVm s₂.vm).frames = .java g₀ :: r := hr
  rcases hq' with ⟨hqc, L, hfe, hL⟩ | ⟨q, rfl, E, ce, L, hx, hce, hcv, hcl, hW₂, hsm, hL⟩
  · obtain ⟨⟨v, rfl⟩, hW₂, e2, q2, q3, q4, q5, q6⟩ := id hfe
    have e3 : s₂ = ({ (U.calling g mk a).setFrames s₂.frames with heap := s₂.heap, slotsUsed := s₂.slotsUsed } : State).setVm s₂.vm := by
      have : s₂ = ({ s₂ with vm := (U.calling g mk a).vm } : State).setVm s₂.vm := rfl
      rw [e2] at this
      exact this
    obtain ⟨c₂, i₂, len₂, hc₂, hd₂, hf₂⟩ := hend
    have hW' : U.WarmedH s₂.vm := hW₂
    have hcc : c₂ = c := by
      have h1 : s₂.code? g.method = U.code? g.method := by
        rw [State.code?_eq, State.code?_eq, hW'.alike.method?]
      exact Option.some.inj (hc₂.symm.trans (h1.trans h.code))
    subst hcc
    have hlen : len₂ = len := by rw [hdg] at hd₂; cases hd₂; rfl
    subst hlen
    have hs₂ : s₂ = (({ U with heap := s₂.heap, slotsUsed := s₂.slotsUsed } : State).setVm s₂.vm).setTop { g with pc := g.pc + len₂, stack := v.toList ++ g.stack } := by
      refine e3.trans ?_
      rw [hf₂, State.calling_eq h.top, State.setFrames_setFrames, State.setTop_of_frames _ hr', hr]
      rfl
    have hsame : U.sameButNew ({ U with heap := s₂.heap, slotsUsed := s₂.slotsUsed } : State) L mc ms := by
      refine ⟨?_, q2, q3, q4, q5, q6⟩
      obtain ⟨t, ht, -⟩ := State.frames_cons hr
      show ({ U with heap := s₂.heap, slotsUsed := s₂.slotsUsed } : State) = { U.setFrames U.frames with heap := s₂.heap, slotsUsed := s₂.slotsUsed }
      rw [State.setFrames_self ht]
    subst hg
    refine Or.inl ⟨v, ⟨(({ U with heap := s₂.heap, slotsUsed := s₂.slotsUsed } : State).setVm s₂.vm), Ls ++ L, c0 + mc, s0 + ms⟩,
      ⟨X.admits, X.cas, X.clock, X.frames, X.room, X.hears, X.method, X.code, (X.here.setHeapUsed s₂.heap s₂.slotsUsed).setVm hW'.alike, X.tail, State.WarmedH.trans X.warmed hW', X.limits, X.bytes, X.same.trans (hsame.setVm s.vm)⟩,
      ⟨g, mk, s₂, L, rfl, rfl, hqc, rfl, hL, rfl, rfl⟩, ?_⟩
    show Steps p.tables e below _ ((({ U with heap := s₂.heap, slotsUsed := s₂.slotsUsed } : State).setVm s₂.vm).setTop { g with pc := g.pc + len₂, stack := v.toList ++ g.stack })
    rw [← hs₂]
    exact hsteps
  · obtain ⟨e2, q2, q3, q4, q5, q6⟩ := id hsm
    have e3 : s₂ = ({ (U.calling g mk a).setFrames s₂.frames with heap := s₂.heap, slotsUsed := s₂.slotsUsed } : State).setVm s₂.vm := by
      have : s₂ = ({ s₂ with vm := (U.calling g mk a).vm } : State).setVm s₂.vm := rfl
      rw [e2] at this
      exact this
    have hf₂ : s₂.frames = .throwing q :: .java g :: U.frames.tail := hend
    have hW' : U.WarmedH s₂.vm := hW₂
    have hs₂ : s₂ = ((({ U with heap := s₂.heap, slotsUsed := s₂.slotsUsed } : State).setVm s₂.vm).setTop g).pushFrame (.throwing q) := by
      refine e3.trans ?_
      rw [hf₂, State.calling_eq h.top, State.setFrames_setFrames, State.pushFrame, State.frames_setTop _ hr', State.setTop_of_frames _ hr', State.setFrames_setFrames, hr]
      rfl
    have hsame : U.sameButNew ({ U with heap := s₂.heap, slotsUsed := s₂.slotsUsed } : State) L mc ms := by
      refine ⟨?_, q2, q3, q4, q5, q6⟩
      obtain ⟨t, ht, -⟩ := State.frames_cons hr
      show ({ U with heap := s₂.heap, slotsUsed := s₂.slotsUsed } : State) = { U.setFrames U.frames with heap := s₂.heap, slotsUsed := s₂.slotsUsed }
      rw [State.setFrames_self ht]
    subst hg
    refine Or.inr ⟨q, ⟨(({ U with heap := s₂.heap, slotsUsed := s₂.slotsUsed } : State).setVm s₂.vm), Ls ++ L, c0 + mc, s0 + ms⟩,
      ⟨X.admits, X.cas, X.clock, X.frames, X.room, X.hears, X.method, X.code, (X.here.setHeapUsed s₂.heap s₂.slotsUsed).setVm hW'.alike, X.tail, State.WarmedH.trans X.warmed hW', X.limits, X.bytes, X.same.trans (hsame.setVm s.vm)⟩,
      ⟨g, mk, s₂, L, E, ce, rfl, rfl, hx, hce, hcv, hcl, rfl, hL, rfl, rfl⟩, ?_⟩
    show Steps p.tables e below _ (((({ U with heap := s₂.heap, slotsUsed := s₂.slotsUsed } : State).setVm s₂.vm).setTop g).pushFrame (.throwing q))
    rw [← hs₂]
    exact hsteps
end Payer
section Calls
variable {p : Program} {l : Launch} {e : Env} {R : Room} {s : State} {m : MethodId} {args : Array Value} {below : List Frame} {meth : Method} {c : Code} {T : State} {locs : List Loc} {cells slots : Nat}
theorem vx_callV (X : Stand p l e R s m args below meth c T locs cells slots) (hexec : p.tables.exec = Jvm.exec) {own C : String} {index : Nat} {y : MethodName} {bytes : ByteArray} {maxL : Nat} {ret : Option FieldType}
    (hown : s.vm.findClass own = some m.cls) (hlink : (Cond.methodLink own index y).before args s = true) (hinst : (Cond.instanceMethod y).before args s = true) (hsel : (Cond.selects C y y).before args s = true)
    (hcode : (Cond.code y bytes maxL ret).before args s = true) (hy : y.cls ≠ "java/lang/invoke/MethodHandle" ∧ y.cls ≠ "java/lang/invoke/VarHandle")
    {W9 : Nat} {Pre : Pt → Array Value → Prop} {Post : Pt → Array Value → Option Value → Pt → Prop} {PostX : Pt → Array Value → Addr → Pt → Prop} (hK : vx_Back l R p e below s args y 3 W9 Pre Post PostX)
    {b : Addr} {cellB : Cell} (hcell : T.heap[b]? = some cellB) (hobj : cellB.vm.isStatics = false) (hcls : s.vm.findClass C = some cellB.cls)
    {g : JFrame} (hg : g.method = m) (hsize : g.locals.size = c.maxLocals) {argsL rest : List Value} (hlen : ∀ sig, parseMethodDescriptor y.desc = some sig → argsL.length = sig.parameters.length)
    (hstack : g.stack = argsL.reverse ++ .ref b :: rest) (hW : 2 * g.monitorRoom + (rest.map fun v => v.category).sum ≤ W9) (hdg : decode c.code g.pc = .ok (.invokevirtual index, 3))
    (hpre : ∀ vm₁, s.WarmedH vm₁ → Pre ⟨T.setVm vm₁, locs, cells, slots⟩ (Value.ref b :: argsL).toArray) :
    (∃ (v : Option Value) (vm₁ : Vm) (B : Pt), s.WarmedH vm₁ ∧ Stand p l e R s m args below meth c B.U B.locs B.cells B.slots ∧ Post ⟨T.setVm vm₁, locs, cells, slots⟩ (Value.ref b :: argsL).toArray v B ∧
      ∀ target, Steps p.tables e below (B.U.setTop { g with pc := g.pc + 3, stack := v.toList ++ rest }) target → Steps p.tables e below (T.setTop g) target) ∨
    (∃ (q : Addr) (vm₁ : Vm) (B : Pt), s.WarmedH vm₁ ∧ Stand p l e R s m args below meth c B.U B.locs B.cells B.slots ∧ PostX ⟨T.setVm vm₁, locs, cells, slots⟩ (Value.ref b :: argsL).toArray q B ∧
      Steps p.tables e below (T.setTop g) ((B.U.setTop { g with stack := rest }).pushFrame (.throwing q))) := by
  obtain ⟨mk, methM, hnamed, hmethM, hstM, habM⟩ := Cond.instanceMethod_spec hinst
  obtain ⟨methM', cM, hmethM', -, -, -, -, -, -, hsigM⟩ := Cond.code_spec hnamed hcode
  cases hmethM.symm.trans hmethM'
  obtain ⟨c2, r2, m2, q1, q2, q3, q4, kP, hkP, hkPi⟩ := Cond.selects_spec hsel
  cases hcls.symm.trans q1
  cases (State.methodFound?_of_named hnamed hy).symm.trans q2
  cases hnamed.symm.trans q3
  have hselP : selectMethod e.platform s.vm cellB.cls mk = .method mk := by rw [Launch.admits_selectMethod X.admits]; exact q4
  obtain ⟨vm₁, X₁, hstep₁⟩ := X.invokevirtual hexec hown hlink hnamed hmethM hstM hkP hkPi hy (a := b) (cell := cellB) hcell
    (fun z h => by rw [h] at hobj; cases hobj) hselP hmethM habM hkP hkPi (g := g) hg (argsL := argsL) (rest := rest) (hlen _ hsigM) hstack hdg
  rcases hK m meth c ⟨T.setVm vm₁, locs, cells, slots⟩ { g with stack := rest } (.invokevirtual index) mk (Value.ref b :: argsL).toArray X₁ hg hsize hdg hW (X₁.named hnamed) (hpre vm₁ X₁.warmed) with ⟨v, B, X', hpost, hsteps⟩ | ⟨q, B, X', hpost, hsteps⟩
  · exact Or.inl ⟨v, vm₁, B, X₁.warmed, X', hpost, fun target h => hstep₁ _ fun acts => by rw [doInvoke_state]; exact hsteps.trans h⟩
  · exact Or.inr ⟨q, vm₁, B, X₁.warmed, X', hpost, hstep₁ _ fun acts => by rw [doInvoke_state]; exact hsteps⟩
theorem vx_callS (X : Stand p l e R s m args below meth c T locs cells slots) (hexec : p.tables.exec = Jvm.exec) {own : String} {index : Nat} {y : MethodName} {bytes : ByteArray} {maxL : Nat} {ret : Option FieldType}
    (hown : s.vm.findClass own = some m.cls) (hlink : (Cond.methodLink own index y).before args s = true) (hstat : (Cond.static y).before args s = true) (hinit : (Cond.initialized y.cls).before args s = true)
    (hcode : (Cond.code y bytes maxL ret).before args s = true) (hy : y.cls ≠ "java/lang/invoke/MethodHandle" ∧ y.cls ≠ "java/lang/invoke/VarHandle")
    {W9 : Nat} {Pre : Pt → Array Value → Prop} {Post : Pt → Array Value → Option Value → Pt → Prop} {PostX : Pt → Array Value → Addr → Pt → Prop} (hK : vx_Back l R p e below s args y 3 W9 Pre Post PostX)
    {g : JFrame} (hg : g.method = m) (hsize : g.locals.size = c.maxLocals) {argsL rest : List Value} (hlen : ∀ sig, parseMethodDescriptor y.desc = some sig → argsL.length = sig.parameters.length)
    (hstack : g.stack = argsL.reverse ++ rest) (hW : 2 * g.monitorRoom + (rest.map fun v => v.category).sum ≤ W9) (hdg : decode c.code g.pc = .ok (.invokestatic index, 3))
    (hpre : ∀ vm₁, s.WarmedH vm₁ → Pre ⟨T.setVm vm₁, locs, cells, slots⟩ argsL.toArray) :
    (∃ (v : Option Value) (vm₁ : Vm) (B : Pt), s.WarmedH vm₁ ∧ Stand p l e R s m args below meth c B.U B.locs B.cells B.slots ∧ Post ⟨T.setVm vm₁, locs, cells, slots⟩ argsL.toArray v B ∧
      ∀ target, Steps p.tables e below (B.U.setTop { g with pc := g.pc + 3, stack := v.toList ++ rest }) target → Steps p.tables e below (T.setTop g) target) ∨
    (∃ (q : Addr) (vm₁ : Vm) (B : Pt), s.WarmedH vm₁ ∧ Stand p l e R s m args below meth c B.U B.locs B.cells B.slots ∧ PostX ⟨T.setVm vm₁, locs, cells, slots⟩ argsL.toArray q B ∧
      Steps p.tables e below (T.setTop g) ((B.U.setTop { g with stack := rest }).pushFrame (.throwing q))) := by
  obtain ⟨mk, hnamed⟩ := Cond.code_named hcode
  obtain ⟨methM, cM, hmethM, -, -, -, -, -, -, hsigM⟩ := Cond.code_spec hnamed hcode
  have hstatic : methM.isStatic = true := Cond.static_spec hnamed hmethM hstat
  obtain ⟨kP, hkP, -⟩ := className_of_methodNamed hnamed
  have hinitP : kP.init = .initialized := Cond.initialized_spec (findClass_of_methodNamed hnamed) hkP hinit
  obtain ⟨vm₁, X₁, hstep₁⟩ := X.invokestatic hexec hown hlink hnamed hmethM hstatic hkP hinitP hy (g := g) hg (argsL := argsL) (rest := rest) (hlen _ hsigM) hstack hdg
  rcases hK m meth c ⟨T.setVm vm₁, locs, cells, slots⟩ { g with stack := rest } (.invokestatic index) mk argsL.toArray X₁ hg hsize hdg hW (X₁.named hnamed) (hpre vm₁ X₁.warmed) with ⟨v, B, X', hpost, hsteps⟩ | ⟨q, B, X', hpost, hsteps⟩
  · exact Or.inl ⟨v, vm₁, B, X₁.warmed, X', hpost, fun target h => hstep₁ _ fun acts => by rw [doInvoke_state]; exact hsteps.trans h⟩
  · exact Or.inr ⟨q, vm₁, B, X₁.warmed, X', hpost, hstep₁ _ fun acts => by rw [doInvoke_state]; exact hsteps⟩
end Calls
theorem vx_cls {s : State} {T : State} {vm₁ : Vm} {E : String} {k : ClassId} (hW : s.WarmedH vm₁) (h : (T.setVm vm₁).vm.findClass E = some k) : s.vm.findClass E = some k := by
  have h1 : vm₁.findClass E = some k := h
  rw [hW.alike.findClass] at h1
  exact h1
/-- the method's frame g, with q thrown over it -/
def vx_W (p : Program) (l : Launch) (e : Env) (R : Room) (s : State) (m : MethodId) (args : Array Value) (below : List Frame) (meth : Method) (c : Code) (H : Heap) (locs : List Loc) (cells slots : Nat) (Q : State → Prop) (g : JFrame) (q : Addr) : Prop :=
  ∀ T : State, T.heap = H → Stand p l e R s m args below meth c T locs cells slots → ∃ t, Steps p.tables e below ((T.setTop g).pushFrame (.throwing q)) t ∧ Q t
def vx_Run (p : Program) (l : Launch) (e : Env) (R : Room) (s : State) (m : MethodId) (args : Array Value) (below : List Frame) (meth : Method) (c : Code) (H : Heap) (locs : List Loc) (cells slots mc ms : Nat) (g : JFrame) (rest : List Value) (Qa : State → Outcome → State → Prop) (XC : String → State → State → Prop) (free : Addr → Prop) : Prop :=
  ∀ T : State, T.heap = H → Stand p l e R s m args below meth c T locs cells slots →
    (∃ (v : Option Value) (st₀ t T' : State) (L : List Loc), st₀.heap = H ∧ Stand p l e R s m args below meth c T' (locs ++ L) (cells + mc) (slots + ms) ∧ (∀ q ∈ L, free q.base) ∧ T'.heap = t.heap ∧ T'.vm = t.vm ∧ Qa st₀ (.returned v) t ∧
      Goes p e below T g T' { g with pc := g.pc + 3, stack := v.toList ++ rest }) ∨
    (∃ (q : Addr) (st₀ t T' : State) (L : List Loc) (E : String) (ce : Cell), st₀.heap = H ∧ Stand p l e R s m args below meth c T' (locs ++ L) (cells + mc) (slots + ms) ∧ (∀ z ∈ L, free z.base) ∧ T'.heap = t.heap ∧ T'.vm = t.vm ∧ XC E st₀ t ∧ t.heap[q]? = some ce ∧ ce.vm = .none ∧ s.vm.findClass E = some ce.cls ∧
      Steps p.tables e below (T.setTop g) ((T'.setTop { g with stack := rest }).pushFrame (.throwing q)))
def vx_X {S : Type} (px : S → Prop) (B : String → S → State → Prop) (A : Nat → Prop) : String → State → State → Prop := fun E st t => ∃ u : S, px u ∧ B E u t ∧ va_F A st t
section Runs
variable {p : Program} {l : Launch} {e : Env} {R : Room} {s : State} {m : MethodId} {args : Array Value} {below : List Frame} {meth : Method} {c : Code} {H : Heap} {locs : List Loc} {cells slots : Nat}
variable {y : MethodName} {bytes cc : ByteArray} {maxL nL mc ms n index : Nat} {ret : Option FieldType} {ws : List Cond} {rm : Room} {Pc : Array Value → State → Prop} {Qc : Array Value → State → Outcome → State → Prop} {XC : String → State → State → Prop} {free : Addr → Prop} {Ts : List Cond} {own C : String} {b : Addr} {As rest : List Value} {g : JFrame}
theorem vx_callBack (cb : CallB R s args own index y bytes maxL ret ws rm mc ms n) (hM : vx_Met l y ws rm Pc Qc XC mc ms free) (hbl : FrameBlind Pc) : vx_Back l R p e below s args y 3 8 (PreOf R mc ms Pc) (PostOf Qc mc ms free) (vx_Post XC mc ms free) := by
  obtain ⟨hrc, hrs, hfr, hlo, hws, hcw, -, hini, -⟩ := cb
  exact vx_back (bytes := bytes) (maxL := maxL) (ret := ret) hM hbl hrc hrs hfr hlo hws hcw (fun a' U hW => word_at hW (Or.inl (by first | rfl | simp [Cond.onTables, Cond.keeps, Cond.steady])) hini)
theorem vx_runV (S : CallFix p m c cc nL s args Ts own) (hM : vx_Met l y ws rm Pc Qc XC mc ms free) (cw : CallW R s args own C index y bytes maxL ret ws rm mc ms n) (hp : PreV s H C b Pc As)
    (hg : g.method = m) (hn : As.length = n) (hsize : g.locals.size = nL) (hstack : g.stack = As.reverse ++ .ref b :: rest) (hW : 2 * g.monitorRoom + (rest.map fun v => v.category).sum ≤ 8) (hdg : decode cc g.pc = .ok (.invokevirtual index, 3)) (hf : cells + mc ≤ R.cells ∧ slots + ms ≤ R.slots) :
    vx_Run p l e R s m args below meth c H locs cells slots mc ms g rest (Qc (Value.ref b :: As).toArray) XC free := by
  have hK : vx_Back l R p e below s args y 3 8 (PreOf R mc ms Pc) (PostOf Qc mc ms free) (vx_Post XC mc ms free) := vx_callBack cw.1 hM hp.1
  obtain ⟨⟨-, -, -, -, -, -, hcode, -, hy, hlen, hl⟩, hin, hse⟩ := cw
  obtain ⟨hx, hb, hml, ho, -⟩ := S
  obtain ⟨-, ⟨cellB, hcB, hoB, hclB⟩, hPc⟩ := hp
  intro T hT X
  rcases vx_callV X hx (C := C) (bytes := bytes) (maxL := maxL) (ret := ret) ho hl hin hse hcode hy hK (by rw [hT]; exact hcB) hoB hclB hg (hsize.trans hml.symm) (argsL := As) (rest := rest) (fun sig h => hn.trans (hlen sig h)) hstack hW (by rw [hb]; exact hdg)
    (fun vm₁ hW₁ => ⟨hf.1, hf.2, hPc (T.setVm vm₁) hT hW₁⟩) with ⟨v, vm₁, ⟨U', l2, c2, s2⟩, hW₁, X', ⟨g', mk, t, L, e1, e2, hq, h1, hL, h2, h3⟩, st⟩ | ⟨q, vm₁, ⟨U', l2, c2, s2⟩, hW₁, X', ⟨g', mk, t, L, E, ce, e1, e2, hq, hce, hcv, hcl, h1, hL, h2, h3⟩, st⟩
  · dsimp only [Pt.U, Pt.locs, Pt.cells, Pt.slots] at X' e1 e2 h1 h2 h3 st
    subst h1; subst h2; subst h3
    exact Or.inl ⟨v, (T.setVm vm₁).calling g' mk (Value.ref b :: As).toArray, t, U', L, hT, X', hL, e1, e2, hq, st⟩
  · dsimp only [Pt.U, Pt.locs, Pt.cells, Pt.slots] at X' e1 e2 h1 h2 h3 st hcl
    subst h1; subst h2; subst h3
    exact Or.inr ⟨q, (T.setVm vm₁).calling g' mk (Value.ref b :: As).toArray, t, U', L, E, ce, hT, X', hL, e1, e2, hq, hce, hcv, vx_cls hW₁ hcl, st⟩
theorem vx_runS (S : CallFix p m c cc nL s args Ts own) (hM : vx_Met l y ws rm Pc Qc XC mc ms free) (cw : CallB R s args own index y bytes maxL ret ws rm mc ms n ∧ (Cond.static y).before args s = true) (hp : PreS s H Pc As)
    (hg : g.method = m) (hn : As.length = n) (hsize : g.locals.size = nL) (hstack : g.stack = As.reverse ++ rest) (hW : 2 * g.monitorRoom + (rest.map fun v => v.category).sum ≤ 8) (hdg : decode cc g.pc = .ok (.invokestatic index, 3)) (hf : cells + mc ≤ R.cells ∧ slots + ms ≤ R.slots) :
    vx_Run p l e R s m args below meth c H locs cells slots mc ms g rest (Qc As.toArray) XC free := by
  have hK : vx_Back l R p e below s args y 3 8 (PreOf R mc ms Pc) (PostOf Qc mc ms free) (vx_Post XC mc ms free) := vx_callBack cw.1 hM hp.1
  obtain ⟨⟨-, -, -, -, -, -, hcode, hini, hy, hlen, hl⟩, hstt⟩ := cw
  obtain ⟨hx, hb, hml, ho, -⟩ := S
  intro T hT X
  rcases vx_callS X hx (bytes := bytes) (maxL := maxL) (ret := ret) ho hl hstt hini hcode hy hK hg (hsize.trans hml.symm) (argsL := As) (rest := rest) (fun sig h => hn.trans (hlen sig h)) hstack hW (by rw [hb]; exact hdg)
    (fun vm₁ hW₁ => ⟨hf.1, hf.2, hp.2 (T.setVm vm₁) hT hW₁⟩) with ⟨v, vm₁, ⟨U', l2, c2, s2⟩, hW₁, X', ⟨g', mk, t, L, e1, e2, hq, h1, hL, h2, h3⟩, st⟩ | ⟨q, vm₁, ⟨U', l2, c2, s2⟩, hW₁, X', ⟨g', mk, t, L, E, ce, e1, e2, hq, hce, hcv, hcl, h1, hL, h2, h3⟩, st⟩
  · dsimp only [Pt.U, Pt.locs, Pt.cells, Pt.slots] at X' e1 e2 h1 h2 h3 st
    subst h1; subst h2; subst h3
    exact Or.inl ⟨v, (T.setVm vm₁).calling g' mk As.toArray, t, U', L, hT, X', hL, e1, e2, hq, st⟩
  · dsimp only [Pt.U, Pt.locs, Pt.cells, Pt.slots] at X' e1 e2 h1 h2 h3 st hcl
    subst h1; subst h2; subst h3
    exact Or.inr ⟨q, (T.setVm vm₁).calling g' mk As.toArray, t, U', L, E, ce, hT, X', hL, e1, e2, hq, hce, hcv, vx_cls hW₁ hcl, st⟩
end Runs
section Rows
variable {p : Program} {l : Launch} {e : Env} {R : Room} {s : State} {m : MethodId} {args : Array Value} {below : List Frame} {meth : Method} {c : Code} {H : Heap} {locs : List Loc} {cells slots : Nat} {Q : State → Prop}
variable {mc ms : Nat} {free : Addr → Prop} {A0 A1 : Nat → Prop} {H0 : Heap} {a : Array Value} {pc : Nat} {ls : Array Slot} {st0 rest : List Value}
theorem vx_keep {st₀ t T' : State} {L : List Loc} (h0 : st₀.heap = H) (e1 : T'.heap = t.heap) (hS : va_S A0 H0 H locs) (hA : ∀ q, q < H.size → A1 q → A0 q) (hf : ∀ q, free q → A0 q) (hL : ∀ q ∈ L, free q.base) (hF : va_F A1 st₀ t) :
    H.size ≤ T'.heap.size ∧ (∀ q : Nat, q < H.size → ¬ A1 q → T'.heap[q]? = H[q]?) ∧ va_S A0 H0 T'.heap (locs ++ L) := by
  obtain ⟨hz, hk⟩ := hF
  rw [h0] at hz hk
  exact ⟨by rw [e1]; exact hz, fun q h1 h2 => by rw [e1]; exact hk q h1 h2,
    ⟨Nat.le_trans hS.1 (by rw [e1]; exact hz), fun q h1 h2 => by rw [e1, hk q (Nat.lt_of_lt_of_le h1 hS.1) (fun z => h2 (hA q (Nat.lt_of_lt_of_le h1 hS.1) z))]; exact hS.2.1 q h1 h2, fun q hq => by
      rcases List.mem_append.mp hq with h | h
      · exact hS.2.2 q h
      · exact hf _ (hL q h)⟩⟩
theorem vx_calli {S SX : Type} {post : Int32 → S → Prop} {px : SX → Prop} {B : S → State → Prop} {BX : String → SX → State → Prop} {AX : Nat → Prop} (hr : vx_Run p l e R s m args below meth c H locs cells slots mc ms (F0 m pc ls st0) rest (va_Qi post B A1 a) (vx_X px BX AX) free) (hS : va_S A0 H0 H locs) (hA : ∀ q, q < H.size → A1 q → A0 q) (hf : ∀ q, free q → A0 q) (hAX : ∀ q, q < H.size → AX q → A0 q)
    (kx : ∀ (E : String) (ce : Cell) (q9 : Addr) (u : SX) (t : State) (H1 : Heap) (locs1 : List Loc), t.heap = H1 → s.vm.Alike t.vm → px u → BX E u t → H.size ≤ H1.size → (∀ q : Nat, q < H.size → ¬ AX q → H1[q]? = H[q]?) → va_S A0 H0 H1 locs1 → H1[q9]? = some ce → ce.vm = .none → s.vm.findClass E = some ce.cls → vx_W p l e R s m args below meth c H1 locs1 (cells + mc) (slots + ms) Q (F0 m pc ls rest) q9)
    (kk : ∀ (r : Int32) (u : S) (t : State) (H1 : Heap) (locs1 : List Loc), t.heap = H1 → s.vm.Alike t.vm → post r u → B u t → H.size ≤ H1.size → (∀ q : Nat, q < H.size → ¬ A1 q → H1[q]? = H[q]?) → va_S A0 H0 H1 locs1 → W p l e R s m args below meth c H1 locs1 (cells + mc) (slots + ms) Q (F0 m (pc + 3) ls (.int r :: rest))) : W p l e R s m args below meth c H locs cells slots Q (F0 m pc ls st0) := by
  intro T hT X
  rcases hr T hT X with ⟨v, st₀, t, T', L, h0, X', hL, e1, e2, ⟨⟨r, u, hv, hp, hb⟩, hF⟩, st⟩ | ⟨q, st₀, t, T', L, E, ce, h0, X', hL, e1, e2, ⟨u, hp, hb, hF⟩, hce, hcv, hcl, st⟩
  · cases hv
    obtain ⟨k1, k2, k3⟩ := vx_keep h0 e1 hS hA hf hL hF
    obtain ⟨t2, a1, b1⟩ := kk r u t T'.heap (locs ++ L) e1.symm (by rw [← e2]; exact X'.warmed.alike) hp hb k1 k2 k3 T' rfl X'
    exact ⟨t2, st t2 a1, b1⟩
  · obtain ⟨k1, k2, k3⟩ := vx_keep h0 e1 hS hAX hf hL hF
    obtain ⟨t2, a1, b1⟩ := kx E ce q u t T'.heap (locs ++ L) e1.symm (by rw [← e2]; exact X'.warmed.alike) hp hb k1 k2 k3 (by rw [e1]; exact hce) hcv hcl T' rfl X'
    exact ⟨t2, st.trans a1, b1⟩
theorem vx_calll {S SX : Type} {post : Int64 → S → Prop} {px : SX → Prop} {B : S → State → Prop} {BX : String → SX → State → Prop} {AX : Nat → Prop} (hr : vx_Run p l e R s m args below meth c H locs cells slots mc ms (F0 m pc ls st0) rest (va_Ql post B A1 a) (vx_X px BX AX) free) (hS : va_S A0 H0 H locs) (hA : ∀ q, q < H.size → A1 q → A0 q) (hf : ∀ q, free q → A0 q) (hAX : ∀ q, q < H.size → AX q → A0 q)
    (kx : ∀ (E : String) (ce : Cell) (q9 : Addr) (u : SX) (t : State) (H1 : Heap) (locs1 : List Loc), t.heap = H1 → s.vm.Alike t.vm → px u → BX E u t → H.size ≤ H1.size → (∀ q : Nat, q < H.size → ¬ AX q → H1[q]? = H[q]?) → va_S A0 H0 H1 locs1 → H1[q9]? = some ce → ce.vm = .none → s.vm.findClass E = some ce.cls → vx_W p l e R s m args below meth c H1 locs1 (cells + mc) (slots + ms) Q (F0 m pc ls rest) q9)
    (kk : ∀ (r : Int64) (u : S) (t : State) (H1 : Heap) (locs1 : List Loc), t.heap = H1 → s.vm.Alike t.vm → post r u → B u t → H.size ≤ H1.size → (∀ q : Nat, q < H.size → ¬ A1 q → H1[q]? = H[q]?) → va_S A0 H0 H1 locs1 → W p l e R s m args below meth c H1 locs1 (cells + mc) (slots + ms) Q (F0 m (pc + 3) ls (.long r :: rest))) : W p l e R s m args below meth c H locs cells slots Q (F0 m pc ls st0) := by
  intro T hT X
  rcases hr T hT X with ⟨v, st₀, t, T', L, h0, X', hL, e1, e2, ⟨⟨r, u, hv, hp, hb⟩, hF⟩, st⟩ | ⟨q, st₀, t, T', L, E, ce, h0, X', hL, e1, e2, ⟨u, hp, hb, hF⟩, hce, hcv, hcl, st⟩
  · cases hv
    obtain ⟨k1, k2, k3⟩ := vx_keep h0 e1 hS hA hf hL hF
    obtain ⟨t2, a1, b1⟩ := kk r u t T'.heap (locs ++ L) e1.symm (by rw [← e2]; exact X'.warmed.alike) hp hb k1 k2 k3 T' rfl X'
    exact ⟨t2, st t2 a1, b1⟩
  · obtain ⟨k1, k2, k3⟩ := vx_keep h0 e1 hS hAX hf hL hF
    obtain ⟨t2, a1, b1⟩ := kx E ce q u t T'.heap (locs ++ L) e1.symm (by rw [← e2]; exact X'.warmed.alike) hp hb k1 k2 k3 (by rw [e1]; exact hce) hcv hcl T' rfl X'
    exact ⟨t2, st.trans a1, b1⟩
theorem vx_callf {S SX : Type} {post : UInt32 → S → Prop} {px : SX → Prop} {B : S → State → Prop} {BX : String → SX → State → Prop} {AX : Nat → Prop} (hr : vx_Run p l e R s m args below meth c H locs cells slots mc ms (F0 m pc ls st0) rest (va_Qf post B A1 a) (vx_X px BX AX) free) (hS : va_S A0 H0 H locs) (hA : ∀ q, q < H.size → A1 q → A0 q) (hf : ∀ q, free q → A0 q) (hAX : ∀ q, q < H.size → AX q → A0 q)
    (kx : ∀ (E : String) (ce : Cell) (q9 : Addr) (u : SX) (t : State) (H1 : Heap) (locs1 : List Loc), t.heap = H1 → s.vm.Alike t.vm → px u → BX E u t → H.size ≤ H1.size → (∀ q : Nat, q < H.size → ¬ AX q → H1[q]? = H[q]?) → va_S A0 H0 H1 locs1 → H1[q9]? = some ce → ce.vm = .none → s.vm.findClass E = some ce.cls → vx_W p l e R s m args below meth c H1 locs1 (cells + mc) (slots + ms) Q (F0 m pc ls rest) q9)
    (kk : ∀ (r : UInt32) (u : S) (t : State) (H1 : Heap) (locs1 : List Loc), t.heap = H1 → s.vm.Alike t.vm → post r u → B u t → H.size ≤ H1.size → (∀ q : Nat, q < H.size → ¬ A1 q → H1[q]? = H[q]?) → va_S A0 H0 H1 locs1 → W p l e R s m args below meth c H1 locs1 (cells + mc) (slots + ms) Q (F0 m (pc + 3) ls (.float r :: rest))) : W p l e R s m args below meth c H locs cells slots Q (F0 m pc ls st0) := by
  intro T hT X
  rcases hr T hT X with ⟨v, st₀, t, T', L, h0, X', hL, e1, e2, ⟨⟨r, u, hv, hp, hb⟩, hF⟩, st⟩ | ⟨q, st₀, t, T', L, E, ce, h0, X', hL, e1, e2, ⟨u, hp, hb, hF⟩, hce, hcv, hcl, st⟩
  · cases hv
    obtain ⟨k1, k2, k3⟩ := vx_keep h0 e1 hS hA hf hL hF
    obtain ⟨t2, a1, b1⟩ := kk r u t T'.heap (locs ++ L) e1.symm (by rw [← e2]; exact X'.warmed.alike) hp hb k1 k2 k3 T' rfl X'
    exact ⟨t2, st t2 a1, b1⟩
  · obtain ⟨k1, k2, k3⟩ := vx_keep h0 e1 hS hAX hf hL hF
    obtain ⟨t2, a1, b1⟩ := kx E ce q u t T'.heap (locs ++ L) e1.symm (by rw [← e2]; exact X'.warmed.alike) hp hb k1 k2 k3 (by rw [e1]; exact hce) hcv hcl T' rfl X'
    exact ⟨t2, st.trans a1, b1⟩
theorem vx_calld {S SX : Type} {post : UInt64 → S → Prop} {px : SX → Prop} {B : S → State → Prop} {BX : String → SX → State → Prop} {AX : Nat → Prop} (hr : vx_Run p l e R s m args below meth c H locs cells slots mc ms (F0 m pc ls st0) rest (va_Qd post B A1 a) (vx_X px BX AX) free) (hS : va_S A0 H0 H locs) (hA : ∀ q, q < H.size → A1 q → A0 q) (hf : ∀ q, free q → A0 q) (hAX : ∀ q, q < H.size → AX q → A0 q)
    (kx : ∀ (E : String) (ce : Cell) (q9 : Addr) (u : SX) (t : State) (H1 : Heap) (locs1 : List Loc), t.heap = H1 → s.vm.Alike t.vm → px u → BX E u t → H.size ≤ H1.size → (∀ q : Nat, q < H.size → ¬ AX q → H1[q]? = H[q]?) → va_S A0 H0 H1 locs1 → H1[q9]? = some ce → ce.vm = .none → s.vm.findClass E = some ce.cls → vx_W p l e R s m args below meth c H1 locs1 (cells + mc) (slots + ms) Q (F0 m pc ls rest) q9)
    (kk : ∀ (r : UInt64) (u : S) (t : State) (H1 : Heap) (locs1 : List Loc), t.heap = H1 → s.vm.Alike t.vm → post r u → B u t → H.size ≤ H1.size → (∀ q : Nat, q < H.size → ¬ A1 q → H1[q]? = H[q]?) → va_S A0 H0 H1 locs1 → W p l e R s m args below meth c H1 locs1 (cells + mc) (slots + ms) Q (F0 m (pc + 3) ls (.double r :: rest))) : W p l e R s m args below meth c H locs cells slots Q (F0 m pc ls st0) := by
  intro T hT X
  rcases hr T hT X with ⟨v, st₀, t, T', L, h0, X', hL, e1, e2, ⟨⟨r, u, hv, hp, hb⟩, hF⟩, st⟩ | ⟨q, st₀, t, T', L, E, ce, h0, X', hL, e1, e2, ⟨u, hp, hb, hF⟩, hce, hcv, hcl, st⟩
  · cases hv
    obtain ⟨k1, k2, k3⟩ := vx_keep h0 e1 hS hA hf hL hF
    obtain ⟨t2, a1, b1⟩ := kk r u t T'.heap (locs ++ L) e1.symm (by rw [← e2]; exact X'.warmed.alike) hp hb k1 k2 k3 T' rfl X'
    exact ⟨t2, st t2 a1, b1⟩
  · obtain ⟨k1, k2, k3⟩ := vx_keep h0 e1 hS hAX hf hL hF
    obtain ⟨t2, a1, b1⟩ := kx E ce q u t T'.heap (locs ++ L) e1.symm (by rw [← e2]; exact X'.warmed.alike) hp hb k1 k2 k3 (by rw [e1]; exact hce) hcv hcl T' rfl X'
    exact ⟨t2, st.trans a1, b1⟩
theorem vx_callv {S SX : Type} {post : S → Prop} {px : SX → Prop} {B : S → State → Prop} {BX : String → SX → State → Prop} {AX : Nat → Prop} (hr : vx_Run p l e R s m args below meth c H locs cells slots mc ms (F0 m pc ls st0) rest (va_Qv post B A1 a) (vx_X px BX AX) free) (hS : va_S A0 H0 H locs) (hA : ∀ q, q < H.size → A1 q → A0 q) (hf : ∀ q, free q → A0 q) (hAX : ∀ q, q < H.size → AX q → A0 q)
    (kx : ∀ (E : String) (ce : Cell) (q9 : Addr) (u : SX) (t : State) (H1 : Heap) (locs1 : List Loc), t.heap = H1 → s.vm.Alike t.vm → px u → BX E u t → H.size ≤ H1.size → (∀ q : Nat, q < H.size → ¬ AX q → H1[q]? = H[q]?) → va_S A0 H0 H1 locs1 → H1[q9]? = some ce → ce.vm = .none → s.vm.findClass E = some ce.cls → vx_W p l e R s m args below meth c H1 locs1 (cells + mc) (slots + ms) Q (F0 m pc ls rest) q9)
    (kk : ∀ (u : S) (t : State) (H1 : Heap) (locs1 : List Loc), t.heap = H1 → s.vm.Alike t.vm → post u → B u t → H.size ≤ H1.size → (∀ q : Nat, q < H.size → ¬ A1 q → H1[q]? = H[q]?) → va_S A0 H0 H1 locs1 → W p l e R s m args below meth c H1 locs1 (cells + mc) (slots + ms) Q (F0 m (pc + 3) ls (rest))) : W p l e R s m args below meth c H locs cells slots Q (F0 m pc ls st0) := by
  intro T hT X
  rcases hr T hT X with ⟨v, st₀, t, T', L, h0, X', hL, e1, e2, ⟨⟨u, hv, hp, hb⟩, hF⟩, st⟩ | ⟨q, st₀, t, T', L, E, ce, h0, X', hL, e1, e2, ⟨u, hp, hb, hF⟩, hce, hcv, hcl, st⟩
  · cases hv
    obtain ⟨k1, k2, k3⟩ := vx_keep h0 e1 hS hA hf hL hF
    obtain ⟨t2, a1, b1⟩ := kk u t T'.heap (locs ++ L) e1.symm (by rw [← e2]; exact X'.warmed.alike) hp hb k1 k2 k3 T' rfl X'
    exact ⟨t2, st t2 a1, b1⟩
  · obtain ⟨k1, k2, k3⟩ := vx_keep h0 e1 hS hAX hf hL hF
    obtain ⟨t2, a1, b1⟩ := kx E ce q u t T'.heap (locs ++ L) e1.symm (by rw [← e2]; exact X'.warmed.alike) hp hb k1 k2 k3 (by rw [e1]; exact hce) hcv hcl T' rfl X'
    exact ⟨t2, st.trans a1, b1⟩
/-- caught by the row x of this method's table; the rows ahead don't take it -/
theorem vx_catch {own name : String} {E : String} {ce : Cell} {q : Addr} (hown : s.vm.findClass own = some m.cls) (pre : List ExceptionTableEntry) (x : ExceptionTableEntry) (suf : List ExceptionTableEntry) (hsplit : c.exceptionTable.toList = pre ++ x :: suf)
    (hpass : ∀ z ∈ pre, covers z pc = false ∨ (z.catchType ≠ 0 ∧ ∃ nm : String, (Cond.classLink own z.catchType nm).before args s = true ∧ va_Nc E nm s)) (hx : covers x pc = true) (h0 : x.catchType ≠ 0)
    (hlink : (Cond.classLink own x.catchType name).before args s = true) (hcast : (Cond.castable E name).before args s = true) (hcell : H[q]? = some ce) (hv : ce.vm = .none) (hcl : s.vm.findClass E = some ce.cls)
    (kk : W p l e R s m args below meth c H locs cells slots Q (F0 m x.handlerPc ls [.ref q])) : vx_W p l e R s m args below meth c H locs cells slots Q (F0 m pc ls rest) q := by
  intro T hT X
  have hpl : e.platform.magicAccessors = ({} : Platform).magicAccessors := by rw [X.admits.platform]
  obtain ⟨c3, c4, hc3, hc4, hasg⟩ := Cond.castable_spec hcast
  cases Option.some.inj (hc3.symm.trans hcl)
  obtain ⟨c5, hc5, hcl5⟩ := Cond.classLink_spec hown hlink e.platform hpl
  cases Option.some.inj (hc4.symm.trans hc5)
  obtain ⟨vm', X', st⟩ := X.thenCaughtThrough q (g := F0 m pc ls rest) rfl (Steps.refl _) (by rw [hT]; exact hcell) (by rw [hv]; rfl) (by obtain ⟨k9, h9, -⟩ := Vm.findClass_spec hcl; exact ⟨k9, h9⟩) pre x suf hsplit
    (fun z hz => by
      rcases hpass z hz with h | ⟨hz0, nm, hl1, hn1⟩
      · exact Or.inl h
      · obtain ⟨c6, hc6, hcl6⟩ := Cond.classLink_spec hown hl1 e.platform hpl
        obtain ⟨a8, b8, h1, h2, h3⟩ := hn1
        cases Option.some.inj (h1.symm.trans hcl)
        cases Option.some.inj (h2.symm.trans hc6)
        exact Or.inr ⟨hz0, _, hcl6, h3⟩) hx (Or.inr ⟨h0, c4, hcl5, hasg⟩)
  obtain ⟨t, a1, b1⟩ := kk (T.setVm vm') hT X'
  exact ⟨t, st.trans a1, b1⟩
end Rows
section Ends
variable {p : Program} {l : Launch} {e : Env} {R : Room} {s : State} {m : MethodId} {args : Array Value} {below : List Frame} {meth : Method} {c : Code} {H : Heap} {locs : List Loc} {cells slots : Nat} {Q : State → Prop}
variable {mc ms : Nat} {free : Addr → Prop} {A0 A1 : Nat → Prop} {H0 : Heap} {a : Array Value} {ls : Array Slot} {st0 rest : List Value}
variable {Qc : Array Value → State → Outcome → State → Prop} {XC : String → State → State → Prop}
/-- what a body that may throw owes at its end -/
def vx_MQ (below : List Frame) (Qc : Array Value → State → Outcome → State → Prop) (XC : String → State → State → Prop) (a : Array Value) (s : State) (mc ms : Nat) (free : Addr → Prop) : State → Prop := fun t =>
  ∃ o, t.status = .running ∧ Ended t below o ∧ vx_Q Qc XC mc ms free a s o t
theorem vx_ret {g : JFrame} {mc ms : Nat} (k : W p l e R s m args below meth c H locs cells slots (MQ below Qc args s mc ms free) g) : W p l e R s m args below meth c H locs cells slots (vx_MQ below Qc XC args s mc ms free) g := by
  intro T hT X
  obtain ⟨t, a1, o, b1, b2, b3, b4⟩ := k T hT X
  exact ⟨t, a1, o, b1, b2, Or.inl ⟨b3, b4⟩⟩
/-- not caught here: it goes on to the caller -/
theorem vx_widen {g : JFrame} {q : Addr} {k n : Nat} (h1 : cells ≤ k) (h2 : slots ≤ n) (kk : vx_W p l e R s m args below meth c H locs k n Q g q) : vx_W p l e R s m args below meth c H locs cells slots Q g q := fun T hT X => kk T hT (stand_widen X h1 h2)
theorem vx_out {pc : Nat} {E : String} {ce : Cell} {q : Addr} {mc ms : Nat} (hout : ∀ x ∈ c.exceptionTable.toList, covers x pc = false) (hlocks : meth.locks = false) (hcell : H[q]? = some ce) (hv : ce.vm = .none) (hcl : s.vm.findClass E = some ce.cls)
    (hx : ∀ t : State, t.heap = H → s.vm.Alike t.vm → XC E s t) (hf : ∀ z ∈ locs, free z.base) (hc : cells ≤ mc) (hs : slots ≤ ms) :
    vx_W p l e R s m args below meth c H locs cells slots (vx_MQ below Qc XC args s mc ms free) (F0 m pc ls rest) q := by
  intro T hT X
  obtain ⟨st1, hrun, hend, hW, hsm⟩ := X.leaveThrown q (g := F0 m pc ls rest) rfl rfl rfl hout hlocks
  have hcell9 : (T.setFrames (.throwing q :: below)).heap[q]? = some ce := by
    show T.heap[q]? = some ce
    rw [hT]; exact hcell
  exact ⟨_, st1, .threw q, hrun, hend, Or.inr ⟨q, rfl, E, ce, locs, hx _ hT hW.alike, hcell9, hv, hcl, hW, hsm.mono hc hs, hf⟩⟩
theorem vx_frame {U : State} {k n : Nat} (h : s.sameButNew ({ U with vm := s.vm } : State) locs k n) : s.heap.size ≤ U.heap.size ∧ ∀ q : Nat, q < s.heap.size → (∀ z ∈ locs, z.base ≠ q) → U.heap[q]? = s.heap[q]? := by
  obtain ⟨-, h2, -, -, -, h6⟩ := h
  refine ⟨h2, fun q hq hz => ?_⟩
  obtain ⟨c9, e1, e2, e3, e4⟩ := h6 q _ (Array.getElem?_eq_getElem hq)
  have hs : c9.slots = (s.heap[q]).slots := Array.ext_getElem? fun i => e4 i fun hm => hz _ hm rfl
  have h9 : c9 = s.heap[q] := by
    rw [hs] at e2
    exact e2
  have e5 : U.heap[q]? = some c9 := e1
  rw [e5, h9, Array.getElem?_eq_getElem hq]
/-- the words of a throw but the four that speak of the heap -/
def vx_no (w : Cond) : Bool := decide (w ≠ .isRef (.static Bundle.tN "UNASSIGNED_STACK" Bundle.steD)) && decide (w ≠ .isRef (.static Bundle.tN "SUPPRESSED_SENTINEL" Bundle.listD)) && decide (w ≠ .laysStatic Bundle.tN "UNASSIGNED_STACK" Bundle.steD) && decide (w ≠ .laysStatic Bundle.tN "SUPPRESSED_SENTINEL" Bundle.listD)
def vx_at0 (own : String) (ic : Nat) (X : String) (names : List String) : List Cond := (Bundle.ownAtoms0 own ic X names).filter vx_no
def vx_atS (own : String) (ic : Nat) (X : String) (names : List String) : List Cond := (Bundle.ownAtoms own ic X names).filter vx_no
/-- a word that the tables alone decide, or a good one -/
def vx_ot (w : Cond) : Bool := w.onTables || goodWord w
theorem vx_ot_at {args a' : Array Value} {s U : State} {w : Cond} (hW : s.WarmedH U.vm) (hvm : s.vm = U.vm) (hg : vx_ot w = true) (h : w.before args s = true) : w.before a' U = true := by
  simp only [vx_ot, Bool.or_eq_true] at hg
  rcases hg with hg | hg
  · exact va_tabs hg hvm h
  · exact word_at hW (good_of_word hg) h
/-- a list's words: the good ones out of the method's own list, the others by premises of their own -/
theorem vx_hat {args : Array Value} {s : State} {L B : List Cond} (h1 : ∀ w ∈ L.filter goodWord, w.before args s = true) (h2 : ∀ w ∈ L.filter (fun w => !goodWord w), w ∈ B) (h3 : ∀ w ∈ B, w.before args s = true) : ∀ w ∈ L, w.before args s = true := by
  intro w hw
  by_cases g : goodWord w = true
  · exact h1 w (List.mem_filter.mpr ⟨hw, g⟩)
  · refine h3 w (h2 w (List.mem_filter.mpr ⟨hw, ?_⟩))
    show (!goodWord w) = true
    cases hgw : goodWord w
    · rfl
    · exact absurd hgw g
theorem vx_c {args : Array Value} {s : State} {w : Cond} {B : List Cond} (h : w.before args s = true) (t : ∀ w ∈ B, w.before args s = true) : ∀ w' ∈ w :: B, w'.before args s = true := fun w' h' => (List.mem_cons.mp h').elim (fun e => by rw [e]; exact h) (t w')
theorem vx_n {args : Array Value} {s : State} : ∀ w ∈ ([] : List Cond), w.before args s = true := fun _ h => nomatch h
theorem vx_own {args : Array Value} {s : State} {L : List Cond} (h1 : ∀ w ∈ L.filter vx_no, w.before args s = true)
    (hU : (Cond.isRef (.static Bundle.tN "UNASSIGNED_STACK" Bundle.steD)).before args s = true) (hN : (Cond.isRef (.static Bundle.tN "SUPPRESSED_SENTINEL" Bundle.listD)).before args s = true)
    (lU : (Cond.laysStatic Bundle.tN "UNASSIGNED_STACK" Bundle.steD).before args s = true) (lN : (Cond.laysStatic Bundle.tN "SUPPRESSED_SENTINEL" Bundle.listD).before args s = true) : ∀ w ∈ L, w.before args s = true := by
  intro w hw
  by_cases e1 : w = .isRef (.static Bundle.tN "UNASSIGNED_STACK" Bundle.steD)
  · rw [e1]; exact hU
  · by_cases e2 : w = .isRef (.static Bundle.tN "SUPPRESSED_SENTINEL" Bundle.listD)
    · rw [e2]; exact hN
    · by_cases e3 : w = .laysStatic Bundle.tN "UNASSIGNED_STACK" Bundle.steD
      · rw [e3]; exact lU
      · by_cases e4 : w = .laysStatic Bundle.tN "SUPPRESSED_SENTINEL" Bundle.listD
        · rw [e4]; exact lN
        · exact h1 w (List.mem_filter.mpr ⟨hw, by unfold vx_no; rw [decide_eq_true e1, decide_eq_true e2, decide_eq_true e3, decide_eq_true e4]; rfl⟩)
/-- where a static field lies, its class's statics cell in H -/
def vx_L (C n d : String) (A : Nat → Prop) (U : State) (H : Heap) : Prop := ∃ (c : ClassId) (k : Class) (i : Nat) (f : Field) (a : Nat) (cell : Cell), U.vm.findClass C = some c ∧ U.fieldFound? C n d = some (c, k, i, f) ∧ f.isStatic = true ∧ k.statics = some a ∧ H[a]? = some cell ∧ cell.vm.isStatics = true ∧ cell.cls = c ∧ f.slot < cell.slots.size ∧ k.staticTypes[f.slot]? = some f.type ∧ ¬ A a
theorem vx_L.moved {C n d : String} {A : Nat → Prop} {u U : State} {H : Heap} (hvm : u.vm.Alike U.vm) (h : vx_L C n d A u H) : vx_L C n d A U H := by
  obtain ⟨c, k, i, f, a, cell, h1, h2, h3, h4, h5, h6, h7, h8, h9, h10⟩ := h
  obtain ⟨k', hi', he⟩ := State.fieldFound?_setVm hvm h2
  exact ⟨c, k', i, f, a, cell, by rw [hvm.findClass]; exact h1, hi', h3, by rw [he]; exact h4, h5, h6, h7, h8, by rw [he]; exact h9, h10⟩
theorem vx_L.kept {C n d : String} {A : Nat → Prop} {U : State} {H H1 : Heap} (h : vx_L C n d A U H) (hq : ∀ a : Nat, a < H.size → ¬ A a → H1[a]? = H[a]?) : vx_L C n d A U H1 := by
  obtain ⟨c, k, i, f, a, cell, h1, h2, h3, h4, h5, h6, h7, h8, h9, h10⟩ := h
  exact ⟨c, k, i, f, a, cell, h1, h2, h3, h4, by rw [hq a (Array.getElem?_eq_some_iff.mp h5).1 h10]; exact h5, h6, h7, h8, h9, h10⟩
theorem vx_L.narrow {C n d : String} {A B : Nat → Prop} {U : State} {H : Heap} (h : vx_L C n d A U H) (hAB : ∀ q, B q → A q) : vx_L C n d B U H := by
  obtain ⟨c, k, i, f, a, cell, h1, h2, h3, h4, h5, h6, h7, h8, h9, h10⟩ := h
  exact ⟨c, k, i, f, a, cell, h1, h2, h3, h4, h5, h6, h7, h8, h9, fun z => h10 (hAB _ z)⟩
theorem vx_L.word {C n d : String} {A : Nat → Prop} {s : State} {args : Array Value} (h : vx_L C n d A s s.heap) : (Cond.laysStatic C n d).before args s = true := by
  obtain ⟨c, k, i, f, a, cell, h1, h2, h3, h4, h5, h6, h7, h8, h9, -⟩ := h
  show (Cond.laysStatic C n d).holds args s none s [] = true
  exact Cond.laysStatic_of h1 h2 h3 h4 h5 h6 h7 h8 h9
/-- .. and what it holds: null or some reference -/
def vx_Zq (C n d : String) (A : Nat → Prop) (U : State) (H : Heap) : Prop := va_Zq C n d A U H ∧ vx_L C n d A U H
theorem vx_Zq.moved {C n d : String} {A : Nat → Prop} {u U : State} {H : Heap} (hvm : u.vm.Alike U.vm) (h : vx_Zq C n d A u H) : vx_Zq C n d A U H := ⟨va_Zq.moved hvm h.1, vx_L.moved hvm h.2⟩
theorem vx_Zq.kept {C n d : String} {A : Nat → Prop} {U : State} {H H1 : Heap} (h : vx_Zq C n d A U H) (hq : ∀ a : Nat, a < H.size → ¬ A a → H1[a]? = H[a]?) : vx_Zq C n d A U H1 := ⟨va_Zq.kept h.1 hq, vx_L.kept h.2 hq⟩
theorem vx_Zq.narrow {C n d : String} {A B : Nat → Prop} {U : State} {H : Heap} (h : vx_Zq C n d A U H) (hAB : ∀ q, B q → A q) : vx_Zq C n d B U H := ⟨va_Zq.narrow h.1 hAB, vx_L.narrow h.2 hAB⟩
theorem vx_Zqof {args : Array Value} {s : State} {C n d : String} {A : Nat → Prop} (hl : (Cond.laysStatic C n d).before args s = true) (hini : (Cond.initialized C).before args s = true) (h : (Cond.isRef (.static C n d)).before args s = true) (hA : ∀ a : Nat, a < s.heap.size → ¬ A a) : vx_Zq C n d A s s.heap := by
  refine ⟨va_Zqof hl hini h hA, ?_⟩
  obtain ⟨c, k, i, f, a, cell, h1, h2, h3, h4, h5, h6, h7, h8, h9⟩ := Cond.laysStatic_spec hl
  exact ⟨c, k, i, f, a, cell, h1, h2, h3, h4, h5, h6, h7, h8, h9, hA a (Array.getElem?_eq_some_iff.mp h5).1⟩
theorem vx_isRef {C n d : String} {v : Value} {A : Nat → Prop} {s : State} {args : Array Value} (h : va_Z C n d v A s s.heap) (hv : v.isRef = true) : (Cond.isRef (.static C n d)).before args s = true := by
  obtain ⟨cf, kf, fi, f, a, cell, h1, h2, h3, h4, h5, h6, h7, -⟩ := h
  have he : (Term.static C n d).eval args s none [] s = some v := by
    simp [Term.eval, State.fieldNamed?, h1, h2, h4, h5, h6, h7]
  simp only [Cond.before, Cond.holds, Cond.value, he]
  cases v <;> simp_all [Value.isRef]
theorem vx_isRefq {C n d : String} {A : Nat → Prop} {s : State} {args : Array Value} (h : va_Zq C n d A s s.heap) : (Cond.isRef (.static C n d)).before args s = true := by
  rcases h with h | ⟨t, h⟩
  · exact vx_isRef h rfl
  · exact vx_isRef h rfl
/-- the same frame, seen from here: as if the method were called anew in this heap -/
theorem vx_rebase {T : State} (X : Stand p l e R s m args below meth c T locs cells slots) {R' : Room} (hf : R'.frames ≤ R.frames) (hl : R'.locals ≤ R.locals) (hc : cells + R'.cells ≤ R.cells) (hs : slots + R'.slots ≤ R.slots) :
    Stand p l e R' ((T.setVm s.vm).setFrames (.invoking m args :: below)) m args below meth c T [] 0 0 := by
  have htop : (T.setVm s.vm).topJava?.isSome := X.here.top
  have hF : ((T.setVm s.vm).setFrames (.invoking m args :: below)).frames = .invoking m args :: below := State.frames_setFrames _ (State.cur_lt_of_top htop)
  obtain ⟨g₀, hg0⟩ := Option.isSome_iff_exists.mp htop
  obtain ⟨r, hr⟩ := State.topJava?_eq_some.mp hg0
  have hl9 : e.platform.stackLimits (T.setVm s.vm).me = e.platform.stackLimits s.me := X.limits
  have hb9 : (T.setVm s.vm).me.stackBytes = s.me.stackBytes := X.bytes
  refine ⟨X.admits, X.cas, X.clock, hF, ?_, X.hears, X.method, X.code, X.here, X.tail, X.warmed, ?_, ?_, ?_⟩
  · have h := X.room
    have hU : ((T.setVm s.vm).setFrames (.invoking m args :: below)).localsInUse = s.localsInUse := by
      rw [State.localsInUse_invoking hF (meth := meth) (c := c) X.method X.code, State.localsInUse_invoking X.frames X.method X.code]
    simp only [State.hasRoom, Bool.and_eq_true, decide_eq_true_eq] at h ⊢
    obtain ⟨⟨⟨⟨h1, h2, h3, h4, h5, h6⟩, h7⟩, h8⟩, h9⟩ := h
    rw [X.frames, List.length_cons] at h2 h3
    have q1 := X.heapSize
    have q2 := X.used
    simp only [hF, hU, List.length_cons, State.stackLimits_setFrames, State.stackBytes_setFrames, hl9, hb9]
    refine ⟨⟨⟨⟨by omega, by omega, by omega, by omega, by omega, h6⟩, ?_⟩, ?_⟩, X.book⟩
    · show T.heap.size + R'.cells ≤ e.platform.maxCells
      omega
    · show T.slotsUsed + R'.slots ≤ e.platform.maxSlots
      omega
  · rw [State.stackLimits_setFrames]; rfl
  · rw [State.stackBytes_setFrames]; rfl
  · refine ⟨?_, Nat.le_refl _, Nat.le_refl _, ?_, ?_, fun a c9 h9 => ⟨c9, h9, rfl, rfl, fun _ _ => rfl⟩⟩
    · obtain ⟨t, ht, -⟩ := State.frames_cons hr
      show T.setVm s.vm = { ((T.setVm s.vm).setFrames (.invoking m args :: below)).setFrames (T.setVm s.vm).frames with heap := T.heap, slotsUsed := T.slotsUsed }
      rw [State.setFrames_setFrames, State.setFrames_self ht]
      rfl
    · show T.slotsUsed = T.slotsUsed + ((T.heap.toList.drop T.heap.size).map (·.slots.size)).sum
      rw [List.drop_eq_nil_of_le (Nat.le_of_eq Array.length_toList)]
      rfl
    · show ((T.heap.toList.drop T.heap.size).map (·.slots.size)).sum ≤ 0
      rw [List.drop_eq_nil_of_le (Nat.le_of_eq Array.length_toList)]
      exact Nat.le_refl _
/-- 'throw new E()': new; dup; invokespecial; athrow -/
theorem vx_throw0 {cc : ByteArray} {pc : Nat} (hexec : p.tables.exec = Jvm.exec) (hb : c.code = cc) (hl : l.stackTraces = false) {own cls : String} {names : List String} {ik ic mc ms : Nat} {A : Nat → Prop}
    (hown : s.vm.findClass own = some m.cls) (hcls : Bundle.fit cls = true) (hnames : ∀ n ∈ names, Bundle.fit n = true)
    (hk : (Cond.classLink own ik cls).before args s = true) (hini : (Cond.initialized cls).before args s = true) (hat : ∀ w ∈ vx_at0 own ic cls names, w.before args s = true)
    (hgood : ∀ w ∈ Cond.classLink own ik cls :: Cond.initialized cls :: vx_at0 own ic cls names, vx_ot w = true)
    (hU : vx_Zq Bundle.tN "UNASSIGNED_STACK" Bundle.steD A s s.heap) (hN : vx_Zq Bundle.tN "SUPPRESSED_SENTINEL" Bundle.listD A s s.heap) (hS : va_S A s.heap H locs) (hsize : ls.size = c.maxLocals)
    (d0 : decode cc pc = .ok (.new ik, 3)) (d3 : decode cc (pc + 3) = .ok (.dup, 1)) (d4 : decode cc (pc + 4) = .ok (.invokespecial ic, 3)) (d7 : decode cc (pc + 7) = .ok (.athrow, 1))
    (hout : ∀ x ∈ c.exceptionTable.toList, covers x (pc + 7) = false)
    (hRframes : names.length + 3 < R.frames) (hRlocals : (rest.map fun v => v.category).sum + (13 * (names.length + 1) + 42) ≤ R.locals) (hRcells : cells + 1 ≤ R.cells) (hRslots : slots + 6 ≤ R.slots) (hlocks : meth.locks = false)
    (hx : ∀ t : State, s.vm.Alike t.vm → H.size ≤ t.heap.size → (∀ q : Nat, q < H.size → t.heap[q]? = H[q]?) → XC cls s t)
    (hf : ∀ z ∈ locs, free z.base) (hc : cells + 1 ≤ mc) (hs : slots + 6 ≤ ms) :
    W p l e R s m args below meth c H locs cells slots (vx_MQ below Qc XC args s mc ms free) (F0 m pc ls rest) := by
  intro T hT X
  have htr : e.platform.stackTraces = false := (show e.platform.stackTraces = l.stackTraces by rw [X.admits.platform]).trans hl
  have Y := vx_rebase X (R' := { frames := R.frames, locals := R.locals, cells := 1, slots := 6 }) (Nat.le_refl _) (Nat.le_refl _) hRcells hRslots
  obtain ⟨s', hA⟩ : ∃ z, z = (T.setVm s.vm).setFrames (.invoking m args :: below) := ⟨_, rfl⟩
  rw [← hA] at Y
  have hvm : s'.vm = s.vm := by rw [hA]; rfl
  have hhp : s'.heap = H := by rw [hA]; exact hT
  have hW0 : s.WarmedH s'.vm := by rw [hvm]; exact State.WarmedH.refl s
  have hat' : ∀ w ∈ vx_at0 own ic cls names, w.before args s' = true := fun w hw => vx_ot_at hW0 hvm.symm (hgood w (List.mem_cons_of_mem _ (List.mem_cons_of_mem _ hw))) (hat w hw)
  have hk' : (Cond.classLink own ik cls).before args s' = true := vx_ot_at hW0 hvm.symm (hgood _ List.mem_cons_self) hk
  have hini' : (Cond.initialized cls).before args s' = true := vx_ot_at hW0 hvm.symm (hgood _ (List.mem_cons_of_mem _ List.mem_cons_self)) hini
  have hU' : vx_Zq Bundle.tN "UNASSIGNED_STACK" Bundle.steD A s' s'.heap := by rw [hhp]; exact vx_Zq.moved hW0.alike (hU.kept hS.2.1)
  have hN' : vx_Zq Bundle.tN "SUPPRESSED_SENTINEL" Bundle.listD A s' s'.heap := by rw [hhp]; exact vx_Zq.moved hW0.alike (hN.kept hS.2.1)
  have h : ∀ w ∈ Bundle.ownAtoms0 own ic cls names, w.before args s' = true := vx_own hat' (vx_isRefq hU'.1) (vx_isRefq hN'.1) hU'.2.word hN'.2.word
  have hown' : s'.vm.findClass own = some m.cls := by rw [hvm]; exact hown
  have hins : (Cond.instantiable cls 6).before args s' = true := h _ (by simp [Bundle.ownAtoms0])
  obtain ⟨vm₁, cX, kX, hfX, hkX, -, -, X₁, st1⟩ := Y.newCold hexec (own := own) (C := cls) (index := ik) (n := 6) hown' hk' hins hini'
    (g := F0 m pc ls rest) rfl (by rw [hb]; exact d0) (Nat.le_refl _) (Nat.le_refl _)
  generalize hT1 : (T.setVm vm₁).pushCell { cls := cX, slots := kX.instanceTypes.map defaultValue, vm := .none } = T1 at X₁ st1
  have hcat : (Value.ref T.heap.size).category = 1 := rfl
  have hcellA : T1.heap[T.heap.size]? = some (freshCell cX kX) := by rw [← hT1]; exact State.heap_pushCell_size _ _
  have d3' : decode c.code (pc + 3) = .ok (.dup, 1) := by rw [hb]; exact d3
  obtain ⟨U, hsteps, hrun, hend, hW, hsame, ce, hce, hO⟩ := X₁.ctorThrow0 hexec htr (own := own) (cls := cls) (names := names) (ic := ic) hown' hcls hnames h (fun x hx => nomatch hx) hfX hkX hcellA (by rw [hhp, hT]; exact Nat.le_refl _)
    (g := { method := m, pc := pc + 4, locals := ls, stack := .ref T.heap.size :: .ref T.heap.size :: rest, locked := none }) rfl hsize rfl rfl (rest := rest) rfl
    (by rw [hb]; exact d4) (by rw [hb]; exact d7) hout hRframes (by simp only [List.map_cons, List.sum_cons, hcat]; omega) hlocks
  obtain ⟨f1, f2⟩ := vx_frame hsame
  rw [hhp] at f1 f2
  have hWs : s.WarmedH U.vm := State.WarmedH.trans hW0 hW
  have hcl : s.vm.findClass cls = some ce.cls := by
    have h9 := hO.cls
    rw [hvm] at h9
    exact h9
  have hall : s.sameButNew ({ U with vm := s.vm } : State) locs mc ms := by
    subst hA
    obtain ⟨e1, e2⟩ := hsame
    rw [State.setFrames_setFrames] at e1
    have h2 : (T.setVm s.vm).sameButNew ({ U with vm := s.vm } : State) [] (0 + 1) (0 + 6) := ⟨e1, e2⟩
    have h3 := X.same.trans h2
    rw [List.append_nil] at h3
    exact h3.mono hc hs
  refine ⟨U, ?_, .threw T.heap.size, hrun, hend, Or.inr ⟨T.heap.size, rfl, cls, ce, locs, hx U hWs.alike f1 (fun q hq => f2 q hq (fun z hz => nomatch hz)), hce, hO.vm, hcl, hWs, hall, hf⟩⟩
  refine st1 _ ?_
  show Steps p.tables e below (T1.setTop { method := m, pc := pc + 3, locals := ls, stack := .ref T.heap.size :: rest, locked := none }) _
  jvm_step X₁.here [X₁.here.top, hexec, d3', Value.category]
  exact hsteps
/-- 'throw new E("text")': new; dup; ldc; invokespecial; athrow -/
theorem vx_throwS {cc : ByteArray} {pc : Nat} (hexec : p.tables.exec = Jvm.exec) (hb : c.code = cc) (hl : l.stackTraces = false) {own cls text : String} {names : List String} {ik is ic mc ms sa : Nat} {A : Nat → Prop}
    (hown : s.vm.findClass own = some m.cls) (hcls : Bundle.fit cls = true) (hnames : ∀ n ∈ names, Bundle.fit n = true)
    (hk : (Cond.classLink own ik cls).before args s = true) (hini : (Cond.initialized cls).before args s = true) (hstr : vk_R own is text sa s) (hat : ∀ w ∈ vx_atS own ic cls names, w.before args s = true)
    (hgood : ∀ w ∈ Cond.classLink own ik cls :: Cond.initialized cls :: vx_atS own ic cls names, vx_ot w = true)
    (hU : vx_Zq Bundle.tN "UNASSIGNED_STACK" Bundle.steD A s s.heap) (hN : vx_Zq Bundle.tN "SUPPRESSED_SENTINEL" Bundle.listD A s s.heap) (hS : va_S A s.heap H locs) (hsize : ls.size = c.maxLocals)
    (d0 : decode cc pc = .ok (.new ik, 3)) (d3 : decode cc (pc + 3) = .ok (.dup, 1)) (d4 : decode cc (pc + 4) = .ok (.ldc is, 2)) (d6 : decode cc (pc + 6) = .ok (.invokespecial ic, 3)) (d9 : decode cc (pc + 9) = .ok (.athrow, 1))
    (hout : ∀ x ∈ c.exceptionTable.toList, covers x (pc + 9) = false)
    (hRframes : names.length + 3 < R.frames) (hRlocals : (rest.map fun v => v.category).sum + (13 * (names.length + 1) + 43) ≤ R.locals) (hRcells : cells + 1 ≤ R.cells) (hRslots : slots + 6 ≤ R.slots) (hlocks : meth.locks = false)
    (hx : ∀ t : State, s.vm.Alike t.vm → H.size ≤ t.heap.size → (∀ q : Nat, q < H.size → t.heap[q]? = H[q]?) → XC cls s t)
    (hf : ∀ z ∈ locs, free z.base) (hc : cells + 1 ≤ mc) (hs : slots + 6 ≤ ms) :
    W p l e R s m args below meth c H locs cells slots (vx_MQ below Qc XC args s mc ms free) (F0 m pc ls rest) := by
  intro T hT X
  have htr : e.platform.stackTraces = false := (show e.platform.stackTraces = l.stackTraces by rw [X.admits.platform]).trans hl
  have Y := vx_rebase X (R' := { frames := R.frames, locals := R.locals, cells := 1, slots := 6 }) (Nat.le_refl _) (Nat.le_refl _) hRcells hRslots
  obtain ⟨s', hA⟩ : ∃ z, z = (T.setVm s.vm).setFrames (.invoking m args :: below) := ⟨_, rfl⟩
  rw [← hA] at Y
  have hvm : s'.vm = s.vm := by rw [hA]; rfl
  have hhp : s'.heap = H := by rw [hA]; exact hT
  have hW0 : s.WarmedH s'.vm := by rw [hvm]; exact State.WarmedH.refl s
  have hat' : ∀ w ∈ vx_atS own ic cls names, w.before args s' = true := fun w hw => vx_ot_at hW0 hvm.symm (hgood w (List.mem_cons_of_mem _ (List.mem_cons_of_mem _ hw))) (hat w hw)
  have hk' : (Cond.classLink own ik cls).before args s' = true := vx_ot_at hW0 hvm.symm (hgood _ List.mem_cons_self) hk
  have hini' : (Cond.initialized cls).before args s' = true := vx_ot_at hW0 hvm.symm (hgood _ (List.mem_cons_of_mem _ List.mem_cons_self)) hini
  have hU' : vx_Zq Bundle.tN "UNASSIGNED_STACK" Bundle.steD A s' s'.heap := by rw [hhp]; exact vx_Zq.moved hW0.alike (hU.kept hS.2.1)
  have hN' : vx_Zq Bundle.tN "SUPPRESSED_SENTINEL" Bundle.listD A s' s'.heap := by rw [hhp]; exact vx_Zq.moved hW0.alike (hN.kept hS.2.1)
  have h : ∀ w ∈ Bundle.ownAtoms own ic cls names, w.before args s' = true := vx_own hat' (vx_isRefq hU'.1) (vx_isRefq hN'.1) hU'.2.word hN'.2.word
  have hown' : s'.vm.findClass own = some m.cls := by rw [hvm]; exact hown
  have hins : (Cond.instantiable cls 6).before args s' = true := h _ (by simp [Bundle.ownAtoms])
  obtain ⟨vm₁, cX, kX, hfX, hkX, -, -, X₁, st1⟩ := Y.newCold hexec (own := own) (C := cls) (index := ik) (n := 6) hown' hk' hins hini'
    (g := F0 m pc ls rest) rfl (by rw [hb]; exact d0) (Nat.le_refl _) (Nat.le_refl _)
  generalize hT1 : (T.setVm vm₁).pushCell { cls := cX, slots := kX.instanceTypes.map defaultValue, vm := .none } = T1 at X₁ st1
  have hcat : (Value.ref T.heap.size).category = 1 := rfl
  have hcellA : T1.heap[T.heap.size]? = some (freshCell cX kX) := by rw [← hT1]; exact State.heap_pushCell_size _ _
  have d3' : decode c.code (pc + 3) = .ok (.dup, 1) := by rw [hb]; exact d3
  have d4' : decode c.code (pc + 4) = .ok (.ldc is, 2) := by rw [hb]; exact d4
  have hstr' : vk_R own is text sa s' := vk_R.warm hW0 hstr
  obtain ⟨U, hsteps, hrun, hend, hW, hsame, ce, hce, hO⟩ := X₁.ctorThrowS hexec htr (own := own) (cls := cls) (names := names) (ic := ic) hown' hcls hnames h (fun x hx => nomatch hx) hfX hkX hcellA (by rw [hhp, hT]; exact Nat.le_refl _) (msg := .ref sa) rfl
    (g := { method := m, pc := pc + 6, locals := ls, stack := .ref sa :: .ref T.heap.size :: .ref T.heap.size :: rest, locked := none }) rfl hsize rfl rfl (rest := rest) rfl
    (by rw [hb]; exact d6) (by rw [hb]; exact d9) hout hRframes (by simp only [List.map_cons, List.sum_cons, hcat]; omega) hlocks
  obtain ⟨f1, f2⟩ := vx_frame hsame
  rw [hhp] at f1 f2
  have hWs : s.WarmedH U.vm := State.WarmedH.trans hW0 hW
  have hcl : s.vm.findClass cls = some ce.cls := by
    have h9 := hO.cls
    rw [hvm] at h9
    exact h9
  have hall : s.sameButNew ({ U with vm := s.vm } : State) locs mc ms := by
    subst hA
    obtain ⟨e1, e2⟩ := hsame
    rw [State.setFrames_setFrames] at e1
    have h2 : (T.setVm s.vm).sameButNew ({ U with vm := s.vm } : State) [] (0 + 1) (0 + 6) := ⟨e1, e2⟩
    have h3 := X.same.trans h2
    rw [List.append_nil] at h3
    exact h3.mono hc hs
  refine ⟨U, ?_, .threw T.heap.size, hrun, hend, Or.inr ⟨T.heap.size, rfl, cls, ce, locs, hx U hWs.alike f1 (fun q hq => f2 q hq (fun z hz => nomatch hz)), hce, hO.vm, hcl, hWs, hall, hf⟩⟩
  refine st1 _ ?_
  show Steps p.tables e below (T1.setTop { method := m, pc := pc + 3, locals := ls, stack := .ref T.heap.size :: rest, locked := none }) _
  jvm_step X₁.here [X₁.here.top, hexec, d3', Value.category]
  exact X₁.ldcString hexec (own := own) (text := text) (index := is) (a := sa) hown' hstr'.1 hstr'.2
    (g := { method := m, pc := pc + 4, locals := ls, stack := .ref T.heap.size :: .ref T.heap.size :: rest, locked := none }) rfl d4' _ hsteps
/-- 'throw new E("text")', the text by a wide index -/
theorem vx_throwSW {cc : ByteArray} {pc : Nat} (hexec : p.tables.exec = Jvm.exec) (hb : c.code = cc) (hl : l.stackTraces = false) {own cls text : String} {names : List String} {ik is ic mc ms sa : Nat} {A : Nat → Prop}
    (hown : s.vm.findClass own = some m.cls) (hcls : Bundle.fit cls = true) (hnames : ∀ n ∈ names, Bundle.fit n = true)
    (hk : (Cond.classLink own ik cls).before args s = true) (hini : (Cond.initialized cls).before args s = true) (hstr : vk_R own is text sa s) (hat : ∀ w ∈ vx_atS own ic cls names, w.before args s = true)
    (hgood : ∀ w ∈ Cond.classLink own ik cls :: Cond.initialized cls :: vx_atS own ic cls names, vx_ot w = true)
    (hU : vx_Zq Bundle.tN "UNASSIGNED_STACK" Bundle.steD A s s.heap) (hN : vx_Zq Bundle.tN "SUPPRESSED_SENTINEL" Bundle.listD A s s.heap) (hS : va_S A s.heap H locs) (hsize : ls.size = c.maxLocals)
    (d0 : decode cc pc = .ok (.new ik, 3)) (d3 : decode cc (pc + 3) = .ok (.dup, 1)) (d4 : decode cc (pc + 4) = .ok (.ldc_w is, 3)) (d7 : decode cc (pc + 7) = .ok (.invokespecial ic, 3)) (d10 : decode cc (pc + 10) = .ok (.athrow, 1))
    (hout : ∀ x ∈ c.exceptionTable.toList, covers x (pc + 10) = false)
    (hRframes : names.length + 3 < R.frames) (hRlocals : (rest.map fun v => v.category).sum + (13 * (names.length + 1) + 43) ≤ R.locals) (hRcells : cells + 1 ≤ R.cells) (hRslots : slots + 6 ≤ R.slots) (hlocks : meth.locks = false)
    (hx : ∀ t : State, s.vm.Alike t.vm → H.size ≤ t.heap.size → (∀ q : Nat, q < H.size → t.heap[q]? = H[q]?) → XC cls s t)
    (hf : ∀ z ∈ locs, free z.base) (hc : cells + 1 ≤ mc) (hs : slots + 6 ≤ ms) :
    W p l e R s m args below meth c H locs cells slots (vx_MQ below Qc XC args s mc ms free) (F0 m pc ls rest) := by
  intro T hT X
  have htr : e.platform.stackTraces = false := (show e.platform.stackTraces = l.stackTraces by rw [X.admits.platform]).trans hl
  have Y := vx_rebase X (R' := { frames := R.frames, locals := R.locals, cells := 1, slots := 6 }) (Nat.le_refl _) (Nat.le_refl _) hRcells hRslots
  obtain ⟨s', hA⟩ : ∃ z, z = (T.setVm s.vm).setFrames (.invoking m args :: below) := ⟨_, rfl⟩
  rw [← hA] at Y
  have hvm : s'.vm = s.vm := by rw [hA]; rfl
  have hhp : s'.heap = H := by rw [hA]; exact hT
  have hW0 : s.WarmedH s'.vm := by rw [hvm]; exact State.WarmedH.refl s
  have hat' : ∀ w ∈ vx_atS own ic cls names, w.before args s' = true := fun w hw => vx_ot_at hW0 hvm.symm (hgood w (List.mem_cons_of_mem _ (List.mem_cons_of_mem _ hw))) (hat w hw)
  have hk' : (Cond.classLink own ik cls).before args s' = true := vx_ot_at hW0 hvm.symm (hgood _ List.mem_cons_self) hk
  have hini' : (Cond.initialized cls).before args s' = true := vx_ot_at hW0 hvm.symm (hgood _ (List.mem_cons_of_mem _ List.mem_cons_self)) hini
  have hU' : vx_Zq Bundle.tN "UNASSIGNED_STACK" Bundle.steD A s' s'.heap := by rw [hhp]; exact vx_Zq.moved hW0.alike (hU.kept hS.2.1)
  have hN' : vx_Zq Bundle.tN "SUPPRESSED_SENTINEL" Bundle.listD A s' s'.heap := by rw [hhp]; exact vx_Zq.moved hW0.alike (hN.kept hS.2.1)
  have h : ∀ w ∈ Bundle.ownAtoms own ic cls names, w.before args s' = true := vx_own hat' (vx_isRefq hU'.1) (vx_isRefq hN'.1) hU'.2.word hN'.2.word
  have hown' : s'.vm.findClass own = some m.cls := by rw [hvm]; exact hown
  have hins : (Cond.instantiable cls 6).before args s' = true := h _ (by simp [Bundle.ownAtoms])
  obtain ⟨vm₁, cX, kX, hfX, hkX, -, -, X₁, st1⟩ := Y.newCold hexec (own := own) (C := cls) (index := ik) (n := 6) hown' hk' hins hini'
    (g := F0 m pc ls rest) rfl (by rw [hb]; exact d0) (Nat.le_refl _) (Nat.le_refl _)
  generalize hT1 : (T.setVm vm₁).pushCell { cls := cX, slots := kX.instanceTypes.map defaultValue, vm := .none } = T1 at X₁ st1
  have hcat : (Value.ref T.heap.size).category = 1 := rfl
  have hcellA : T1.heap[T.heap.size]? = some (freshCell cX kX) := by rw [← hT1]; exact State.heap_pushCell_size _ _
  have d3' : decode c.code (pc + 3) = .ok (.dup, 1) := by rw [hb]; exact d3
  have d4' : decode c.code (pc + 4) = .ok (.ldc_w is, 3) := by rw [hb]; exact d4
  have hstr' : vk_R own is text sa s' := vk_R.warm hW0 hstr
  obtain ⟨U, hsteps, hrun, hend, hW, hsame, ce, hce, hO⟩ := X₁.ctorThrowS hexec htr (own := own) (cls := cls) (names := names) (ic := ic) hown' hcls hnames h (fun x hx => nomatch hx) hfX hkX hcellA (by rw [hhp, hT]; exact Nat.le_refl _) (msg := .ref sa) rfl
    (g := { method := m, pc := pc + 7, locals := ls, stack := .ref sa :: .ref T.heap.size :: .ref T.heap.size :: rest, locked := none }) rfl hsize rfl rfl (rest := rest) rfl
    (by rw [hb]; exact d7) (by rw [hb]; exact d10) hout hRframes (by simp only [List.map_cons, List.sum_cons, hcat]; omega) hlocks
  obtain ⟨f1, f2⟩ := vx_frame hsame
  rw [hhp] at f1 f2
  have hWs : s.WarmedH U.vm := State.WarmedH.trans hW0 hW
  have hcl : s.vm.findClass cls = some ce.cls := by
    have h9 := hO.cls
    rw [hvm] at h9
    exact h9
  have hall : s.sameButNew ({ U with vm := s.vm } : State) locs mc ms := by
    subst hA
    obtain ⟨e1, e2⟩ := hsame
    rw [State.setFrames_setFrames] at e1
    have h2 : (T.setVm s.vm).sameButNew ({ U with vm := s.vm } : State) [] (0 + 1) (0 + 6) := ⟨e1, e2⟩
    have h3 := X.same.trans h2
    rw [List.append_nil] at h3
    exact h3.mono hc hs
  refine ⟨U, ?_, .threw T.heap.size, hrun, hend, Or.inr ⟨T.heap.size, rfl, cls, ce, locs, hx U hWs.alike f1 (fun q hq => f2 q hq (fun z hz => nomatch hz)), hce, hO.vm, hcl, hWs, hall, hf⟩⟩
  refine st1 _ ?_
  show Steps p.tables e below (T1.setTop { method := m, pc := pc + 3, locals := ls, stack := .ref T.heap.size :: rest, locked := none }) _
  jvm_step X₁.here [X₁.here.top, hexec, d3', Value.category]
  exact X₁.ldcStringW hexec (own := own) (text := text) (index := is) (a := sa) hown' hstr'.1 hstr'.2
    (g := { method := m, pc := pc + 4, locals := ls, stack := .ref T.heap.size :: .ref T.heap.size :: rest, locked := none }) rfl d4' _ hsteps
end Ends
section Bodies
variable {l : Launch}
theorem vx_ofW {y : MethodName} {ws ws' : List Cond} {rm : Room} {Pc : Array Value → State → Prop} {Qc : Array Value → State → Outcome → State → Prop} {XC : String → State → State → Prop} {mc ms : Nat} {free : Addr → Prop} {cc : ByteArray} {maxL : Nat} {ret : Option FieldType}
    (hy : plainName y.cls = true) (hw : ws = Cond.code y cc maxL ret :: ws')
    (body : ∀ p e s m args below meth c s₁, BodyLoose p l y (headSpec ws rm) cc maxL ret e s m args below meth c s₁ → c.maxLocals = maxL → (∀ x ∈ c.exceptionTable.toList, False) → Pc args s →
      W p l e (headSpec ws rm).room s m args below meth c s.heap [] 0 0 (vx_MQ below Qc XC args s mc ms free) (entryFrame m args maxL)) : vx_Met l y ws rm Pc Qc XC mc ms free := by
  refine MetFree.of_bodyS (code := cc) (maxLocals := maxL) (ret := ret) hy ?_ ?_
  · intro args s m h hn
    obtain ⟨meth, c, h1, h2, h3, h4, h5, h6, -, -⟩ := Cond.code_spec hn (atoms_spec (ws := ws) h _ (by rw [hw]; exact List.mem_cons_self))
    exact ⟨meth, c, h1, h2, h3, h4, h5, h6⟩
  · intro p e s m args below meth c s₁ B hml hP _
    have hh0 : s₁.heap = s.heap := by rw [B.state]; rfl
    have ht : ∀ x ∈ c.exceptionTable.toList, False := by
      obtain ⟨meth9, c9, h1, h2, -, -, -, -, h7, -⟩ := Cond.code_spec B.named (atoms_spec (ws := ws) B.pre _ (by rw [hw]; exact List.mem_cons_self))
      cases Option.some.inj (h1.symm.trans B.method)
      cases Option.some.inj (h2.symm.trans (Stand.of_body B).code)
      intro x hx
      rw [Array.isEmpty_iff.mp h7] at hx
      cases hx
    obtain ⟨t, a1, o, b1, b2, b3⟩ := body p e s m args below meth c s₁ B hml ht hP s₁ hh0 (Stand.of_body B)
    exact ⟨t, o, a1, b1, b2, b3⟩
/-- the table of a body with handlers -/
theorem vx_table {p : Program} {x y : MethodName} {S : Spec} {cc bytes : ByteArray} {maxL maxL' : Nat} {ret ret' : Option FieldType} {e : Env} {s s₁ : State} {m : MethodId} {args : Array Value} {below : List Frame} {meth : Method} {c : Code} {hh : List (Nat × Nat × Nat × Nat)}
    (B : BodyLoose p l y S cc maxL ret e s m args below meth c s₁) (h : (Cond.codeWith y bytes maxL' ret' hh).before args s = true) : c.exceptionTable.toList = tableOf hh := by
  obtain ⟨m9, meth9, c9, hn9, h1, h2, -, -, h6, -⟩ := Cond.codeWith_spec h
  cases Option.some.inj (hn9.symm.trans B.named)
  cases Option.some.inj (h1.symm.trans B.method)
  cases Option.some.inj (h2.symm.trans (Stand.of_body B).code)
  rw [← h6, table_eq]
end Bodies
end VXA
/-! ===== END ===== -/
/-! ===== BEGIN a static call of a method with an exception table ===== -/
section VXS
variable {p : Program} {l : Launch} {e : Env} {R : Room} {s : State} {m : MethodId} {args : Array Value} {below : List Frame} {meth : Method} {c : Code} {T : State} {H : Heap} {locs : List Loc} {cells slots : Nat}
abbrev vx_CSW (R : Room) (s : State) (args : Array Value) (own : String) (index : Nat) (y : MethodName) (bytes : ByteArray) (maxL : Nat) (ret : Option FieldType) (hh : List (Nat × Nat × Nat × Nat)) (ws : List Cond) (rm : Room) (mc ms n : Nat) : Prop :=
  (rm.cells = mc ∧ rm.slots = ms ∧ rm.frames + 1 ≤ R.frames ∧ 8 + (maxL + 11) + rm.locals ≤ R.locals ∧ (∀ w ∈ ws, ∀ (a' : Array Value) (U : State), s.WarmedH U.vm → w.before a' U = true) ∧ Cond.codeWith y bytes maxL ret hh ∈ ws) ∧
  (Cond.codeWith y bytes maxL ret hh).before args s = true ∧ (Cond.initialized y.cls).before args s = true ∧ (y.cls ≠ "java/lang/invoke/MethodHandle" ∧ y.cls ≠ "java/lang/invoke/VarHandle") ∧
  (∀ sig, parseMethodDescriptor y.desc = some sig → n = sig.parameters.length) ∧ (Cond.methodLink own index y).before args s = true ∧ (Cond.static y).before args s = true
theorem vx_cwSW {own : String} {index maxL mc ms : Nat} {y : MethodName} {bytes : ByteArray} {ret : Option FieldType} {hh : List (Nat × Nat × Nat × Nat)} {Ts ws ws' : List Cond} {rm : Room} (n : Nat) (ht : ∀ w ∈ Ts, w.before args s = true) (hT : GoodIn Ts (va_wsS own index y ws)) (hw : ws = Cond.codeWith y bytes maxL ret hh :: ws') (hrc : rm.cells = mc) (hrs : rm.slots = ms)
    (hd : y.cls ≠ "java/lang/invoke/MethodHandle" ∧ y.cls ≠ "java/lang/invoke/VarHandle" ∧ (parseMethodDescriptor y.desc).map (fun d => d.parameters.length) = some n) (hR : rm.frames + 1 ≤ R.frames ∧ 8 + (maxL + 11) + rm.locals ≤ R.locals) :
    vx_CSW R s args own index y bytes maxL ret hh ws rm mc ms n := by
  have ok : ∀ w ∈ va_wsS own index y ws, w.before args s = true := fun w h => ht w (hT w h).1
  have hG : GoodIn Ts ws := fun w h => hT w (by unfold va_wsS; exact List.mem_append_right _ h)
  have hc : Cond.codeWith y bytes maxL ret hh ∈ ws := by rw [hw]; exact List.mem_cons_self
  refine ⟨⟨hrc, hrs, hR.1, hR.2, pay_in ht hG, hc⟩, ht _ (hG _ hc).1, ok _ (by simp [va_wsS]), ⟨hd.1, hd.2.1⟩, fun sig h => ?_, ok _ (by simp [va_wsS]), ok _ (by simp [va_wsS])⟩
  have h2 := hd.2.2
  rw [h] at h2
  exact (Option.some.inj h2).symm
theorem vx_callSW (X : Stand p l e R s m args below meth c T locs cells slots) (hexec : p.tables.exec = Jvm.exec) {own : String} {index : Nat} {y : MethodName} {bytes : ByteArray} {maxL : Nat} {ret : Option FieldType} {hh : List (Nat × Nat × Nat × Nat)}
    (hown : s.vm.findClass own = some m.cls) (hlink : (Cond.methodLink own index y).before args s = true) (hstat : (Cond.static y).before args s = true) (hinit : (Cond.initialized y.cls).before args s = true)
    (hcode : (Cond.codeWith y bytes maxL ret hh).before args s = true) (hy : y.cls ≠ "java/lang/invoke/MethodHandle" ∧ y.cls ≠ "java/lang/invoke/VarHandle")
    {W9 : Nat} {Pre : Pt → Array Value → Prop} {Post : Pt → Array Value → Option Value → Pt → Prop} (hK : Back l R p e below s args y 3 W9 Pre Post)
    {g : JFrame} (hg : g.method = m) (hsize : g.locals.size = c.maxLocals) {argsL rest : List Value} (hlen : ∀ sig, parseMethodDescriptor y.desc = some sig → argsL.length = sig.parameters.length)
    (hstack : g.stack = argsL.reverse ++ rest) (hW : 2 * g.monitorRoom + (rest.map fun v => v.category).sum ≤ W9) (hdg : decode c.code g.pc = .ok (.invokestatic index, 3))
    (hpre : ∀ vm₁, s.WarmedH vm₁ → Pre ⟨T.setVm vm₁, locs, cells, slots⟩ argsL.toArray) :
    ∃ (v : Option Value) (vm₁ : Vm) (B : Pt), s.WarmedH vm₁ ∧ Stand p l e R s m args below meth c B.U B.locs B.cells B.slots ∧ Post ⟨T.setVm vm₁, locs, cells, slots⟩ argsL.toArray v B ∧
      ∀ target, Steps p.tables e below (B.U.setTop { g with pc := g.pc + 3, stack := v.toList ++ rest }) target → Steps p.tables e below (T.setTop g) target := by
  obtain ⟨mk, methM, cM, hnamed, hmethM, -, -, -, -, -, -, hsigM⟩ := Cond.codeWith_spec hcode
  have hstatic : methM.isStatic = true := Cond.static_spec hnamed hmethM hstat
  obtain ⟨kP, hkP, -⟩ := className_of_methodNamed hnamed
  have hinitP : kP.init = .initialized := Cond.initialized_spec (findClass_of_methodNamed hnamed) hkP hinit
  obtain ⟨vm₁, X₁, hstep₁⟩ := X.invokestatic hexec hown hlink hnamed hmethM hstatic hkP hinitP hy (g := g) hg (argsL := argsL) (rest := rest) (hlen _ hsigM) hstack hdg
  obtain ⟨v, B, X', hpost, hsteps⟩ := hK m meth c ⟨T.setVm vm₁, locs, cells, slots⟩ { g with stack := rest } (.invokestatic index) mk argsL.toArray X₁ hg hsize hdg hW (X₁.named hnamed) (hpre vm₁ X₁.warmed)
  exact ⟨v, vm₁, B, X₁.warmed, X', hpost, fun target h => hstep₁ _ fun acts => by rw [doInvoke_state]; exact hsteps.trans h⟩
theorem vx_runSW {y : MethodName} {bytes cc : ByteArray} {maxL nL mc ms n index : Nat} {ret : Option FieldType} {hh : List (Nat × Nat × Nat × Nat)} {ws : List Cond} {rm : Room} {Pc : Array Value → State → Prop} {Qc : Array Value → State → Outcome → State → Prop} {free : Addr → Prop} {Ts : List Cond} {own : String} {As rest : List Value} {g : JFrame}
    (S : CallFix p m c cc nL s args Ts own) (hM : Met l y ws rm Pc Qc mc ms free) (cw : vx_CSW R s args own index y bytes maxL ret hh ws rm mc ms n) (hp : PreS s H Pc As)
    (hg : g.method = m) (hn : As.length = n) (hsize : g.locals.size = nL) (hstack : g.stack = As.reverse ++ rest) (hW : 2 * g.monitorRoom + (rest.map fun v => v.category).sum ≤ 8) (hdg : decode cc g.pc = .ok (.invokestatic index, 3)) (hf : cells + mc ≤ R.cells ∧ slots + ms ≤ R.slots) :
    va_Run p l e R s m args below meth c H locs cells slots mc ms g rest (Qc As.toArray) (free) := by
  obtain ⟨⟨hrc, hrs, hfr, hlo, hws, hcw⟩, hcode, hini, hy, hlen, hl, hstt⟩ := cw
  have hK : Back l R p e below s args y 3 8 (PreOf R mc ms Pc) (PostOf Qc mc ms free) := va_backW (hh := hh) (bytes := bytes) (maxL := maxL) (ret := ret) hM hp.1 hrc hrs hfr hlo hws hcw (fun a' U hW => word_at hW (Or.inl (by first | rfl | simp [Cond.onTables, Cond.keeps, Cond.steady])) hini)
  obtain ⟨hx, hb, hml, ho, -⟩ := S
  intro T hT X
  obtain ⟨v, vm₁, ⟨U', l2, c2, s2⟩, hW₁, X', ⟨g', mk, t, L, e1, e2, hq, h1, hL, h2, h3⟩, st⟩ := vx_callSW X hx (hh := hh) (bytes := bytes) (maxL := maxL) (ret := ret) ho hl hstt hini hcode hy hK hg (hsize.trans hml.symm) (argsL := As) (rest := rest) (fun sig h => hn.trans (hlen sig h)) hstack hW (by rw [hb]; exact hdg)
    (fun vm₁ hW₁ => ⟨hf.1, hf.2, hp.2 (T.setVm vm₁) hT hW₁⟩)
  dsimp only [Pt.U, Pt.locs, Pt.cells, Pt.slots] at X' e1 e2 h1 h2 h3 st
  subst h1; subst h2; subst h3
  exact ⟨v, (T.setVm vm₁).calling g' mk As.toArray, t, U', L, hT, X', hL, e1, e2, hq, st⟩
/-- not caught here, past rows that name other classes: it goes on to the caller -/
theorem vx_outP {p : Program} {l : Launch} {e : Env} {R : Room} {s : State} {m : MethodId} {args : Array Value} {below : List Frame} {meth : Method} {c : Code} {H : Heap} {locs : List Loc} {cells slots : Nat} {free : Addr → Prop} {ls : Array Slot} {rest : List Value} {Qc : Array Value → State → Outcome → State → Prop} {XC : String → State → State → Prop}
    {pc : Nat} {own E : String} {ce : Cell} {q : Addr} {mc ms : Nat} (hown : s.vm.findClass own = some m.cls) (hlocks : meth.locks = false)
    (hpass : ∀ z ∈ c.exceptionTable.toList, covers z pc = false ∨ (z.catchType ≠ 0 ∧ ∃ nm : String, (Cond.classLink own z.catchType nm).before args s = true ∧ va_Nc E nm s)) (hcell : H[q]? = some ce) (hv : ce.vm = .none) (hcl : s.vm.findClass E = some ce.cls)
    (hx : ∀ t : State, t.heap = H → s.vm.Alike t.vm → XC E s t) (hf : ∀ z ∈ locs, free z.base) (hc : cells ≤ mc) (hs : slots ≤ ms) :
    vx_W p l e R s m args below meth c H locs cells slots (vx_MQ below Qc XC args s mc ms free) (F0 m pc ls rest) q := by
  intro T hT X
  have hpl : e.platform.magicAccessors = ({} : Platform).magicAccessors := by rw [X.admits.platform]
  obtain ⟨vm', hW', X', st⟩ := X.outThrough hlocks q (g := F0 m pc ls rest) rfl rfl rfl (cell := ce) (by rw [hT]; exact hcell) (by rw [hv]; rfl)
    (by obtain ⟨k9, h9, -⟩ := Vm.findClass_spec hcl; exact ⟨k9, h9⟩) (fun z hz => by
      rcases hpass z hz with h | ⟨hz0, nm, hl1, hn1⟩
      · exact Or.inl h
      · obtain ⟨c6, hc6, hcl6⟩ := Cond.classLink_spec hown hl1 e.platform hpl
        obtain ⟨a8, b8, h1, h2, h3⟩ := hn1
        cases Option.some.inj (h1.symm.trans hcl)
        cases Option.some.inj (h2.symm.trans hc6)
        exact Or.inr ⟨hz0, _, hcl6, h3⟩)
  obtain ⟨g₀, hfr⟩ := X'.frames_eq
  have hcell9 : ((T.setVm vm').setFrames (.throwing q :: below)).heap[q]? = some ce := by
    show T.heap[q]? = some ce
    rw [hT]; exact hcell
  have hend : Ended ((T.setVm vm').setFrames (.throwing q :: below)) below (.threw q) := State.frames_setFrames _ (State.cur_lt_of_frames hfr)
  refine ⟨(T.setVm vm').setFrames (.throwing q :: below), ?_, .threw q, X'.here.running, hend, Or.inr ⟨q, rfl, E, ce, locs, hx _ hT (X'.ends _).1.alike, hcell9, hv, hcl, (X'.ends _).1, (X'.ends _).2.mono hc hs, hf⟩⟩
  rw [X.pushThrowing_eq]
  exact st
/-- a thing of a world lies in the heap -/
theorem vx_lt {D : va_G} {cl : List vw_C} {ws : va_W} {H1 : Heap} (h : va_P D cl ws H1) {k : Nat} {q : Nat × va_E} (hk : ws[k]? = some q) : q.1 < H1.size := (h k q hk).lt
end VXS
/-! ===== END ===== -/
/-! ===== BEGIN methods with a table of their own: called by a name, returning or throwing ===== -/
section VXH
/-! vx_backW, vx_callVX, vx_callSX, vx_callVW, vx_runVW, vx_runVX, vx_runSX, vx_ofWH follow the same proofs as their sisters above (Free/Laws.lean, Shelf42/LK1.lean); vx_outP calls Shelf42/NT130.lean (outThrough). -/
section
variable {l : Launch} {R : Room} {p : Program} {e : Env} {below : List Frame} {s : State} {sargs : Array Value} {y : MethodName} {len W9 : Nat}
theorem vx_backW {ws : List Cond} {rm : Room} {Pc : Array Value → State → Prop} {Qc : Array Value → State → Outcome → State → Prop} {XC : String → State → State → Prop} {mc ms : Nat} {free : Addr → Prop} {bytes : ByteArray} {maxL : Nat} {ret : Option FieldType} {hh : List (Nat × Nat × Nat × Nat)}
    (hM : vx_Met l y ws rm Pc Qc XC mc ms free) (hblind : FrameBlind Pc) (hrc : rm.cells = mc) (hrs : rm.slots = ms)
    (hframes : rm.frames + 1 ≤ R.frames) (hlocals : W9 + (maxL + 11) + rm.locals ≤ R.locals)
    (hws : ∀ w ∈ ws, ∀ a' U, s.WarmedH U.vm → w.before a' U = true) (hcode : Cond.codeWith y bytes maxL ret hh ∈ ws) (hinit : ∀ a' U, s.WarmedH U.vm → (Cond.initialized y.cls).before a' U = true) :
    vx_Back l R p e below s sargs y len W9 (PreOf R mc ms Pc) (PostOf Qc mc ms free) (vx_Post XC mc ms free) := by
  intro m meth c A g ig mk a X hg hsize hdg hW hn hp
  have h1 : (headSpec ws rm).pre.before a A.U = true := atoms_intro fun w hw => hws w hw _ _ X.warmed
  have h2 : (Cond.codeWith y bytes maxL ret hh).before a A.U = true := hws _ hcode _ _ X.warmed
  have h3 : (Cond.initialized y.cls).before a A.U = true := hinit _ _ X.warmed
  have h4 : A.cells + (headSpec ws rm).room.cells ≤ R.cells := by rw [show (headSpec ws rm).room.cells = mc from hrc]; exact hp.1
  have h5 : A.slots + (headSpec ws rm).room.slots ≤ R.slots := by rw [show (headSpec ws rm).room.slots = ms from hrs]; exact hp.2.1
  have hPc : Pc a (A.U.calling g mk a) := hblind _ _ _ _ hp.2.2
  obtain ⟨U, Ls, c0, s0⟩ := A
  dsimp only [Pt.U, Pt.locs, Pt.cells, Pt.slots] at h1 h2 h3 h4 h5 X hn hPc ⊢
  obtain ⟨m9, methY, cY, hn9, hmY, hcY, -, hlY, -⟩ := Cond.codeWith_spec h2
  cases Option.some.inj (hn9.symm.trans hn)
  obtain ⟨kY, hkY, -⟩ := className_of_methodNamed hn
  have hinitY : kY.init = .initialized := Cond.initialized_spec (findClass_of_methodNamed hn) hkY h3
  have h : At U g.method c below := by rw [hg]; exact X.here
  have hlocals9 : W9 + (maxL + 11) + (headSpec ws rm).room.locals ≤ R.locals := hlocals
  have happ : (headSpec ws rm).appliesLoose y e.platform (U.calling g mk a) = true :=
    Spec.appliesLoose_calling (g := g) h hdg hn hkY hinitY
      (X.room_calling (g := g) (R' := (headSpec ws rm).room) hsize hmY hcY hframes (by rw [hlY]; omega) h4 h5) h1
  obtain ⟨mid, hmid⟩ := h.above
  have hfr : (U.setTop g).frames = (.java g :: mid) ++ below := by rw [State.frames_setTop' g h.top, hmid]; rfl
  obtain ⟨o, s₂, hsteps, -, hend, hq⟩ := Steps.callFree hM p X.admits X.cas X.clock (acts := []) hfr happ hPc trivial
  have hq' : vx_Q Qc XC mc ms free a (U.calling g mk a) o s₂ := hq
  rw [State.frames_setTop' g h.top] at hend
  obtain ⟨g₀, hg0⟩ := Option.isSome_iff_exists.mp h.top
  obtain ⟨r, hr⟩ := State.topJava?_eq_some.mp hg0
  have hr' : (({ U with heap := s₂.heap, slotsUsed := s₂.slotsUsed } : State).setVm s₂.vm).frames = .java g₀ :: r := hr
  rcases hq' with ⟨hqc, L, hfe, hL⟩ | ⟨q, rfl, E, ce, L, hx, hce, hcv, hcl, hW₂, hsm, hL⟩
  · obtain ⟨⟨v, rfl⟩, hW₂, e2, q2, q3, q4, q5, q6⟩ := id hfe
    have e3 : s₂ = ({ (U.calling g mk a).setFrames s₂.frames with heap := s₂.heap, slotsUsed := s₂.slotsUsed } : State).setVm s₂.vm := by
      have : s₂ = ({ s₂ with vm := (U.calling g mk a).vm } : State).setVm s₂.vm := rfl
      rw [e2] at this
      exact this
    obtain ⟨c₂, i₂, len₂, hc₂, hd₂, hf₂⟩ := hend
    have hW' : U.WarmedH s₂.vm := hW₂
    have hcc : c₂ = c := by
      have h1 : s₂.code? g.method = U.code? g.method := by
        rw [State.code?_eq, State.code?_eq, hW'.alike.method?]
      exact Option.some.inj (hc₂.symm.trans (h1.trans h.code))
    subst hcc
    have hlen : len₂ = len := by rw [hdg] at hd₂; cases hd₂; rfl
    subst hlen
    have hs₂ : s₂ = (({ U with heap := s₂.heap, slotsUsed := s₂.slotsUsed } : State).setVm s₂.vm).setTop { g with pc := g.pc + len₂, stack := v.toList ++ g.stack } := by
      refine e3.trans ?_
      rw [hf₂, State.calling_eq h.top, State.setFrames_setFrames, State.setTop_of_frames _ hr', hr]
      rfl
    have hsame : U.sameButNew ({ U with heap := s₂.heap, slotsUsed := s₂.slotsUsed } : State) L mc ms := by
      refine ⟨?_, q2, q3, q4, q5, q6⟩
      obtain ⟨t, ht, -⟩ := State.frames_cons hr
      show ({ U with heap := s₂.heap, slotsUsed := s₂.slotsUsed } : State) = { U.setFrames U.frames with heap := s₂.heap, slotsUsed := s₂.slotsUsed }
      rw [State.setFrames_self ht]
    subst hg
    refine Or.inl ⟨v, ⟨(({ U with heap := s₂.heap, slotsUsed := s₂.slotsUsed } : State).setVm s₂.vm), Ls ++ L, c0 + mc, s0 + ms⟩,
      ⟨X.admits, X.cas, X.clock, X.frames, X.room, X.hears, X.method, X.code, (X.here.setHeapUsed s₂.heap s₂.slotsUsed).setVm hW'.alike, X.tail, State.WarmedH.trans X.warmed hW', X.limits, X.bytes, X.same.trans (hsame.setVm s.vm)⟩,
      ⟨g, mk, s₂, L, rfl, rfl, hqc, rfl, hL, rfl, rfl⟩, ?_⟩
    show Steps p.tables e below _ ((({ U with heap := s₂.heap, slotsUsed := s₂.slotsUsed } : State).setVm s₂.vm).setTop { g with pc := g.pc + len₂, stack := v.toList ++ g.stack })
    rw [← hs₂]
    exact hsteps
  · obtain ⟨e2, q2, q3, q4, q5, q6⟩ := id hsm
    have e3 : s₂ = ({ (U.calling g mk a).setFrames s₂.frames with heap := s₂.heap, slotsUsed := s₂.slotsUsed } : State).setVm s₂.vm := by
      have : s₂ = ({ s₂ with vm := (U.calling g mk a).vm } : State).setVm s₂.vm := rfl
      rw [e2] at this
      exact this
    have hf₂ : s₂.frames = .throwing q :: .java g :: U.frames.tail := hend
    have hW' : U.WarmedH s₂.vm := hW₂
    have hs₂ : s₂ = ((({ U with heap := s₂.heap, slotsUsed := s₂.slotsUsed } : State).setVm s₂.vm).setTop g).pushFrame (.throwing q) := by
      refine e3.trans ?_
      rw [hf₂, State.calling_eq h.top, State.setFrames_setFrames, State.pushFrame, State.frames_setTop _ hr', State.setTop_of_frames _ hr', State.setFrames_setFrames, hr]
      rfl
    have hsame : U.sameButNew ({ U with heap := s₂.heap, slotsUsed := s₂.slotsUsed } : State) L mc ms := by
      refine ⟨?_, q2, q3, q4, q5, q6⟩
      obtain ⟨t, ht, -⟩ := State.frames_cons hr
      show ({ U with heap := s₂.heap, slotsUsed := s₂.slotsUsed } : State) = { U.setFrames U.frames with heap := s₂.heap, slotsUsed := s₂.slotsUsed }
      rw [State.setFrames_self ht]
    subst hg
    refine Or.inr ⟨q, ⟨(({ U with heap := s₂.heap, slotsUsed := s₂.slotsUsed } : State).setVm s₂.vm), Ls ++ L, c0 + mc, s0 + ms⟩,
      ⟨X.admits, X.cas, X.clock, X.frames, X.room, X.hears, X.method, X.code, (X.here.setHeapUsed s₂.heap s₂.slotsUsed).setVm hW'.alike, X.tail, State.WarmedH.trans X.warmed hW', X.limits, X.bytes, X.same.trans (hsame.setVm s.vm)⟩,
      ⟨g, mk, s₂, L, E, ce, rfl, rfl, hx, hce, hcv, hcl, rfl, hL, rfl, rfl⟩, ?_⟩
    show Steps p.tables e below _ (((({ U with heap := s₂.heap, slotsUsed := s₂.slotsUsed } : State).setVm s₂.vm).setTop g).pushFrame (.throwing q))
    rw [← hs₂]
    exact hsteps
end
variable {p : Program} {l : Launch} {e : Env} {R : Room} {s : State} {m : MethodId} {args : Array Value} {below : List Frame} {meth : Method} {c : Code} {T : State} {H : Heap} {locs : List Loc} {cells slots : Nat}
theorem vx_callVX (X : Stand p l e R s m args below meth c T locs cells slots) (hexec : p.tables.exec = Jvm.exec) {own C : String} {index : Nat} {y : MethodName} {bytes : ByteArray} {maxL : Nat} {ret : Option FieldType} {hh : List (Nat × Nat × Nat × Nat)}
    (hown : s.vm.findClass own = some m.cls) (hlink : (Cond.methodLink own index y).before args s = true) (hinst : (Cond.instanceMethod y).before args s = true) (hsel : (Cond.selects C y y).before args s = true)
    (hcode : (Cond.codeWith y bytes maxL ret hh).before args s = true) (hy : y.cls ≠ "java/lang/invoke/MethodHandle" ∧ y.cls ≠ "java/lang/invoke/VarHandle")
    {W9 : Nat} {Pre : Pt → Array Value → Prop} {Post : Pt → Array Value → Option Value → Pt → Prop} {PostX : Pt → Array Value → Addr → Pt → Prop} (hK : vx_Back l R p e below s args y 3 W9 Pre Post PostX)
    {b : Addr} {cellB : Cell} (hcell : T.heap[b]? = some cellB) (hobj : cellB.vm.isStatics = false) (hcls : s.vm.findClass C = some cellB.cls)
    {g : JFrame} (hg : g.method = m) (hsize : g.locals.size = c.maxLocals) {argsL rest : List Value} (hlen : ∀ sig, parseMethodDescriptor y.desc = some sig → argsL.length = sig.parameters.length)
    (hstack : g.stack = argsL.reverse ++ .ref b :: rest) (hW : 2 * g.monitorRoom + (rest.map fun v => v.category).sum ≤ W9) (hdg : decode c.code g.pc = .ok (.invokevirtual index, 3))
    (hpre : ∀ vm₁, s.WarmedH vm₁ → Pre ⟨T.setVm vm₁, locs, cells, slots⟩ (Value.ref b :: argsL).toArray) :
    (∃ (v : Option Value) (vm₁ : Vm) (B : Pt), s.WarmedH vm₁ ∧ Stand p l e R s m args below meth c B.U B.locs B.cells B.slots ∧ Post ⟨T.setVm vm₁, locs, cells, slots⟩ (Value.ref b :: argsL).toArray v B ∧
      ∀ target, Steps p.tables e below (B.U.setTop { g with pc := g.pc + 3, stack := v.toList ++ rest }) target → Steps p.tables e below (T.setTop g) target) ∨
    (∃ (q : Addr) (vm₁ : Vm) (B : Pt), s.WarmedH vm₁ ∧ Stand p l e R s m args below meth c B.U B.locs B.cells B.slots ∧ PostX ⟨T.setVm vm₁, locs, cells, slots⟩ (Value.ref b :: argsL).toArray q B ∧
      Steps p.tables e below (T.setTop g) ((B.U.setTop { g with stack := rest }).pushFrame (.throwing q))) := by
  obtain ⟨mk, methM, hnamed, hmethM, hstM, habM⟩ := Cond.instanceMethod_spec hinst
  obtain ⟨m8, methM', cM, hn8, hmethM', -, -, -, -, -, -, hsigM⟩ := Cond.codeWith_spec hcode
  cases Option.some.inj (hn8.symm.trans hnamed)
  cases hmethM.symm.trans hmethM'
  obtain ⟨c2, r2, m2, q1, q2, q3, q4, kP, hkP, hkPi⟩ := Cond.selects_spec hsel
  cases hcls.symm.trans q1
  cases (State.methodFound?_of_named hnamed hy).symm.trans q2
  cases hnamed.symm.trans q3
  have hselP : selectMethod e.platform s.vm cellB.cls mk = .method mk := by rw [Launch.admits_selectMethod X.admits]; exact q4
  obtain ⟨vm₁, X₁, hstep₁⟩ := X.invokevirtual hexec hown hlink hnamed hmethM hstM hkP hkPi hy (a := b) (cell := cellB) hcell
    (fun z h => by rw [h] at hobj; cases hobj) hselP hmethM habM hkP hkPi (g := g) hg (argsL := argsL) (rest := rest) (hlen _ hsigM) hstack hdg
  rcases hK m meth c ⟨T.setVm vm₁, locs, cells, slots⟩ { g with stack := rest } (.invokevirtual index) mk (Value.ref b :: argsL).toArray X₁ hg hsize hdg hW (X₁.named hnamed) (hpre vm₁ X₁.warmed) with ⟨v, B, X', hpost, hsteps⟩ | ⟨q, B, X', hpost, hsteps⟩
  · exact Or.inl ⟨v, vm₁, B, X₁.warmed, X', hpost, fun target h => hstep₁ _ fun acts => by rw [doInvoke_state]; exact hsteps.trans h⟩
  · exact Or.inr ⟨q, vm₁, B, X₁.warmed, X', hpost, hstep₁ _ fun acts => by rw [doInvoke_state]; exact hsteps⟩
theorem vx_callSX (X : Stand p l e R s m args below meth c T locs cells slots) (hexec : p.tables.exec = Jvm.exec) {own : String} {index : Nat} {y : MethodName} {bytes : ByteArray} {maxL : Nat} {ret : Option FieldType} {hh : List (Nat × Nat × Nat × Nat)}
    (hown : s.vm.findClass own = some m.cls) (hlink : (Cond.methodLink own index y).before args s = true) (hstat : (Cond.static y).before args s = true) (hinit : (Cond.initialized y.cls).before args s = true)
    (hcode : (Cond.codeWith y bytes maxL ret hh).before args s = true) (hy : y.cls ≠ "java/lang/invoke/MethodHandle" ∧ y.cls ≠ "java/lang/invoke/VarHandle")
    {W9 : Nat} {Pre : Pt → Array Value → Prop} {Post : Pt → Array Value → Option Value → Pt → Prop} {PostX : Pt → Array Value → Addr → Pt → Prop} (hK : vx_Back l R p e below s args y 3 W9 Pre Post PostX)
    {g : JFrame} (hg : g.method = m) (hsize : g.locals.size = c.maxLocals) {argsL rest : List Value} (hlen : ∀ sig, parseMethodDescriptor y.desc = some sig → argsL.length = sig.parameters.length)
    (hstack : g.stack = argsL.reverse ++ rest) (hW : 2 * g.monitorRoom + (rest.map fun v => v.category).sum ≤ W9) (hdg : decode c.code g.pc = .ok (.invokestatic index, 3))
    (hpre : ∀ vm₁, s.WarmedH vm₁ → Pre ⟨T.setVm vm₁, locs, cells, slots⟩ argsL.toArray) :
    (∃ (v : Option Value) (vm₁ : Vm) (B : Pt), s.WarmedH vm₁ ∧ Stand p l e R s m args below meth c B.U B.locs B.cells B.slots ∧ Post ⟨T.setVm vm₁, locs, cells, slots⟩ argsL.toArray v B ∧
      ∀ target, Steps p.tables e below (B.U.setTop { g with pc := g.pc + 3, stack := v.toList ++ rest }) target → Steps p.tables e below (T.setTop g) target) ∨
    (∃ (q : Addr) (vm₁ : Vm) (B : Pt), s.WarmedH vm₁ ∧ Stand p l e R s m args below meth c B.U B.locs B.cells B.slots ∧ PostX ⟨T.setVm vm₁, locs, cells, slots⟩ argsL.toArray q B ∧
      Steps p.tables e below (T.setTop g) ((B.U.setTop { g with stack := rest }).pushFrame (.throwing q))) := by
  obtain ⟨mk, methM, cM, hnamed, hmethM, -, -, -, -, -, -, hsigM⟩ := Cond.codeWith_spec hcode
  have hstatic : methM.isStatic = true := Cond.static_spec hnamed hmethM hstat
  obtain ⟨kP, hkP, -⟩ := className_of_methodNamed hnamed
  have hinitP : kP.init = .initialized := Cond.initialized_spec (findClass_of_methodNamed hnamed) hkP hinit
  obtain ⟨vm₁, X₁, hstep₁⟩ := X.invokestatic hexec hown hlink hnamed hmethM hstatic hkP hinitP hy (g := g) hg (argsL := argsL) (rest := rest) (hlen _ hsigM) hstack hdg
  rcases hK m meth c ⟨T.setVm vm₁, locs, cells, slots⟩ { g with stack := rest } (.invokestatic index) mk argsL.toArray X₁ hg hsize hdg hW (X₁.named hnamed) (hpre vm₁ X₁.warmed) with ⟨v, B, X', hpost, hsteps⟩ | ⟨q, B, X', hpost, hsteps⟩
  · exact Or.inl ⟨v, vm₁, B, X₁.warmed, X', hpost, fun target h => hstep₁ _ fun acts => by rw [doInvoke_state]; exact hsteps.trans h⟩
  · exact Or.inr ⟨q, vm₁, B, X₁.warmed, X', hpost, hstep₁ _ fun acts => by rw [doInvoke_state]; exact hsteps⟩
theorem vx_callVW (X : Stand p l e R s m args below meth c T locs cells slots) (hexec : p.tables.exec = Jvm.exec) {own C : String} {index : Nat} {y : MethodName} {bytes : ByteArray} {maxL : Nat} {ret : Option FieldType} {hh : List (Nat × Nat × Nat × Nat)}
    (hown : s.vm.findClass own = some m.cls) (hlink : (Cond.methodLink own index y).before args s = true) (hinst : (Cond.instanceMethod y).before args s = true) (hsel : (Cond.selects C y y).before args s = true)
    (hcode : (Cond.codeWith y bytes maxL ret hh).before args s = true) (hy : y.cls ≠ "java/lang/invoke/MethodHandle" ∧ y.cls ≠ "java/lang/invoke/VarHandle")
    {W9 : Nat} {Pre : Pt → Array Value → Prop} {Post : Pt → Array Value → Option Value → Pt → Prop} (hK : Back l R p e below s args y 3 W9 Pre Post)
    {b : Addr} {cellB : Cell} (hcell : T.heap[b]? = some cellB) (hobj : cellB.vm.isStatics = false) (hcls : s.vm.findClass C = some cellB.cls)
    {g : JFrame} (hg : g.method = m) (hsize : g.locals.size = c.maxLocals) {argsL rest : List Value} (hlen : ∀ sig, parseMethodDescriptor y.desc = some sig → argsL.length = sig.parameters.length)
    (hstack : g.stack = argsL.reverse ++ .ref b :: rest) (hW : 2 * g.monitorRoom + (rest.map fun v => v.category).sum ≤ W9) (hdg : decode c.code g.pc = .ok (.invokevirtual index, 3))
    (hpre : ∀ vm₁, s.WarmedH vm₁ → Pre ⟨T.setVm vm₁, locs, cells, slots⟩ (Value.ref b :: argsL).toArray) :
    ∃ (v : Option Value) (vm₁ : Vm) (B : Pt), s.WarmedH vm₁ ∧ Stand p l e R s m args below meth c B.U B.locs B.cells B.slots ∧ Post ⟨T.setVm vm₁, locs, cells, slots⟩ (Value.ref b :: argsL).toArray v B ∧
      ∀ target, Steps p.tables e below (B.U.setTop { g with pc := g.pc + 3, stack := v.toList ++ rest }) target → Steps p.tables e below (T.setTop g) target := by
  obtain ⟨mk, methM, hnamed, hmethM, hstM, habM⟩ := Cond.instanceMethod_spec hinst
  obtain ⟨m8, methM', cM, hn8, hmethM', -, -, -, -, -, -, hsigM⟩ := Cond.codeWith_spec hcode
  cases Option.some.inj (hn8.symm.trans hnamed)
  cases hmethM.symm.trans hmethM'
  obtain ⟨c2, r2, m2, q1, q2, q3, q4, kP, hkP, hkPi⟩ := Cond.selects_spec hsel
  cases hcls.symm.trans q1
  cases (State.methodFound?_of_named hnamed hy).symm.trans q2
  cases hnamed.symm.trans q3
  have hselP : selectMethod e.platform s.vm cellB.cls mk = .method mk := by rw [Launch.admits_selectMethod X.admits]; exact q4
  obtain ⟨vm₁, X₁, hstep₁⟩ := X.invokevirtual hexec hown hlink hnamed hmethM hstM hkP hkPi hy (a := b) (cell := cellB) hcell
    (fun z h => by rw [h] at hobj; cases hobj) hselP hmethM habM hkP hkPi (g := g) hg (argsL := argsL) (rest := rest) (hlen _ hsigM) hstack hdg
  obtain ⟨v, B, X', hpost, hsteps⟩ := hK m meth c ⟨T.setVm vm₁, locs, cells, slots⟩ { g with stack := rest } (.invokevirtual index) mk (Value.ref b :: argsL).toArray X₁ hg hsize hdg hW (X₁.named hnamed) (hpre vm₁ X₁.warmed)
  exact ⟨v, vm₁, B, X₁.warmed, X', hpost, fun target h => hstep₁ _ fun acts => by rw [doInvoke_state]; exact hsteps.trans h⟩
abbrev vx_CVW (R : Room) (s : State) (args : Array Value) (own C : String) (index : Nat) (y : MethodName) (bytes : ByteArray) (maxL : Nat) (ret : Option FieldType) (hh : List (Nat × Nat × Nat × Nat)) (ws : List Cond) (rm : Room) (mc ms n : Nat) : Prop :=
  (rm.cells = mc ∧ rm.slots = ms ∧ rm.frames + 1 ≤ R.frames ∧ 8 + (maxL + 11) + rm.locals ≤ R.locals ∧ (∀ w ∈ ws, ∀ (a' : Array Value) (U : State), s.WarmedH U.vm → w.before a' U = true) ∧ Cond.codeWith y bytes maxL ret hh ∈ ws) ∧
  (Cond.codeWith y bytes maxL ret hh).before args s = true ∧ (Cond.initialized y.cls).before args s = true ∧ (y.cls ≠ "java/lang/invoke/MethodHandle" ∧ y.cls ≠ "java/lang/invoke/VarHandle") ∧
  (∀ sig, parseMethodDescriptor y.desc = some sig → n = sig.parameters.length) ∧ (Cond.methodLink own index y).before args s = true ∧ (Cond.instanceMethod y).before args s = true ∧ (Cond.selects C y y).before args s = true
theorem vx_cwVW {own C : String} {index maxL mc ms : Nat} {y : MethodName} {bytes : ByteArray} {ret : Option FieldType} {hh : List (Nat × Nat × Nat × Nat)} {Ts ws ws' : List Cond} {rm : Room} (n : Nat) (ht : ∀ w ∈ Ts, w.before args s = true) (hT : GoodIn Ts (wsV own index C y ws)) (hw : ws = Cond.codeWith y bytes maxL ret hh :: ws') (hrc : rm.cells = mc) (hrs : rm.slots = ms)
    (hd : y.cls = C ∧ y.cls ≠ "java/lang/invoke/MethodHandle" ∧ y.cls ≠ "java/lang/invoke/VarHandle" ∧ (parseMethodDescriptor y.desc).map (fun d => d.parameters.length) = some n) (hR : rm.frames + 1 ≤ R.frames ∧ 8 + (maxL + 11) + rm.locals ≤ R.locals) :
    vx_CVW R s args own C index y bytes maxL ret hh ws rm mc ms n := by
  obtain ⟨hC, hd⟩ := hd
  subst hC
  have ok : ∀ w ∈ wsV own index y.cls y ws, w.before args s = true := fun w h => ht w (hT w h).1
  have hG : GoodIn Ts ws := fun w h => hT w (by unfold wsV; exact List.mem_append_right _ h)
  have hc : Cond.codeWith y bytes maxL ret hh ∈ ws := by rw [hw]; exact List.mem_cons_self
  refine ⟨⟨hrc, hrs, hR.1, hR.2, pay_in ht hG, hc⟩, ht _ (hG _ hc).1, ok _ (by simp [wsV]), ⟨hd.1, hd.2.1⟩, fun sig h => ?_, ok _ (by simp [wsV]), ok _ (by simp [wsV]), ok _ (by simp [wsV])⟩
  have h2 := hd.2.2
  rw [h] at h2
  exact (Option.some.inj h2).symm
theorem vx_runVW {y : MethodName} {bytes cc : ByteArray} {maxL nL mc ms n index : Nat} {ret : Option FieldType} {hh : List (Nat × Nat × Nat × Nat)} {ws : List Cond} {rm : Room} {Pc : Array Value → State → Prop} {Qc : Array Value → State → Outcome → State → Prop} {free : Addr → Prop} {Ts : List Cond} {own C : String} {b : Addr} {As rest : List Value} {g : JFrame}
    (S : CallFix p m c cc nL s args Ts own) (hM : Met l y ws rm Pc Qc mc ms free) (cw : vx_CVW R s args own C index y bytes maxL ret hh ws rm mc ms n) (hp : PreV s H C b Pc As)
    (hg : g.method = m) (hn : As.length = n) (hsize : g.locals.size = nL) (hstack : g.stack = As.reverse ++ .ref b :: rest) (hW : 2 * g.monitorRoom + (rest.map fun v => v.category).sum ≤ 8) (hdg : decode cc g.pc = .ok (.invokevirtual index, 3)) (hf : cells + mc ≤ R.cells ∧ slots + ms ≤ R.slots) :
    va_Run p l e R s m args below meth c H locs cells slots mc ms g rest (Qc (Value.ref b :: As).toArray) free := by
  obtain ⟨⟨hrc, hrs, hfr, hlo, hws, hcw⟩, hcode, hini, hy, hlen, hl, hin, hse⟩ := cw
  have hK : Back l R p e below s args y 3 8 (PreOf R mc ms Pc) (PostOf Qc mc ms free) := va_backW (hh := hh) (bytes := bytes) (maxL := maxL) (ret := ret) hM hp.1 hrc hrs hfr hlo hws hcw (fun a' U hW => word_at hW (Or.inl (by first | rfl | simp [Cond.onTables, Cond.keeps, Cond.steady])) hini)
  obtain ⟨hx, hb, hml, ho, -⟩ := S
  obtain ⟨-, ⟨cellB, hcB, hoB, hclB⟩, hPc⟩ := hp
  intro T hT X
  obtain ⟨v, vm₁, ⟨U', l2, c2, s2⟩, hW₁, X', ⟨g', mk, t, L, e1, e2, hq, h1, hL, h2, h3⟩, st⟩ := vx_callVW X hx (C := C) (hh := hh) (bytes := bytes) (maxL := maxL) (ret := ret) ho hl hin hse hcode hy hK (by rw [hT]; exact hcB) hoB hclB hg (hsize.trans hml.symm) (argsL := As) (rest := rest) (fun sig h => hn.trans (hlen sig h)) hstack hW (by rw [hb]; exact hdg)
    (fun vm₁ hW₁ => ⟨hf.1, hf.2, hPc (T.setVm vm₁) hT hW₁⟩)
  dsimp only [Pt.U, Pt.locs, Pt.cells, Pt.slots] at X' e1 e2 h1 h2 h3 st
  subst h1; subst h2; subst h3
  exact ⟨v, (T.setVm vm₁).calling g' mk (Value.ref b :: As).toArray, t, U', L, hT, X', hL, e1, e2, hq, st⟩
section
variable {y : MethodName} {bytes cc : ByteArray} {maxL nL mc ms n index : Nat} {ret : Option FieldType} {ws : List Cond} {rm : Room} {Pc : Array Value → State → Prop} {Qc : Array Value → State → Outcome → State → Prop} {XC : String → State → State → Prop} {free : Addr → Prop} {Ts : List Cond} {own C : String} {b : Addr} {As rest : List Value} {g : JFrame}
theorem vx_runVX {hh : List (Nat × Nat × Nat × Nat)} (S : CallFix p m c cc nL s args Ts own) (hM : vx_Met l y ws rm Pc Qc XC mc ms free) (cw : vx_CVW R s args own C index y bytes maxL ret hh ws rm mc ms n) (hp : PreV s H C b Pc As)
    (hg : g.method = m) (hn : As.length = n) (hsize : g.locals.size = nL) (hstack : g.stack = As.reverse ++ .ref b :: rest) (hW : 2 * g.monitorRoom + (rest.map fun v => v.category).sum ≤ 8) (hdg : decode cc g.pc = .ok (.invokevirtual index, 3)) (hf : cells + mc ≤ R.cells ∧ slots + ms ≤ R.slots) :
    vx_Run p l e R s m args below meth c H locs cells slots mc ms g rest (Qc (Value.ref b :: As).toArray) XC free := by
  obtain ⟨⟨hrc, hrs, hfr, hlo, hws, hcw⟩, hcode, hini, hy, hlen, hl, hin, hse⟩ := cw
  have hK : vx_Back l R p e below s args y 3 8 (PreOf R mc ms Pc) (PostOf Qc mc ms free) (vx_Post XC mc ms free) := vx_backW (hh := hh) (bytes := bytes) (maxL := maxL) (ret := ret) hM hp.1 hrc hrs hfr hlo hws hcw (fun a' U hW => word_at hW (Or.inl (by first | rfl | simp [Cond.onTables, Cond.keeps, Cond.steady])) hini)
  obtain ⟨hx, hb, hml, ho, -⟩ := S
  obtain ⟨-, ⟨cellB, hcB, hoB, hclB⟩, hPc⟩ := hp
  intro T hT X
  rcases vx_callVX X hx (C := C) (hh := hh) (bytes := bytes) (maxL := maxL) (ret := ret) ho hl hin hse hcode hy hK (by rw [hT]; exact hcB) hoB hclB hg (hsize.trans hml.symm) (argsL := As) (rest := rest) (fun sig h => hn.trans (hlen sig h)) hstack hW (by rw [hb]; exact hdg)
    (fun vm₁ hW₁ => ⟨hf.1, hf.2, hPc (T.setVm vm₁) hT hW₁⟩) with ⟨v, vm₁, ⟨U', l2, c2, s2⟩, hW₁, X', ⟨g', mk, t, L, e1, e2, hq, h1, hL, h2, h3⟩, st⟩ | ⟨q, vm₁, ⟨U', l2, c2, s2⟩, hW₁, X', ⟨g', mk, t, L, E, ce, e1, e2, hq, hce, hcv, hcl, h1, hL, h2, h3⟩, st⟩
  · dsimp only [Pt.U, Pt.locs, Pt.cells, Pt.slots] at X' e1 e2 h1 h2 h3 st
    subst h1; subst h2; subst h3
    exact Or.inl ⟨v, (T.setVm vm₁).calling g' mk (Value.ref b :: As).toArray, t, U', L, hT, X', hL, e1, e2, hq, st⟩
  · dsimp only [Pt.U, Pt.locs, Pt.cells, Pt.slots] at X' e1 e2 h1 h2 h3 st hcl
    subst h1; subst h2; subst h3
    exact Or.inr ⟨q, (T.setVm vm₁).calling g' mk (Value.ref b :: As).toArray, t, U', L, E, ce, hT, X', hL, e1, e2, hq, hce, hcv, vx_cls hW₁ hcl, st⟩
theorem vx_runSX {hh : List (Nat × Nat × Nat × Nat)} (S : CallFix p m c cc nL s args Ts own) (hM : vx_Met l y ws rm Pc Qc XC mc ms free) (cw : vx_CSW R s args own index y bytes maxL ret hh ws rm mc ms n) (hp : PreS s H Pc As)
    (hg : g.method = m) (hn : As.length = n) (hsize : g.locals.size = nL) (hstack : g.stack = As.reverse ++ rest) (hW : 2 * g.monitorRoom + (rest.map fun v => v.category).sum ≤ 8) (hdg : decode cc g.pc = .ok (.invokestatic index, 3)) (hf : cells + mc ≤ R.cells ∧ slots + ms ≤ R.slots) :
    vx_Run p l e R s m args below meth c H locs cells slots mc ms g rest (Qc As.toArray) XC free := by
  obtain ⟨⟨hrc, hrs, hfr, hlo, hws, hcw⟩, hcode, hini, hy, hlen, hl, hstt⟩ := cw
  have hK : vx_Back l R p e below s args y 3 8 (PreOf R mc ms Pc) (PostOf Qc mc ms free) (vx_Post XC mc ms free) := vx_backW (hh := hh) (bytes := bytes) (maxL := maxL) (ret := ret) hM hp.1 hrc hrs hfr hlo hws hcw (fun a' U hW => word_at hW (Or.inl (by first | rfl | simp [Cond.onTables, Cond.keeps, Cond.steady])) hini)
  obtain ⟨hx, hb, hml, ho, -⟩ := S
  intro T hT X
  rcases vx_callSX X hx (hh := hh) (bytes := bytes) (maxL := maxL) (ret := ret) ho hl hstt hini hcode hy hK hg (hsize.trans hml.symm) (argsL := As) (rest := rest) (fun sig h => hn.trans (hlen sig h)) hstack hW (by rw [hb]; exact hdg)
    (fun vm₁ hW₁ => ⟨hf.1, hf.2, hp.2 (T.setVm vm₁) hT hW₁⟩) with ⟨v, vm₁, ⟨U', l2, c2, s2⟩, hW₁, X', ⟨g', mk, t, L, e1, e2, hq, h1, hL, h2, h3⟩, st⟩ | ⟨q, vm₁, ⟨U', l2, c2, s2⟩, hW₁, X', ⟨g', mk, t, L, E, ce, e1, e2, hq, hce, hcv, hcl, h1, hL, h2, h3⟩, st⟩
  · dsimp only [Pt.U, Pt.locs, Pt.cells, Pt.slots] at X' e1 e2 h1 h2 h3 st
    subst h1; subst h2; subst h3
    exact Or.inl ⟨v, (T.setVm vm₁).calling g' mk As.toArray, t, U', L, hT, X', hL, e1, e2, hq, st⟩
  · dsimp only [Pt.U, Pt.locs, Pt.cells, Pt.slots] at X' e1 e2 h1 h2 h3 st hcl
    subst h1; subst h2; subst h3
    exact Or.inr ⟨q, (T.setVm vm₁).calling g' mk As.toArray, t, U', L, E, ce, hT, X', hL, e1, e2, hq, hce, hcv, vx_cls hW₁ hcl, st⟩
end
end VXH
theorem vx_ofWH {l : Launch} {y : MethodName} {ws ws' : List Cond} {rm : Room} {Pc : Array Value → State → Prop} {Qc : Array Value → State → Outcome → State → Prop} {XC : String → State → State → Prop} {mc ms : Nat} {free : Addr → Prop} {cc : ByteArray} {maxL : Nat} {ret : Option FieldType} {hh : List (Nat × Nat × Nat × Nat)}
    (hy : plainName y.cls = true) (hw : ws = Cond.codeWith y cc maxL ret hh :: ws')
    (body : ∀ p e s m args below meth c s₁, BodyLoose p l y (headSpec ws rm) cc maxL ret e s m args below meth c s₁ → c.maxLocals = maxL → Pc args s →
      W p l e (headSpec ws rm).room s m args below meth c s.heap [] 0 0 (vx_MQ below Qc XC args s mc ms free) (entryFrame m args maxL)) : vx_Met l y ws rm Pc Qc XC mc ms free := by
  refine MetFree.of_bodyS (code := cc) (maxLocals := maxL) (ret := ret) hy ?_ ?_
  · intro args s m h hn
    obtain ⟨m9, meth, c, hn9, h1, h2, h3, h4, -, h5, h6, -⟩ := Cond.codeWith_spec (atoms_spec (ws := ws) h _ (by rw [hw]; exact List.mem_cons_self))
    cases hn.symm.trans hn9
    exact ⟨meth, c, h1, h2, h3, h4, h5, h6⟩
  · intro p e s m args below meth c s₁ B hml hP _
    have hh0 : s₁.heap = s.heap := by rw [B.state]; rfl
    obtain ⟨t, a1, o, b1, b2, b3⟩ := body p e s m args below meth c s₁ B hml hP s₁ hh0 (Stand.of_body B)
    exact ⟨t, o, a1, b1, b2, b3⟩
/-! ===== END ===== -/
end
section
def RX0 : String := "Flaghall$Book"
def TX0 : u_T := fun k => match k with
  | 0 => ("Flaghall$Book", "papers", "[LFlaghall$Paper;", true)
  | 1 => ("Flaghall$Book", "mortgages", "[LFlaghall$Mortgage;", true)
  | 2 => ("Flaghall$Book", "standing", "[I", true)
  | 3 => ("Flaghall$Book", "paperCount", "I", false)
  | _ => ("Flaghall$Book", "mortgageCount", "I", false)
def tyX0 : Nat → FieldType := fun k => match k with
  | 0 => .array (.object "Flaghall$Paper")
  | 1 => .array (.object "Flaghall$Mortgage")
  | 2 => .array .int
  | 3 => .int
  | _ => .int
theorem nmX0 : ∀ a, a < 5 → ∀ b, b < 5 → a ≠ b → (TX0 a).2.1 ≠ (TX0 b).2.1 := by decide +kernel
theorem tyX0_ok : ∀ k, k < 5 → parseFieldDescriptor (TX0 k).2.2.1 = some (tyX0 k) := by decide +kernel
abbrev cX0_init : ByteArray := prog_2_method_1_code
def yX0_init : MethodName := ⟨RX0, "<init>", "()V"⟩
abbrev cX0_enter : ByteArray := prog_2_method_2_code
def yX0_enter : MethodName := ⟨RX0, "enter", "(LFlaghall$Kind;IIJ)LFlaghall$Paper;"⟩
abbrev cX0_enterMortgage : ByteArray := prog_2_method_3_code
def yX0_enterMortgage : MethodName := ⟨RX0, "enterMortgage", "(IIIJ)I"⟩
abbrev cX0_enterDischarge : ByteArray := prog_2_method_4_code
def yX0_enterDischarge : MethodName := ⟨RX0, "enterDischarge", "(IZJ)V"⟩
abbrev cX0_takePlace : ByteArray := prog_2_method_5_code
def yX0_takePlace : MethodName := ⟨RX0, "takePlace", "(IIJ)I"⟩
abbrev cX0_firstOpenRow : ByteArray := prog_2_method_6_code
def yX0_firstOpenRow : MethodName := ⟨RX0, "firstOpenRow", "(I)I"⟩
abbrev cX0_isOver : ByteArray := prog_2_method_7_code
def yX0_isOver : MethodName := ⟨RX0, "isOver", "(I)Z"⟩
abbrev cX0_readUpTo : ByteArray := prog_2_method_8_code
def yX0_readUpTo : MethodName := ⟨RX0, "readUpTo", "(IJ)V"⟩
abbrev cX0_read : ByteArray := prog_2_method_9_code
def yX0_read : MethodName := ⟨RX0, "read", "(LFlaghall$Paper;)V"⟩
abbrev cX0_rankOf : ByteArray := prog_2_method_10_code
def yX0_rankOf : MethodName := ⟨RX0, "rankOf", "(IJ)I"⟩
abbrev cX0_mortgageOfRank : ByteArray := prog_2_method_11_code
def yX0_mortgageOfRank : MethodName := ⟨RX0, "mortgageOfRank", "(IIJ)I"⟩
def RX1 : String := "Flaghall$Kind"
def TX1 : u_T := fun k => match k with
  | _ => ("", "", "", false)
def tyX1 : Nat → FieldType := fun k => match k with
  | _ => .int
theorem nmX1 : ∀ a, a < 0 → ∀ b, b < 0 → a ≠ b → (TX1 a).2.1 ≠ (TX1 b).2.1 := by decide +kernel
theorem tyX1_ok : ∀ k, k < 0 → parseFieldDescriptor (TX1 k).2.2.1 = some (tyX1 k) := by decide +kernel
def RX2 : String := "Flaghall$Mortgage"
def TX2 : u_T := fun k => match k with
  | 0 => ("Flaghall$Mortgage", "ship", "I", false)
  | 1 => ("Flaghall$Mortgage", "party", "I", false)
  | 2 => ("Flaghall$Mortgage", "amount", "I", false)
  | 3 => ("Flaghall$Mortgage", "place", "I", false)
  | _ => ("Flaghall$Mortgage", "row", "I", false)
def tyX2 : Nat → FieldType := fun k => match k with
  | 0 => .int
  | 1 => .int
  | 2 => .int
  | 3 => .int
  | _ => .int
theorem nmX2 : ∀ a, a < 5 → ∀ b, b < 5 → a ≠ b → (TX2 a).2.1 ≠ (TX2 b).2.1 := by decide +kernel
theorem tyX2_ok : ∀ k, k < 5 → parseFieldDescriptor (TX2 k).2.2.1 = some (tyX2 k) := by decide +kernel
abbrev cX2_init : ByteArray := prog_4_method_1_code
def yX2_init : MethodName := ⟨RX2, "<init>", "()V"⟩
def RX3 : String := "Flaghall$Paper"
def TX3 : u_T := fun k => match k with
  | 0 => ("Flaghall$Paper", "kind", "LFlaghall$Kind;", false)
  | 1 => ("Flaghall$Paper", "ship", "I", false)
  | 2 => ("Flaghall$Paper", "party", "I", false)
  | 3 => ("Flaghall$Paper", "minute", "J", false)
  | 4 => ("Flaghall$Paper", "amount", "I", false)
  | 5 => ("Flaghall$Paper", "lienClass", "I", false)
  | 6 => ("Flaghall$Paper", "mortgage", "I", false)
  | 7 => ("Flaghall$Paper", "place", "I", false)
  | _ => ("Flaghall$Paper", "isPlaceTaken", "Z", false)
def tyX3 : Nat → FieldType := fun k => match k with
  | 0 => .object "Flaghall$Kind"
  | 1 => .int
  | 2 => .int
  | 3 => .long
  | 4 => .int
  | 5 => .int
  | 6 => .int
  | 7 => .int
  | _ => .boolean
theorem nmX3 : ∀ a, a < 9 → ∀ b, b < 9 → a ≠ b → (TX3 a).2.1 ≠ (TX3 b).2.1 := by decide +kernel
theorem tyX3_ok : ∀ k, k < 9 → parseFieldDescriptor (TX3 k).2.2.1 = some (tyX3 k) := by decide +kernel
abbrev cX3_init : ByteArray := prog_5_method_1_code
def yX3_init : MethodName := ⟨RX3, "<init>", "()V"⟩
abbrev cX3_isLienOn : ByteArray := prog_5_method_2_code
def yX3_isLienOn : MethodName := ⟨RX3, "isLienOn", "(IJ)Z"⟩
abbrev cX3_holdsPlaceFor : ByteArray := prog_5_method_3_code
def yX3_holdsPlaceFor : MethodName := ⟨RX3, "holdsPlaceFor", "(IIJ)Z"⟩
def RX4 : String := "Flaghall$Party"
def TX4 : u_T := fun k => match k with
  | 0 => ("Flaghall$Party", "parts", "[I", true)
  | 1 => ("Flaghall$Party", "isCompany", "Z", false)
  | 2 => ("Flaghall$Party", "home", "I", false)
  | 3 => ("Flaghall$Party", "nextHome", "I", false)
  | _ => ("Flaghall$Party", "received", "J", false)
def tyX4 : Nat → FieldType := fun k => match k with
  | 0 => .array .int
  | 1 => .boolean
  | 2 => .int
  | 3 => .int
  | _ => .long
theorem nmX4 : ∀ a, a < 5 → ∀ b, b < 5 → a ≠ b → (TX4 a).2.1 ≠ (TX4 b).2.1 := by decide +kernel
theorem tyX4_ok : ∀ k, k < 5 → parseFieldDescriptor (TX4 k).2.2.1 = some (tyX4 k) := by decide +kernel
abbrev cX4_init : ByteArray := prog_6_method_1_code
def yX4_init : MethodName := ⟨RX4, "<init>", "()V"⟩
abbrev cX4_partsOfParties : ByteArray := prog_6_method_2_code
def yX4_partsOfParties : MethodName := ⟨RX4, "partsOfParties", "()I"⟩
def RX5 : String := "Flaghall$Ship"
def TX5 : u_T := fun k => match k with
  | 0 => ("Flaghall$Ship", "soundLetters", "[C", true)
  | 1 => ("Flaghall$Ship", "shares", "[I", true)
  | 2 => ("Flaghall$Ship", "soundLength", "I", false)
  | 3 => ("Flaghall$Ship", "flown", "I", false)
  | _ => ("Flaghall$Ship", "graceFrom", "J", false)
def tyX5 : Nat → FieldType := fun k => match k with
  | 0 => .array .char
  | 1 => .array .int
  | 2 => .int
  | 3 => .int
  | _ => .long
theorem nmX5 : ∀ a, a < 5 → ∀ b, b < 5 → a ≠ b → (TX5 a).2.1 ≠ (TX5 b).2.1 := by decide +kernel
theorem tyX5_ok : ∀ k, k < 5 → parseFieldDescriptor (TX5 k).2.2.1 = some (tyX5 k) := by decide +kernel
abbrev cX5_init : ByteArray := prog_7_method_1_code
def yX5_init : MethodName := ⟨RX5, "<init>", "()V"⟩
abbrev cX5_takeName : ByteArray := prog_7_method_2_code
def yX5_takeName : MethodName := ⟨RX5, "takeName", "([CI)V"⟩
abbrev cX5_isHeard : ByteArray := prog_7_method_3_code
def yX5_isHeard : MethodName := ⟨RX5, "isHeard", "(C)Z"⟩
abbrev cX5_soundsLike : ByteArray := prog_7_method_4_code
def yX5_soundsLike : MethodName := ⟨RX5, "soundsLike", "(LFlaghall$Ship;)Z"⟩
abbrev cX5_handTo : ByteArray := prog_7_method_5_code
def yX5_handTo : MethodName := ⟨RX5, "handTo", "(I)V"⟩
abbrev cX5_flagAt : ByteArray := prog_7_method_6_code
def yX5_flagAt : MethodName := ⟨RX5, "flagAt", "(J)I"⟩
def RX6 : String := "Flaghall"
def TX6 : u_T := fun k => match k with
  | 0 => ("Flaghall", "parties", "[LFlaghall$Party;", true)
  | 1 => ("Flaghall", "ships", "[LFlaghall$Ship;", true)
  | 2 => ("Flaghall", "book", "LFlaghall$Book;", true)
  | 3 => ("Flaghall", "typed", "[C", true)
  | 4 => ("Flaghall", "heldByLand", "[I", true)
  | 5 => ("Flaghall", "partyCount", "I", false)
  | 6 => ("Flaghall", "shipCount", "I", false)
  | 7 => ("Flaghall", "typedCount", "I", false)
  | _ => ("Flaghall", "minute", "J", false)
def tyX6 : Nat → FieldType := fun k => match k with
  | 0 => .array (.object "Flaghall$Party")
  | 1 => .array (.object "Flaghall$Ship")
  | 2 => .object "Flaghall$Book"
  | 3 => .array .char
  | 4 => .array .int
  | 5 => .int
  | 6 => .int
  | 7 => .int
  | _ => .long
theorem nmX6 : ∀ a, a < 9 → ∀ b, b < 9 → a ≠ b → (TX6 a).2.1 ≠ (TX6 b).2.1 := by decide +kernel
theorem tyX6_ok : ∀ k, k < 9 → parseFieldDescriptor (TX6 k).2.2.1 = some (tyX6 k) := by decide +kernel
abbrev cX6_init : ByteArray := prog_1_method_1_code
def yX6_init : MethodName := ⟨RX6, "<init>", "()V"⟩
abbrev cX6_letter : ByteArray := prog_1_method_2_code
def yX6_letter : MethodName := ⟨RX6, "letter", "(C)I"⟩
abbrev cX6_person : ByteArray := prog_1_method_3_code
def yX6_person : MethodName := ⟨RX6, "person", "(I)I"⟩
abbrev cX6_company : ByteArray := prog_1_method_4_code
def yX6_company : MethodName := ⟨RX6, "company", "()I"⟩
abbrev cX6_part : ByteArray := prog_1_method_5_code
def yX6_part : MethodName := ⟨RX6, "part", "(III)I"⟩
abbrev cX6_land : ByteArray := prog_1_method_6_code
def yX6_land : MethodName := ⟨RX6, "land", "(I)I"⟩
abbrev cX6_ship : ByteArray := prog_1_method_7_code
def yX6_ship : MethodName := ⟨RX6, "ship", "(I)I"⟩
abbrev cX6_sell : ByteArray := prog_1_method_8_code
def yX6_sell : MethodName := ⟨RX6, "sell", "(IIII)I"⟩
abbrev cX6_fly : ByteArray := prog_1_method_9_code
def yX6_fly : MethodName := ⟨RX6, "fly", "(II)I"⟩
abbrev cX6_notice : ByteArray := prog_1_method_10_code
def yX6_notice : MethodName := ⟨RX6, "notice", "(II)I"⟩
abbrev cX6_mortgage : ByteArray := prog_1_method_11_code
def yX6_mortgage : MethodName := ⟨RX6, "mortgage", "(III)I"⟩
abbrev cX6_discharge : ByteArray := prog_1_method_12_code
def yX6_discharge : MethodName := ⟨RX6, "discharge", "(IZ)V"⟩
abbrev cX6_lien : ByteArray := prog_1_method_13_code
def yX6_lien : MethodName := ⟨RX6, "lien", "(IIII)I"⟩
abbrev cX6_court : ByteArray := prog_1_method_14_code
def yX6_court : MethodName := ⟨RX6, "court", "(III)J"⟩
abbrev cX6_pass : ByteArray := prog_1_method_15_code
def yX6_pass : MethodName := ⟨RX6, "pass", "(I)J"⟩
abbrev cX6_share : ByteArray := prog_1_method_16_code
def yX6_share : MethodName := ⟨RX6, "share", "(II)I"⟩
abbrev cX6_sound : ByteArray := prog_1_method_17_code
def yX6_sound : MethodName := ⟨RX6, "sound", "(II)C"⟩
abbrev cX6_flag : ByteArray := prog_1_method_18_code
def yX6_flag : MethodName := ⟨RX6, "flag", "(I)I"⟩
abbrev cX6_rank : ByteArray := prog_1_method_19_code
def yX6_rank : MethodName := ⟨RX6, "rank", "(I)I"⟩
abbrev cX6_search : ByteArray := prog_1_method_20_code
def yX6_search : MethodName := ⟨RX6, "search", "(IJI)I"⟩
abbrev cX6_got : ByteArray := prog_1_method_21_code
def yX6_got : MethodName := ⟨RX6, "got", "(I)J"⟩
abbrev cX6_liens : ByteArray := prog_1_method_22_code
def yX6_liens : MethodName := ⟨RX6, "liens", "(I)I"⟩
abbrev cX6_needLand : ByteArray := prog_1_method_23_code
def yX6_needLand : MethodName := ⟨RX6, "needLand", "(I)V"⟩
abbrev cX6_needParty : ByteArray := prog_1_method_24_code
def yX6_needParty : MethodName := ⟨RX6, "needParty", "(I)V"⟩
abbrev cX6_needShip : ByteArray := prog_1_method_25_code
def yX6_needShip : MethodName := ⟨RX6, "needShip", "(I)V"⟩
abbrev cX6_needMortgage : ByteArray := prog_1_method_26_code
def yX6_needMortgage : MethodName := ⟨RX6, "needMortgage", "(I)V"⟩
abbrev cX6_needNotNegative : ByteArray := prog_1_method_27_code
def yX6_needNotNegative : MethodName := ⟨RX6, "needNotNegative", "(I)V"⟩
abbrev cX6_needWithin : ByteArray := prog_1_method_28_code
def yX6_needWithin : MethodName := ⟨RX6, "needWithin", "(III)V"⟩
abbrev cX6_needRoomInBook : ByteArray := prog_1_method_29_code
def yX6_needRoomInBook : MethodName := ⟨RX6, "needRoomInBook", "()V"⟩
abbrev cX6_addParty : ByteArray := prog_1_method_30_code
def yX6_addParty : MethodName := ⟨RX6, "addParty", "(ZI)I"⟩
abbrev cX6_findHomes : ByteArray := prog_1_method_31_code
def yX6_findHomes : MethodName := ⟨RX6, "findHomes", "()V"⟩
abbrev cX6_landOfMost : ByteArray := prog_1_method_32_code
def yX6_landOfMost : MethodName := ⟨RX6, "landOfMost", "([I)I"⟩
abbrev cX6_checkGrace : ByteArray := prog_1_method_33_code
def yX6_checkGrace : MethodName := ⟨RX6, "checkGrace", "(LFlaghall$Ship;)V"⟩
abbrev cX6_payLiens : ByteArray := prog_1_method_34_code
def yX6_payLiens : MethodName := ⟨RX6, "payLiens", "(IJ)J"⟩
abbrev cX6_payMortgages : ByteArray := prog_1_method_35_code
def yX6_payMortgages : MethodName := ⟨RX6, "payMortgages", "(IJ)J"⟩
abbrev cX6_payOwners : ByteArray := prog_1_method_36_code
def yX6_payOwners : MethodName := ⟨RX6, "payOwners", "(LFlaghall$Ship;J)J"⟩
abbrev cX6_pay : ByteArray := prog_1_method_37_code
def yX6_pay : MethodName := ⟨RX6, "pay", "(IJ)J"⟩
def RX7 : String := "FlaghallModel"
def TX7 : u_T := fun k => match k with
  | 0 => ("FlaghallModel", "now", "J", false)
  | 1 => ("FlaghallModel", "typedMany", "I", false)
  | 2 => ("FlaghallModel", "typed", "[I", true)
  | 3 => ("FlaghallModel", "partyMany", "I", false)
  | 4 => ("FlaghallModel", "lands", "[I", true)
  | 5 => ("FlaghallModel", "parts", "[I", true)
  | 6 => ("FlaghallModel", "shipMany", "I", false)
  | 7 => ("FlaghallModel", "sounds", "[I", true)
  | 8 => ("FlaghallModel", "shares", "[I", true)
  | 9 => ("FlaghallModel", "flags", "[I", true)
  | 10 => ("FlaghallModel", "graces", "[J", true)
  | 11 => ("FlaghallModel", "paperMany", "I", false)
  | 12 => ("FlaghallModel", "kinds", "[I", true)
  | 13 => ("FlaghallModel", "shipOf", "[I", true)
  | 14 => ("FlaghallModel", "partyOf", "[I", true)
  | 15 => ("FlaghallModel", "amounts", "[I", true)
  | 16 => ("FlaghallModel", "classes", "[I", true)
  | 17 => ("FlaghallModel", "minutes", "[J", true)
  | 18 => ("FlaghallModel", "isTaken", "[Z", true)
  | 19 => ("FlaghallModel", "isOver", "[Z", true)
  | 20 => ("FlaghallModel", "mortgageMany", "I", false)
  | 21 => ("FlaghallModel", "papersOf", "[I", true)
  | 22 => ("FlaghallModel", "places", "[I", true)
  | 23 => ("FlaghallModel", "isDischarged", "[Z", true)
  | 24 => ("FlaghallModel", "gains", "[J", true)
  | 25 => ("FlaghallModel", "thrown", "I", false)
  | 26 => ("FlaghallModel", "found", "[I", true)
  | 27 => ("FlaghallModel", "next", "[I", true)
  | 28 => ("FlaghallModel", "heard", "[I", true)
  | 29 => ("FlaghallModel", "left", "J", false)
  | _ => ("FlaghallModel", "wasThere", "[Z", true)
def tyX7 : Nat → FieldType := fun k => match k with
  | 0 => .long
  | 1 => .int
  | 2 => .array .int
  | 3 => .int
  | 4 => .array .int
  | 5 => .array .int
  | 6 => .int
  | 7 => .array .int
  | 8 => .array .int
  | 9 => .array .int
  | 10 => .array .long
  | 11 => .int
  | 12 => .array .int
  | 13 => .array .int
  | 14 => .array .int
  | 15 => .array .int
  | 16 => .array .int
  | 17 => .array .long
  | 18 => .array .boolean
  | 19 => .array .boolean
  | 20 => .int
  | 21 => .array .int
  | 22 => .array .int
  | 23 => .array .boolean
  | 24 => .array .long
  | 25 => .int
  | 26 => .array .int
  | 27 => .array .int
  | 28 => .array .int
  | 29 => .long
  | _ => .array .boolean
theorem nmX7 : ∀ a, a < 31 → ∀ b, b < 31 → a ≠ b → (TX7 a).2.1 ≠ (TX7 b).2.1 := by decide +kernel
theorem tyX7_ok : ∀ k, k < 31 → parseFieldDescriptor (TX7 k).2.2.1 = some (tyX7 k) := by decide +kernel
abbrev cX7_init : ByteArray := prog_9_method_1_code
def yX7_init : MethodName := ⟨RX7, "<init>", "()V"⟩
abbrev cX7_thrown : ByteArray := prog_9_method_2_code
def yX7_thrown : MethodName := ⟨RX7, "thrown", "()I"⟩
abbrev cX7_in : ByteArray := prog_9_method_3_code
def yX7_in : MethodName := ⟨RX7, "in", "(III)Z"⟩
abbrev cX7_isLand : ByteArray := prog_9_method_4_code
def yX7_isLand : MethodName := ⟨RX7, "isLand", "(I)Z"⟩
abbrev cX7_isParty : ByteArray := prog_9_method_5_code
def yX7_isParty : MethodName := ⟨RX7, "isParty", "(I)Z"⟩
abbrev cX7_isShip : ByteArray := prog_9_method_6_code
def yX7_isShip : MethodName := ⟨RX7, "isShip", "(I)Z"⟩
abbrev cX7_isMortgage : ByteArray := prog_9_method_7_code
def yX7_isMortgage : MethodName := ⟨RX7, "isMortgage", "(I)Z"⟩
abbrev cX7_letter : ByteArray := prog_9_method_8_code
def yX7_letter : MethodName := ⟨RX7, "letter", "(C)I"⟩
abbrev cX7_person : ByteArray := prog_9_method_9_code
def yX7_person : MethodName := ⟨RX7, "person", "(I)I"⟩
abbrev cX7_company : ByteArray := prog_9_method_10_code
def yX7_company : MethodName := ⟨RX7, "company", "()I"⟩
abbrev cX7_part : ByteArray := prog_9_method_11_code
def yX7_part : MethodName := ⟨RX7, "part", "(III)I"⟩
abbrev cX7_landOf : ByteArray := prog_9_method_12_code
def yX7_landOf : MethodName := ⟨RX7, "landOf", "(I)I"⟩
abbrev cX7_findLands : ByteArray := prog_9_method_13_code
def yX7_findLands : MethodName := ⟨RX7, "findLands", "()V"⟩
abbrev cX7_land : ByteArray := prog_9_method_14_code
def yX7_land : MethodName := ⟨RX7, "land", "(I)I"⟩
abbrev cX7_isVowel : ByteArray := prog_9_method_15_code
def yX7_isVowel : MethodName := ⟨RX7, "isVowel", "(I)Z"⟩
abbrev cX7_hear : ByteArray := prog_9_method_16_code
def yX7_hear : MethodName := ⟨RX7, "hear", "()V"⟩
abbrev cX7_isHeard : ByteArray := prog_9_method_17_code
def yX7_isHeard : MethodName := ⟨RX7, "isHeard", "(I)Z"⟩
abbrev cX7_ship : ByteArray := prog_9_method_18_code
def yX7_ship : MethodName := ⟨RX7, "ship", "(I)I"⟩
abbrev cX7_canFly : ByteArray := prog_9_method_19_code
def yX7_canFly : MethodName := ⟨RX7, "canFly", "(II)Z"⟩
abbrev cX7_lookAtFlag : ByteArray := prog_9_method_20_code
def yX7_lookAtFlag : MethodName := ⟨RX7, "lookAtFlag", "(I)V"⟩
abbrev cX7_sell : ByteArray := prog_9_method_21_code
def yX7_sell : MethodName := ⟨RX7, "sell", "(IIII)I"⟩
abbrev cX7_flagNow : ByteArray := prog_9_method_22_code
def yX7_flagNow : MethodName := ⟨RX7, "flagNow", "(I)I"⟩
abbrev cX7_fly : ByteArray := prog_9_method_23_code
def yX7_fly : MethodName := ⟨RX7, "fly", "(II)I"⟩
abbrev cX7_enter : ByteArray := prog_9_method_24_code
def yX7_enter : MethodName := ⟨RX7, "enter", "(IIIII)I"⟩
abbrev cX7_notice : ByteArray := prog_9_method_25_code
def yX7_notice : MethodName := ⟨RX7, "notice", "(II)I"⟩
abbrev cX7_noticeFor : ByteArray := prog_9_method_26_code
def yX7_noticeFor : MethodName := ⟨RX7, "noticeFor", "(II)I"⟩
abbrev cX7_mortgage : ByteArray := prog_9_method_27_code
def yX7_mortgage : MethodName := ⟨RX7, "mortgage", "(III)I"⟩
abbrev cX7_discharge : ByteArray := prog_9_method_28_code
def yX7_discharge : MethodName := ⟨RX7, "discharge", "(IZ)V"⟩
abbrev cX7_lien : ByteArray := prog_9_method_29_code
def yX7_lien : MethodName := ⟨RX7, "lien", "(IIII)I"⟩
abbrev cX7_isLien : ByteArray := prog_9_method_30_code
def yX7_isLien : MethodName := ⟨RX7, "isLien", "(II)Z"⟩
abbrev cX7_isThere : ByteArray := prog_9_method_31_code
def yX7_isThere : MethodName := ⟨RX7, "isThere", "(II)Z"⟩
abbrev cX7_rankOf : ByteArray := prog_9_method_32_code
def yX7_rankOf : MethodName := ⟨RX7, "rankOf", "(I)I"⟩
abbrev cX7_pays : ByteArray := prog_9_method_33_code
def yX7_pays : MethodName := ⟨RX7, "pays", "(I)V"⟩
abbrev cX7_paysAll : ByteArray := prog_9_method_34_code
def yX7_paysAll : MethodName := ⟨RX7, "paysAll", "(I)V"⟩
abbrev cX7_court : ByteArray := prog_9_method_35_code
def yX7_court : MethodName := ⟨RX7, "court", "(III)J"⟩
abbrev cX7_pass : ByteArray := prog_9_method_36_code
def yX7_pass : MethodName := ⟨RX7, "pass", "(I)J"⟩
abbrev cX7_share : ByteArray := prog_9_method_37_code
def yX7_share : MethodName := ⟨RX7, "share", "(II)I"⟩
abbrev cX7_sound : ByteArray := prog_9_method_38_code
def yX7_sound : MethodName := ⟨RX7, "sound", "(II)C"⟩
abbrev cX7_flag : ByteArray := prog_9_method_39_code
def yX7_flag : MethodName := ⟨RX7, "flag", "(I)I"⟩
abbrev cX7_rank : ByteArray := prog_9_method_40_code
def yX7_rank : MethodName := ⟨RX7, "rank", "(I)I"⟩
abbrev cX7_findBook : ByteArray := prog_9_method_41_code
def yX7_findBook : MethodName := ⟨RX7, "findBook", "(IJ)V"⟩
abbrev cX7_search : ByteArray := prog_9_method_42_code
def yX7_search : MethodName := ⟨RX7, "search", "(IJI)I"⟩
abbrev cX7_got : ByteArray := prog_9_method_43_code
def yX7_got : MethodName := ⟨RX7, "got", "(I)J"⟩
abbrev cX7_liens : ByteArray := prog_9_method_44_code
def yX7_liens : MethodName := ⟨RX7, "liens", "(I)I"⟩
def RJx145de : String := "java/io/Serializable"
def TJx145de : u_T := fun k => match k with
  | _ => ("", "", "", false)
def tyJx145de : Nat → FieldType := fun k => match k with
  | _ => .int
theorem nmJx145de : ∀ a, a < 0 → ∀ b, b < 0 → a ≠ b → (TJx145de a).2.1 ≠ (TJx145de b).2.1 := by decide +kernel
theorem tyJx145de_ok : ∀ k, k < 0 → parseFieldDescriptor (TJx145de k).2.2.1 = some (tyJx145de k) := by decide +kernel
def RJx29ce0 : String := "java/lang/Enum"
def TJx29ce0 : u_T := fun k => match k with
  | _ => ("", "", "", false)
def tyJx29ce0 : Nat → FieldType := fun k => match k with
  | _ => .int
theorem nmJx29ce0 : ∀ a, a < 0 → ∀ b, b < 0 → a ≠ b → (TJx29ce0 a).2.1 ≠ (TJx29ce0 b).2.1 := by decide +kernel
theorem tyJx29ce0_ok : ∀ k, k < 0 → parseFieldDescriptor (TJx29ce0 k).2.2.1 = some (tyJx29ce0 k) := by decide +kernel
def RJ9 : String := "java/lang/Math"
def TJ9 : u_T := fun k => match k with
  | _ => ("", "", "", false)
def tyJ9 : Nat → FieldType := fun k => match k with
  | _ => .int
theorem nmJ9 : ∀ a, a < 0 → ∀ b, b < 0 → a ≠ b → (TJ9 a).2.1 ≠ (TJ9 b).2.1 := by decide +kernel
theorem tyJ9_ok : ∀ k, k < 0 → parseFieldDescriptor (TJ9 k).2.2.1 = some (tyJ9 k) := by decide +kernel
abbrev cJ9_min_f86c9 : ByteArray := prog_15_method_70_code
def yJ9_min_f86c9 : MethodName := ⟨RJ9, "min", "(JJ)J"⟩
def RJ0 : String := "java/lang/String"
def TJ0 : u_T := fun k => match k with
  | _ => ("", "", "", false)
def tyJ0 : Nat → FieldType := fun k => match k with
  | _ => .int
theorem nmJ0 : ∀ a, a < 0 → ∀ b, b < 0 → a ≠ b → (TJ0 a).2.1 ≠ (TJ0 b).2.1 := by decide +kernel
theorem tyJ0_ok : ∀ k, k < 0 → parseFieldDescriptor (TJ0 k).2.2.1 = some (tyJ0 k) := by decide +kernel
def RJ7 : String := "java/util/Arrays"
def TJ7 : u_T := fun k => match k with
  | _ => ("", "", "", false)
def tyJ7 : Nat → FieldType := fun k => match k with
  | _ => .int
theorem nmJ7 : ∀ a, a < 0 → ∀ b, b < 0 → a ≠ b → (TJ7 a).2.1 ≠ (TJ7 b).2.1 := by decide +kernel
theorem tyJ7_ok : ∀ k, k < 0 → parseFieldDescriptor (TJ7 k).2.2.1 = some (tyJ7 k) := by decide +kernel
abbrev cJ7_fill_53178 : ByteArray := prog_19_method_103_code
def yJ7_fill_53178 : MethodName := ⟨RJ7, "fill", "([II)V"⟩
def RL : String := "FlaghallLaw"
abbrev cL_letter : ByteArray := method_3_code
def yL_letter : MethodName := ⟨RL, "letter", "(LFlaghall;C[J)I"⟩
abbrev cL_person : ByteArray := method_4_code
def yL_person : MethodName := ⟨RL, "person", "(LFlaghall;I[J)I"⟩
abbrev cL_company : ByteArray := method_5_code
def yL_company : MethodName := ⟨RL, "company", "(LFlaghall;[J)I"⟩
abbrev cL_part : ByteArray := method_6_code
def yL_part : MethodName := ⟨RL, "part", "(LFlaghall;III[J)I"⟩
abbrev cL_land : ByteArray := method_7_code
def yL_land : MethodName := ⟨RL, "land", "(LFlaghall;I[J)I"⟩
abbrev cL_ship : ByteArray := method_8_code
def yL_ship : MethodName := ⟨RL, "ship", "(LFlaghall;I[J)I"⟩
abbrev cL_sell : ByteArray := method_9_code
def yL_sell : MethodName := ⟨RL, "sell", "(LFlaghall;IIII[J)I"⟩
abbrev cL_fly : ByteArray := method_10_code
def yL_fly : MethodName := ⟨RL, "fly", "(LFlaghall;II[J)I"⟩
abbrev cL_notice : ByteArray := method_11_code
def yL_notice : MethodName := ⟨RL, "notice", "(LFlaghall;II[J)I"⟩
abbrev cL_mortgage : ByteArray := method_12_code
def yL_mortgage : MethodName := ⟨RL, "mortgage", "(LFlaghall;III[J)I"⟩
abbrev cL_discharge : ByteArray := method_13_code
def yL_discharge : MethodName := ⟨RL, "discharge", "(LFlaghall;IZ)I"⟩
abbrev cL_lien : ByteArray := method_14_code
def yL_lien : MethodName := ⟨RL, "lien", "(LFlaghall;IIII[J)I"⟩
abbrev cL_court : ByteArray := method_15_code
def yL_court : MethodName := ⟨RL, "court", "(LFlaghall;III[J)I"⟩
abbrev cL_pass : ByteArray := method_16_code
def yL_pass : MethodName := ⟨RL, "pass", "(LFlaghall;I[J)I"⟩
abbrev cL_share : ByteArray := method_17_code
def yL_share : MethodName := ⟨RL, "share", "(LFlaghall;II[J)I"⟩
abbrev cL_sound : ByteArray := method_18_code
def yL_sound : MethodName := ⟨RL, "sound", "(LFlaghall;II[J)I"⟩
abbrev cL_flag : ByteArray := method_19_code
def yL_flag : MethodName := ⟨RL, "flag", "(LFlaghall;I[J)I"⟩
abbrev cL_rank : ByteArray := method_20_code
def yL_rank : MethodName := ⟨RL, "rank", "(LFlaghall;I[J)I"⟩
abbrev cL_search : ByteArray := method_21_code
def yL_search : MethodName := ⟨RL, "search", "(LFlaghall;IJI[J)I"⟩
abbrev cL_got : ByteArray := method_22_code
def yL_got : MethodName := ⟨RL, "got", "(LFlaghall;I[J)I"⟩
abbrev cL_liens : ByteArray := method_23_code
def yL_liens : MethodName := ⟨RL, "liens", "(LFlaghall;I[J)I"⟩
abbrev cL_law : ByteArray := code
def yL_law : MethodName := ⟨RL, "law", "([I)Z"⟩
abbrev vwCl : List vw_C := [(RX0, TX0, 5), (RX2, TX2, 5), (RX3, TX3, 9), (RX4, TX4, 5), (RX5, TX5, 5), (RX6, TX6, 9), (RX7, TX7, 31)]
end
section
/-! ===== BEGIN a private method of a nest mate that may throw (follows va_callVN, va_callSN, va_runVN, va_runSN) ===== -/
section
variable {p : Program} {l : Launch} {e : Env} {R : Room} {s : State} {m : MethodId} {args : Array Value} {below : List Frame} {meth : Method} {c : Code} {H : Heap} {locs : List Loc} {cells slots : Nat}
variable {T : State}
theorem vx_callVN (X : Stand p l e R s m args below meth c T locs cells slots) (hexec : p.tables.exec = Jvm.exec) {own C : String} {index : Nat} {host : String} {y : MethodName} {bytes : ByteArray} {maxL : Nat} {ret : Option FieldType}
    (hown : s.vm.findClass own = some m.cls) (hlink : (Cond.methodLinkNest own index y host).before args s = true) (hinst : (Cond.instanceMethod y).before args s = true) (hsel : (Cond.selects C y y).before args s = true)
    (hcode : (Cond.code y bytes maxL ret).before args s = true) (hy : y.cls ≠ "java/lang/invoke/MethodHandle" ∧ y.cls ≠ "java/lang/invoke/VarHandle")
    {W : Nat} {Pre : Pt → Array Value → Prop} {Post : Pt → Array Value → Option Value → Pt → Prop} {PostX : Pt → Array Value → Addr → Pt → Prop} (hK : vx_Back l R p e below s args y 3 W Pre Post PostX)
    {b : Addr} {cellB : Cell} (hcell : T.heap[b]? = some cellB) (hobj : cellB.vm.isStatics = false) (hcls : s.vm.findClass C = some cellB.cls)
    {g : JFrame} (hg : g.method = m) (hsize : g.locals.size = c.maxLocals) {argsL rest : List Value} (hlen : ∀ sig, parseMethodDescriptor y.desc = some sig → argsL.length = sig.parameters.length)
    (hstack : g.stack = argsL.reverse ++ .ref b :: rest) (hW : 2 * g.monitorRoom + (rest.map fun v => v.category).sum ≤ W) (hdg : decode c.code g.pc = .ok (.invokevirtual index, 3))
    (hpre : ∀ vm₁, s.WarmedH vm₁ → Pre ⟨T.setVm vm₁, locs, cells, slots⟩ (Value.ref b :: argsL).toArray) :
    (∃ (v : Option Value) (vm₁ : Vm) (B : Pt), s.WarmedH vm₁ ∧ Stand p l e R s m args below meth c B.U B.locs B.cells B.slots ∧ Post ⟨T.setVm vm₁, locs, cells, slots⟩ (Value.ref b :: argsL).toArray v B ∧
      ∀ target, Steps p.tables e below (B.U.setTop { g with pc := g.pc + 3, stack := v.toList ++ rest }) target → Steps p.tables e below (T.setTop g) target) ∨
    (∃ (q : Addr) (vm₁ : Vm) (B : Pt), s.WarmedH vm₁ ∧ Stand p l e R s m args below meth c B.U B.locs B.cells B.slots ∧ PostX ⟨T.setVm vm₁, locs, cells, slots⟩ (Value.ref b :: argsL).toArray q B ∧
      Steps p.tables e below (T.setTop g) ((B.U.setTop { g with stack := rest }).pushFrame (.throwing q))) := by
  obtain ⟨mk, methM, hnamed, hmethM, hstM, habM⟩ := Cond.instanceMethod_spec hinst
  obtain ⟨methM', cM, hmethM', -, -, -, -, -, -, hsigM⟩ := Cond.code_spec hnamed hcode
  cases hmethM.symm.trans hmethM'
  obtain ⟨c2, r2, m2, q1, q2, q3, q4, kP, hkP, hkPi⟩ := Cond.selects_spec hsel
  cases hcls.symm.trans q1
  cases (State.methodFound?_of_named hnamed hy).symm.trans q2
  cases hnamed.symm.trans q3
  have hselP : selectMethod e.platform s.vm cellB.cls mk = .method mk := by rw [Launch.admits_selectMethod X.admits]; exact q4
  obtain ⟨vm₁, X₁, hstep₁⟩ := X.invokevirtualNest hexec hown hlink hnamed hmethM hstM hkP hkPi hy (a := b) (cell := cellB) hcell
    (fun z h => by rw [h] at hobj; cases hobj) hselP hmethM habM hkP hkPi (g := g) hg (argsL := argsL) (rest := rest) (hlen _ hsigM) hstack hdg
  rcases hK m meth c ⟨T.setVm vm₁, locs, cells, slots⟩ { g with stack := rest } (.invokevirtual index) mk (Value.ref b :: argsL).toArray X₁ hg hsize hdg hW (X₁.named hnamed) (hpre vm₁ X₁.warmed) with ⟨v, B, X', hpost, hsteps⟩ | ⟨q, B, X', hpost, hsteps⟩
  · exact Or.inl ⟨v, vm₁, B, X₁.warmed, X', hpost, fun target h => hstep₁ _ fun acts => by rw [doInvoke_state]; exact hsteps.trans h⟩
  · exact Or.inr ⟨q, vm₁, B, X₁.warmed, X', hpost, hstep₁ _ fun acts => by rw [doInvoke_state]; exact hsteps⟩
theorem vx_callSN (X : Stand p l e R s m args below meth c T locs cells slots) (hexec : p.tables.exec = Jvm.exec) {own : String} {index : Nat} {host : String} {y : MethodName} {bytes : ByteArray} {maxL : Nat} {ret : Option FieldType}
    (hown : s.vm.findClass own = some m.cls) (hlink : (Cond.methodLinkNest own index y host).before args s = true) (hstat : (Cond.static y).before args s = true) (hinit : (Cond.initialized y.cls).before args s = true)
    (hcode : (Cond.code y bytes maxL ret).before args s = true) (hy : y.cls ≠ "java/lang/invoke/MethodHandle" ∧ y.cls ≠ "java/lang/invoke/VarHandle")
    {W : Nat} {Pre : Pt → Array Value → Prop} {Post : Pt → Array Value → Option Value → Pt → Prop} {PostX : Pt → Array Value → Addr → Pt → Prop} (hK : vx_Back l R p e below s args y 3 W Pre Post PostX)
    {g : JFrame} (hg : g.method = m) (hsize : g.locals.size = c.maxLocals) {argsL rest : List Value} (hlen : ∀ sig, parseMethodDescriptor y.desc = some sig → argsL.length = sig.parameters.length)
    (hstack : g.stack = argsL.reverse ++ rest) (hW : 2 * g.monitorRoom + (rest.map fun v => v.category).sum ≤ W) (hdg : decode c.code g.pc = .ok (.invokestatic index, 3))
    (hpre : ∀ vm₁, s.WarmedH vm₁ → Pre ⟨T.setVm vm₁, locs, cells, slots⟩ argsL.toArray) :
    (∃ (v : Option Value) (vm₁ : Vm) (B : Pt), s.WarmedH vm₁ ∧ Stand p l e R s m args below meth c B.U B.locs B.cells B.slots ∧ Post ⟨T.setVm vm₁, locs, cells, slots⟩ argsL.toArray v B ∧
      ∀ target, Steps p.tables e below (B.U.setTop { g with pc := g.pc + 3, stack := v.toList ++ rest }) target → Steps p.tables e below (T.setTop g) target) ∨
    (∃ (q : Addr) (vm₁ : Vm) (B : Pt), s.WarmedH vm₁ ∧ Stand p l e R s m args below meth c B.U B.locs B.cells B.slots ∧ PostX ⟨T.setVm vm₁, locs, cells, slots⟩ argsL.toArray q B ∧
      Steps p.tables e below (T.setTop g) ((B.U.setTop { g with stack := rest }).pushFrame (.throwing q))) := by
  obtain ⟨mk, hnamed⟩ := Cond.code_named hcode
  obtain ⟨methM, cM, hmethM, -, -, -, -, -, -, hsigM⟩ := Cond.code_spec hnamed hcode
  have hstatic : methM.isStatic = true := Cond.static_spec hnamed hmethM hstat
  obtain ⟨kP, hkP, -⟩ := className_of_methodNamed hnamed
  have hinitP : kP.init = .initialized := Cond.initialized_spec (findClass_of_methodNamed hnamed) hkP hinit
  obtain ⟨vm₁, X₁, hstep₁⟩ := X.invokestaticNest hexec hown hlink hnamed hmethM hstatic hkP hinitP hy (g := g) hg (argsL := argsL) (rest := rest) (hlen _ hsigM) hstack hdg
  rcases hK m meth c ⟨T.setVm vm₁, locs, cells, slots⟩ { g with stack := rest } (.invokestatic index) mk argsL.toArray X₁ hg hsize hdg hW (X₁.named hnamed) (hpre vm₁ X₁.warmed) with ⟨v, B, X', hpost, hsteps⟩ | ⟨q, B, X', hpost, hsteps⟩
  · exact Or.inl ⟨v, vm₁, B, X₁.warmed, X', hpost, fun target h => hstep₁ _ fun acts => by rw [doInvoke_state]; exact hsteps.trans h⟩
  · exact Or.inr ⟨q, vm₁, B, X₁.warmed, X', hpost, hstep₁ _ fun acts => by rw [doInvoke_state]; exact hsteps⟩
theorem vx_runVN {y : MethodName} {bytes cc : ByteArray} {maxL nL mc ms n index : Nat} {ret : Option FieldType} {ws : List Cond} {rm : Room} {Pc : Array Value → State → Prop} {Qc : Array Value → State → Outcome → State → Prop} {XC : String → State → State → Prop} {free : Addr → Prop} {Ts : List Cond} {own C host : String} {b : Addr} {As rest : List Value} {g : JFrame}
    (S : CallFix p m c cc nL s args Ts own) (hM : vx_Met l y ws rm Pc Qc XC mc ms free) (cw : va_CN R s args own index y host bytes maxL ret ws rm mc ms n ∧ (Cond.instanceMethod y).before args s = true ∧ (Cond.selects C y y).before args s = true) (hp : PreV s H C b Pc As)
    (hg : g.method = m) (hn : As.length = n) (hsize : g.locals.size = nL) (hstack : g.stack = As.reverse ++ .ref b :: rest) (hW : 2 * g.monitorRoom + (rest.map fun v => v.category).sum ≤ 8) (hdg : decode cc g.pc = .ok (.invokevirtual index, 3)) (hf : cells + mc ≤ R.cells ∧ slots + ms ≤ R.slots) :
    vx_Run p l e R s m args below meth c H locs cells slots mc ms g rest (Qc (Value.ref b :: As).toArray) XC free := by
  obtain ⟨⟨⟨hrc, hrs, hfr, hlo, hws, hcw⟩, hcode, hini, hy, hlen, hl⟩, hx1, hx2⟩ := cw
  have hK : vx_Back l R p e below s args y 3 8 (PreOf R mc ms Pc) (PostOf Qc mc ms free) (vx_Post XC mc ms free) := vx_back (bytes := bytes) (maxL := maxL) (ret := ret) hM hp.1 hrc hrs hfr hlo hws hcw (fun a' U hW => word_at hW (Or.inl (by first | rfl | simp [Cond.onTables, Cond.keeps, Cond.steady])) hini)
  obtain ⟨hx, hb, hml, ho, -⟩ := S
  obtain ⟨-, ⟨cellB, hcB, hoB, hclB⟩, hPc⟩ := hp
  intro T hT X
  rcases vx_callVN X hx (C := C) (bytes := bytes) (maxL := maxL) (ret := ret) ho hl hx1 hx2 hcode hy hK (by rw [hT]; exact hcB) hoB hclB hg (hsize.trans hml.symm) (argsL := As) (rest := rest) (fun sig h => hn.trans (hlen sig h)) hstack hW (by rw [hb]; exact hdg)
    (fun vm₁ hW₁ => ⟨hf.1, hf.2, hPc (T.setVm vm₁) hT hW₁⟩) with ⟨v, vm₁, ⟨U', l2, c2, s2⟩, hW₁, X', ⟨g', mk, t, L, e1, e2, hq, h1, hL, h2, h3⟩, st⟩ | ⟨q, vm₁, ⟨U', l2, c2, s2⟩, hW₁, X', ⟨g', mk, t, L, E, ce, e1, e2, hq, hce, hcv, hcl, h1, hL, h2, h3⟩, st⟩
  · dsimp only [Pt.U, Pt.locs, Pt.cells, Pt.slots] at X' e1 e2 h1 h2 h3 st
    subst h1; subst h2; subst h3
    exact Or.inl ⟨v, (T.setVm vm₁).calling g' mk (Value.ref b :: As).toArray, t, U', L, hT, X', hL, e1, e2, hq, st⟩
  · dsimp only [Pt.U, Pt.locs, Pt.cells, Pt.slots] at X' e1 e2 h1 h2 h3 st hcl
    subst h1; subst h2; subst h3
    exact Or.inr ⟨q, (T.setVm vm₁).calling g' mk (Value.ref b :: As).toArray, t, U', L, E, ce, hT, X', hL, e1, e2, hq, hce, hcv, vx_cls hW₁ hcl, st⟩
theorem vx_runSN {y : MethodName} {bytes cc : ByteArray} {maxL nL mc ms n index : Nat} {ret : Option FieldType} {ws : List Cond} {rm : Room} {Pc : Array Value → State → Prop} {Qc : Array Value → State → Outcome → State → Prop} {XC : String → State → State → Prop} {free : Addr → Prop} {Ts : List Cond} {own host : String} {As rest : List Value} {g : JFrame}
    (S : CallFix p m c cc nL s args Ts own) (hM : vx_Met l y ws rm Pc Qc XC mc ms free) (cw : va_CN R s args own index y host bytes maxL ret ws rm mc ms n ∧ (Cond.static y).before args s = true ∧ True) (hp : PreS s H Pc As)
    (hg : g.method = m) (hn : As.length = n) (hsize : g.locals.size = nL) (hstack : g.stack = As.reverse ++ rest) (hW : 2 * g.monitorRoom + (rest.map fun v => v.category).sum ≤ 8) (hdg : decode cc g.pc = .ok (.invokestatic index, 3)) (hf : cells + mc ≤ R.cells ∧ slots + ms ≤ R.slots) :
    vx_Run p l e R s m args below meth c H locs cells slots mc ms g rest (Qc As.toArray) XC free := by
  obtain ⟨⟨⟨hrc, hrs, hfr, hlo, hws, hcw⟩, hcode, hini, hy, hlen, hl⟩, hx1, hx2⟩ := cw
  have hK : vx_Back l R p e below s args y 3 8 (PreOf R mc ms Pc) (PostOf Qc mc ms free) (vx_Post XC mc ms free) := vx_back (bytes := bytes) (maxL := maxL) (ret := ret) hM hp.1 hrc hrs hfr hlo hws hcw (fun a' U hW => word_at hW (Or.inl (by first | rfl | simp [Cond.onTables, Cond.keeps, Cond.steady])) hini)
  obtain ⟨hx, hb, hml, ho, -⟩ := S
  have hPc := hp.2
  intro T hT X
  rcases vx_callSN X hx (bytes := bytes) (maxL := maxL) (ret := ret) ho hl hx1 hini hcode hy hK hg (hsize.trans hml.symm) (argsL := As) (rest := rest) (fun sig h => hn.trans (hlen sig h)) hstack hW (by rw [hb]; exact hdg)
    (fun vm₁ hW₁ => ⟨hf.1, hf.2, hPc (T.setVm vm₁) hT hW₁⟩) with ⟨v, vm₁, ⟨U', l2, c2, s2⟩, hW₁, X', ⟨g', mk, t, L, e1, e2, hq, h1, hL, h2, h3⟩, st⟩ | ⟨q, vm₁, ⟨U', l2, c2, s2⟩, hW₁, X', ⟨g', mk, t, L, E, ce, e1, e2, hq, hce, hcv, hcl, h1, hL, h2, h3⟩, st⟩
  · dsimp only [Pt.U, Pt.locs, Pt.cells, Pt.slots] at X' e1 e2 h1 h2 h3 st
    subst h1; subst h2; subst h3
    exact Or.inl ⟨v, (T.setVm vm₁).calling g' mk As.toArray, t, U', L, hT, X', hL, e1, e2, hq, st⟩
  · dsimp only [Pt.U, Pt.locs, Pt.cells, Pt.slots] at X' e1 e2 h1 h2 h3 st hcl
    subst h1; subst h2; subst h3
    exact Or.inr ⟨q, (T.setVm vm₁).calling g' mk As.toArray, t, U', L, E, ce, hT, X', hL, e1, e2, hq, hce, hcv, vx_cls hW₁ hcl, st⟩
end
/-! ===== END ===== -/
end
section
/-! ===== the good words of the tables ===== -/
def zBG : List Cond := lw_tbl.filter goodWord
theorem zBG_in {w : Cond} (h : w ∈ zBG) : w ∈ lw_tbl := (List.mem_filter.mp h).1
theorem zBG_all : zBG.all goodWord = true := List.all_eq_true.mpr fun _ h => (List.mem_filter.mp h).2
theorem zBG_good {w : Cond} (h : w ∈ zBG) : (w.onTables && w.keeps) = true ∨ ∃ ty, w = .arrayClass ty := good_of_word (List.mem_filter.mp h).2
theorem zin_0 {w : Cond} (h : w ∈ k2_sels lw_privs) (g : goodWord w = true) : w ∈ zBG := List.mem_filter.mpr ⟨List.mem_append_left _ h, g⟩
theorem zin_1 {w : Cond} (h : w ∈ tables_1_1) (g : goodWord w = true) : w ∈ zBG := List.mem_filter.mpr ⟨List.mem_append_right _ (List.mem_append_left _ h), g⟩
theorem zin_2 {w : Cond} (h : w ∈ tables_1_2) (g : goodWord w = true) : w ∈ zBG := List.mem_filter.mpr ⟨List.mem_append_right _ (List.mem_append_right _ (List.mem_append_left _ h)), g⟩
theorem zin_3 {w : Cond} (h : w ∈ tables_1_3) (g : goodWord w = true) : w ∈ zBG := List.mem_filter.mpr ⟨List.mem_append_right _ (List.mem_append_right _ (List.mem_append_right _ (List.mem_append_left _ h))), g⟩
theorem zin_4 {w : Cond} (h : w ∈ tables_1_4) (g : goodWord w = true) : w ∈ zBG := List.mem_filter.mpr ⟨List.mem_append_right _ (List.mem_append_right _ (List.mem_append_right _ (List.mem_append_right _ h))), g⟩
theorem zt_0_0 : Cond.selects "java/lang/Throwable" ⟨"java/lang/Throwable", "fillInStackTrace", "(I)Ljava/lang/Throwable;"⟩ ⟨"java/lang/Throwable", "fillInStackTrace", "(I)Ljava/lang/Throwable;"⟩ ∈ zBG := zin_0 (List.mem_of_getElem? (i := 0) rfl) rfl
theorem zt_0_1 : Cond.selects "Flaghall" ⟨"Flaghall", "needLand", "(I)V"⟩ ⟨"Flaghall", "needLand", "(I)V"⟩ ∈ zBG := zin_0 (List.mem_of_getElem? (i := 1) rfl) rfl
theorem zt_0_2 : Cond.selects "Flaghall" ⟨"Flaghall", "addParty", "(ZI)I"⟩ ⟨"Flaghall", "addParty", "(ZI)I"⟩ ∈ zBG := zin_0 (List.mem_of_getElem? (i := 2) rfl) rfl
theorem zt_0_3 : Cond.selects "Flaghall" ⟨"Flaghall", "needParty", "(I)V"⟩ ⟨"Flaghall", "needParty", "(I)V"⟩ ∈ zBG := zin_0 (List.mem_of_getElem? (i := 3) rfl) rfl
theorem zt_0_4 : Cond.selects "Flaghall" ⟨"Flaghall", "needWithin", "(III)V"⟩ ⟨"Flaghall", "needWithin", "(III)V"⟩ ∈ zBG := zin_0 (List.mem_of_getElem? (i := 4) rfl) rfl
theorem zt_0_5 : Cond.selects "Flaghall$Party" ⟨"Flaghall$Party", "partsOfParties", "()I"⟩ ⟨"Flaghall$Party", "partsOfParties", "()I"⟩ ∈ zBG := zin_0 (List.mem_of_getElem? (i := 5) rfl) rfl
theorem zt_0_6 : Cond.selects "Flaghall" ⟨"Flaghall", "findHomes", "()V"⟩ ⟨"Flaghall", "findHomes", "()V"⟩ ∈ zBG := zin_0 (List.mem_of_getElem? (i := 6) rfl) rfl
theorem zt_0_7 : Cond.selects "Flaghall" ⟨"Flaghall", "landOfMost", "([I)I"⟩ ⟨"Flaghall", "landOfMost", "([I)I"⟩ ∈ zBG := zin_0 (List.mem_of_getElem? (i := 7) rfl) rfl
theorem zt_0_8 : Cond.selects "Flaghall" ⟨"Flaghall", "checkGrace", "(LFlaghall$Ship;)V"⟩ ⟨"Flaghall", "checkGrace", "(LFlaghall$Ship;)V"⟩ ∈ zBG := zin_0 (List.mem_of_getElem? (i := 8) rfl) rfl
theorem zt_0_9 : Cond.selects "Flaghall$Ship" ⟨"Flaghall$Ship", "takeName", "([CI)V"⟩ ⟨"Flaghall$Ship", "takeName", "([CI)V"⟩ ∈ zBG := zin_0 (List.mem_of_getElem? (i := 9) rfl) rfl
theorem zt_0_10 : Cond.selects "Flaghall$Ship" ⟨"Flaghall$Ship", "isHeard", "(C)Z"⟩ ⟨"Flaghall$Ship", "isHeard", "(C)Z"⟩ ∈ zBG := zin_0 (List.mem_of_getElem? (i := 10) rfl) rfl
theorem zt_0_11 : Cond.selects "Flaghall$Ship" ⟨"Flaghall$Ship", "soundsLike", "(LFlaghall$Ship;)Z"⟩ ⟨"Flaghall$Ship", "soundsLike", "(LFlaghall$Ship;)Z"⟩ ∈ zBG := zin_0 (List.mem_of_getElem? (i := 11) rfl) rfl
theorem zt_0_12 : Cond.selects "Flaghall$Ship" ⟨"Flaghall$Ship", "handTo", "(I)V"⟩ ⟨"Flaghall$Ship", "handTo", "(I)V"⟩ ∈ zBG := zin_0 (List.mem_of_getElem? (i := 12) rfl) rfl
theorem zt_0_13 : Cond.selects "Flaghall" ⟨"Flaghall", "needShip", "(I)V"⟩ ⟨"Flaghall", "needShip", "(I)V"⟩ ∈ zBG := zin_0 (List.mem_of_getElem? (i := 13) rfl) rfl
theorem zt_0_14 : Cond.selects "Flaghall$Ship" ⟨"Flaghall$Ship", "flagAt", "(J)I"⟩ ⟨"Flaghall$Ship", "flagAt", "(J)I"⟩ ∈ zBG := zin_0 (List.mem_of_getElem? (i := 14) rfl) rfl
theorem zt_0_15 : Cond.selects "Flaghall" ⟨"Flaghall", "needRoomInBook", "()V"⟩ ⟨"Flaghall", "needRoomInBook", "()V"⟩ ∈ zBG := zin_0 (List.mem_of_getElem? (i := 15) rfl) rfl
theorem zt_0_16 : Cond.selects "Flaghall$Book" ⟨"Flaghall$Book", "enter", "(LFlaghall$Kind;IIJ)LFlaghall$Paper;"⟩ ⟨"Flaghall$Book", "enter", "(LFlaghall$Kind;IIJ)LFlaghall$Paper;"⟩ ∈ zBG := zin_0 (List.mem_of_getElem? (i := 16) rfl) rfl
theorem zt_0_17 : Cond.selects "Flaghall$Book" ⟨"Flaghall$Book", "enterMortgage", "(IIIJ)I"⟩ ⟨"Flaghall$Book", "enterMortgage", "(IIIJ)I"⟩ ∈ zBG := zin_0 (List.mem_of_getElem? (i := 17) rfl) rfl
theorem zt_0_18 : Cond.selects "Flaghall$Book" ⟨"Flaghall$Book", "takePlace", "(IIJ)I"⟩ ⟨"Flaghall$Book", "takePlace", "(IIJ)I"⟩ ∈ zBG := zin_0 (List.mem_of_getElem? (i := 18) rfl) rfl
theorem zt_0_19 : Cond.selects "Flaghall$Book" ⟨"Flaghall$Book", "firstOpenRow", "(I)I"⟩ ⟨"Flaghall$Book", "firstOpenRow", "(I)I"⟩ ∈ zBG := zin_0 (List.mem_of_getElem? (i := 19) rfl) rfl
theorem zt_0_20 : Cond.selects "Flaghall$Paper" ⟨"Flaghall$Paper", "holdsPlaceFor", "(IIJ)Z"⟩ ⟨"Flaghall$Paper", "holdsPlaceFor", "(IIJ)Z"⟩ ∈ zBG := zin_0 (List.mem_of_getElem? (i := 20) rfl) rfl
theorem zt_0_21 : Cond.selects "Flaghall" ⟨"Flaghall", "needMortgage", "(I)V"⟩ ⟨"Flaghall", "needMortgage", "(I)V"⟩ ∈ zBG := zin_0 (List.mem_of_getElem? (i := 21) rfl) rfl
theorem zt_0_22 : Cond.selects "Flaghall$Book" ⟨"Flaghall$Book", "rankOf", "(IJ)I"⟩ ⟨"Flaghall$Book", "rankOf", "(IJ)I"⟩ ∈ zBG := zin_0 (List.mem_of_getElem? (i := 22) rfl) rfl
theorem zt_0_23 : Cond.selects "Flaghall$Book" ⟨"Flaghall$Book", "readUpTo", "(IJ)V"⟩ ⟨"Flaghall$Book", "readUpTo", "(IJ)V"⟩ ∈ zBG := zin_0 (List.mem_of_getElem? (i := 23) rfl) rfl
theorem zt_0_24 : Cond.selects "Flaghall$Book" ⟨"Flaghall$Book", "read", "(LFlaghall$Paper;)V"⟩ ⟨"Flaghall$Book", "read", "(LFlaghall$Paper;)V"⟩ ∈ zBG := zin_0 (List.mem_of_getElem? (i := 24) rfl) rfl
theorem zt_0_25 : Cond.selects "Flaghall$Book" ⟨"Flaghall$Book", "isOver", "(I)Z"⟩ ⟨"Flaghall$Book", "isOver", "(I)Z"⟩ ∈ zBG := zin_0 (List.mem_of_getElem? (i := 25) rfl) rfl
theorem zt_0_26 : Cond.selects "Flaghall$Book" ⟨"Flaghall$Book", "enterDischarge", "(IZJ)V"⟩ ⟨"Flaghall$Book", "enterDischarge", "(IZJ)V"⟩ ∈ zBG := zin_0 (List.mem_of_getElem? (i := 26) rfl) rfl
theorem zt_0_27 : Cond.selects "Flaghall" ⟨"Flaghall", "payLiens", "(IJ)J"⟩ ⟨"Flaghall", "payLiens", "(IJ)J"⟩ ∈ zBG := zin_0 (List.mem_of_getElem? (i := 27) rfl) rfl
theorem zt_0_28 : Cond.selects "Flaghall$Paper" ⟨"Flaghall$Paper", "isLienOn", "(IJ)Z"⟩ ⟨"Flaghall$Paper", "isLienOn", "(IJ)Z"⟩ ∈ zBG := zin_0 (List.mem_of_getElem? (i := 28) rfl) rfl
theorem zt_0_29 : Cond.selects "Flaghall" ⟨"Flaghall", "pay", "(IJ)J"⟩ ⟨"Flaghall", "pay", "(IJ)J"⟩ ∈ zBG := zin_0 (List.mem_of_getElem? (i := 29) rfl) rfl
theorem zt_0_30 : Cond.selects "Flaghall" ⟨"Flaghall", "payMortgages", "(IJ)J"⟩ ⟨"Flaghall", "payMortgages", "(IJ)J"⟩ ∈ zBG := zin_0 (List.mem_of_getElem? (i := 30) rfl) rfl
theorem zt_0_31 : Cond.selects "Flaghall" ⟨"Flaghall", "payOwners", "(LFlaghall$Ship;J)J"⟩ ⟨"Flaghall", "payOwners", "(LFlaghall$Ship;J)J"⟩ ∈ zBG := zin_0 (List.mem_of_getElem? (i := 31) rfl) rfl
theorem zt_0_32 : Cond.selects "Flaghall" ⟨"Flaghall", "needNotNegative", "(I)V"⟩ ⟨"Flaghall", "needNotNegative", "(I)V"⟩ ∈ zBG := zin_0 (List.mem_of_getElem? (i := 32) rfl) rfl
theorem zt_0_33 : Cond.selects "Flaghall$Book" ⟨"Flaghall$Book", "mortgageOfRank", "(IIJ)I"⟩ ⟨"Flaghall$Book", "mortgageOfRank", "(IIJ)I"⟩ ∈ zBG := zin_0 (List.mem_of_getElem? (i := 33) rfl) rfl
theorem zt_0_34 : Cond.selects "FlaghallModel" ⟨"FlaghallModel", "isParty", "(I)Z"⟩ ⟨"FlaghallModel", "isParty", "(I)Z"⟩ ∈ zBG := zin_0 (List.mem_of_getElem? (i := 34) rfl) rfl
theorem zt_0_35 : Cond.selects "FlaghallModel" ⟨"FlaghallModel", "lookAtFlag", "(I)V"⟩ ⟨"FlaghallModel", "lookAtFlag", "(I)V"⟩ ∈ zBG := zin_0 (List.mem_of_getElem? (i := 35) rfl) rfl
theorem zt_0_36 : Cond.selects "FlaghallModel" ⟨"FlaghallModel", "canFly", "(II)Z"⟩ ⟨"FlaghallModel", "canFly", "(II)Z"⟩ ∈ zBG := zin_0 (List.mem_of_getElem? (i := 36) rfl) rfl
theorem zt_0_37 : Cond.selects "FlaghallModel" ⟨"FlaghallModel", "findLands", "()V"⟩ ⟨"FlaghallModel", "findLands", "()V"⟩ ∈ zBG := zin_0 (List.mem_of_getElem? (i := 37) rfl) rfl
theorem zt_0_38 : Cond.selects "FlaghallModel" ⟨"FlaghallModel", "landOf", "(I)I"⟩ ⟨"FlaghallModel", "landOf", "(I)I"⟩ ∈ zBG := zin_0 (List.mem_of_getElem? (i := 38) rfl) rfl
theorem zt_0_39 : Cond.selects "FlaghallModel" ⟨"FlaghallModel", "hear", "()V"⟩ ⟨"FlaghallModel", "hear", "()V"⟩ ∈ zBG := zin_0 (List.mem_of_getElem? (i := 39) rfl) rfl
theorem zt_0_40 : Cond.selects "FlaghallModel" ⟨"FlaghallModel", "isHeard", "(I)Z"⟩ ⟨"FlaghallModel", "isHeard", "(I)Z"⟩ ∈ zBG := zin_0 (List.mem_of_getElem? (i := 40) rfl) rfl
theorem zt_0_41 : Cond.selects "FlaghallModel" ⟨"FlaghallModel", "isShip", "(I)Z"⟩ ⟨"FlaghallModel", "isShip", "(I)Z"⟩ ∈ zBG := zin_0 (List.mem_of_getElem? (i := 41) rfl) rfl
theorem zt_0_42 : Cond.selects "FlaghallModel" ⟨"FlaghallModel", "flagNow", "(I)I"⟩ ⟨"FlaghallModel", "flagNow", "(I)I"⟩ ∈ zBG := zin_0 (List.mem_of_getElem? (i := 42) rfl) rfl
theorem zt_0_43 : Cond.selects "FlaghallModel" ⟨"FlaghallModel", "enter", "(IIIII)I"⟩ ⟨"FlaghallModel", "enter", "(IIIII)I"⟩ ∈ zBG := zin_0 (List.mem_of_getElem? (i := 43) rfl) rfl
theorem zt_0_44 : Cond.selects "FlaghallModel" ⟨"FlaghallModel", "noticeFor", "(II)I"⟩ ⟨"FlaghallModel", "noticeFor", "(II)I"⟩ ∈ zBG := zin_0 (List.mem_of_getElem? (i := 44) rfl) rfl
theorem zt_0_45 : Cond.selects "FlaghallModel" ⟨"FlaghallModel", "isMortgage", "(I)Z"⟩ ⟨"FlaghallModel", "isMortgage", "(I)Z"⟩ ∈ zBG := zin_0 (List.mem_of_getElem? (i := 45) rfl) rfl
theorem zt_0_46 : Cond.selects "FlaghallModel" ⟨"FlaghallModel", "paysAll", "(I)V"⟩ ⟨"FlaghallModel", "paysAll", "(I)V"⟩ ∈ zBG := zin_0 (List.mem_of_getElem? (i := 46) rfl) rfl
theorem zt_0_47 : Cond.selects "FlaghallModel" ⟨"FlaghallModel", "isLien", "(II)Z"⟩ ⟨"FlaghallModel", "isLien", "(II)Z"⟩ ∈ zBG := zin_0 (List.mem_of_getElem? (i := 47) rfl) rfl
theorem zt_0_48 : Cond.selects "FlaghallModel" ⟨"FlaghallModel", "pays", "(I)V"⟩ ⟨"FlaghallModel", "pays", "(I)V"⟩ ∈ zBG := zin_0 (List.mem_of_getElem? (i := 48) rfl) rfl
theorem zt_0_49 : Cond.selects "FlaghallModel" ⟨"FlaghallModel", "isThere", "(II)Z"⟩ ⟨"FlaghallModel", "isThere", "(II)Z"⟩ ∈ zBG := zin_0 (List.mem_of_getElem? (i := 49) rfl) rfl
theorem zt_0_50 : Cond.selects "FlaghallModel" ⟨"FlaghallModel", "rankOf", "(I)I"⟩ ⟨"FlaghallModel", "rankOf", "(I)I"⟩ ∈ zBG := zin_0 (List.mem_of_getElem? (i := 50) rfl) rfl
theorem zt_0_51 : Cond.selects "FlaghallModel" ⟨"FlaghallModel", "findBook", "(IJ)V"⟩ ⟨"FlaghallModel", "findBook", "(IJ)V"⟩ ∈ zBG := zin_0 (List.mem_of_getElem? (i := 51) rfl) rfl
theorem zt_1_0 : (Jvm.Cond.initialized "FlaghallLaw") ∈ zBG := zin_1 (List.mem_of_getElem? (i := 0) rfl) rfl
theorem zt_1_1 : (Jvm.Cond.initialized "Flaghall") ∈ zBG := zin_1 (List.mem_of_getElem? (i := 1) rfl) rfl
theorem zt_1_2 : (Jvm.Cond.initialized "Flaghall$Book") ∈ zBG := zin_1 (List.mem_of_getElem? (i := 2) rfl) rfl
theorem zt_1_3 : (Jvm.Cond.initialized "Flaghall$Paper") ∈ zBG := zin_1 (List.mem_of_getElem? (i := 3) rfl) rfl
theorem zt_1_4 : (Jvm.Cond.initialized "java/lang/Enum") ∈ zBG := zin_1 (List.mem_of_getElem? (i := 4) rfl) rfl
theorem zt_1_5 : (Jvm.Cond.initialized "Flaghall$Kind") ∈ zBG := zin_1 (List.mem_of_getElem? (i := 5) rfl) rfl
theorem zt_1_6 : (Jvm.Cond.initialized "Flaghall$Mortgage") ∈ zBG := zin_1 (List.mem_of_getElem? (i := 6) rfl) rfl
theorem zt_1_7 : (Jvm.Cond.initialized "Flaghall$Party") ∈ zBG := zin_1 (List.mem_of_getElem? (i := 7) rfl) rfl
theorem zt_1_8 : (Jvm.Cond.initialized "Flaghall$Ship") ∈ zBG := zin_1 (List.mem_of_getElem? (i := 8) rfl) rfl
theorem zt_1_9 : (Jvm.Cond.initialized "FlaghallModel") ∈ zBG := zin_1 (List.mem_of_getElem? (i := 9) rfl) rfl
theorem zt_1_10 : (Jvm.Cond.initialized "java/lang/Throwable") ∈ zBG := zin_1 (List.mem_of_getElem? (i := 10) rfl) rfl
theorem zt_1_11 : (Jvm.Cond.initialized "java/lang/Exception") ∈ zBG := zin_1 (List.mem_of_getElem? (i := 11) rfl) rfl
theorem zt_1_12 : (Jvm.Cond.initialized "java/lang/RuntimeException") ∈ zBG := zin_1 (List.mem_of_getElem? (i := 12) rfl) rfl
theorem zt_1_13 : (Jvm.Cond.initialized "java/lang/IllegalArgumentException") ∈ zBG := zin_1 (List.mem_of_getElem? (i := 13) rfl) rfl
theorem zt_1_14 : (Jvm.Cond.initialized "java/lang/IllegalStateException") ∈ zBG := zin_1 (List.mem_of_getElem? (i := 14) rfl) rfl
theorem zt_1_15 : (Jvm.Cond.initialized "java/lang/IndexOutOfBoundsException") ∈ zBG := zin_1 (List.mem_of_getElem? (i := 15) rfl) rfl
theorem zt_1_16 : (Jvm.Cond.initialized "java/util/Arrays") ∈ zBG := zin_1 (List.mem_of_getElem? (i := 16) rfl) rfl
theorem zt_1_17 : (Jvm.Cond.initialized "java/lang/Math") ∈ zBG := zin_1 (List.mem_of_getElem? (i := 17) rfl) rfl
theorem zt_1_18 : (Jvm.Cond.classLink "FlaghallLaw" (8 : Nat) "Flaghall") ∈ zBG := zin_1 (List.mem_of_getElem? (i := 18) rfl) rfl
theorem zt_1_19 : (Jvm.Cond.instantiable "Flaghall" (9 : Nat)) ∈ zBG := zin_1 (List.mem_of_getElem? (i := 19) rfl) rfl
theorem zt_1_20 : (Jvm.Cond.methodLink "FlaghallLaw" (89 : Nat) ({ cls := "Flaghall", name := "<init>", desc := "()V" } : Jvm.MethodName)) ∈ zBG := zin_1 (List.mem_of_getElem? (i := 20) rfl) rfl
theorem zt_1_21 : (Jvm.Cond.instanceMethod ({ cls := "Flaghall", name := "<init>", desc := "()V" } : Jvm.MethodName)) ∈ zBG := zin_1 (List.mem_of_getElem? (i := 21) rfl) rfl
theorem zt_1_22 : (Jvm.Cond.code ({ cls := "Flaghall", name := "<init>", desc := "()V" } : Jvm.MethodName) prog_1_method_1_code (2 : Nat) (Option.none : Option Jvm.ClassFile.FieldType)) ∈ zBG := zin_1 (List.mem_of_getElem? (i := 22) rfl) rfl
theorem zt_1_23 : (Jvm.Cond.methodLink "Flaghall" (3 : Nat) ({ cls := "java/lang/Object", name := "<init>", desc := "()V" } : Jvm.MethodName)) ∈ zBG := zin_1 (List.mem_of_getElem? (i := 23) rfl) rfl
theorem zt_1_24 : (Jvm.Cond.instanceMethod ({ cls := "java/lang/Object", name := "<init>", desc := "()V" } : Jvm.MethodName)) ∈ zBG := zin_1 (List.mem_of_getElem? (i := 24) rfl) rfl
theorem zt_1_25 : (Jvm.Cond.code ({ cls := "java/lang/Object", name := "<init>", desc := "()V" } : Jvm.MethodName) object_method_1_code (1 : Nat) (Option.none : Option Jvm.ClassFile.FieldType)) ∈ zBG := zin_1 (List.mem_of_getElem? (i := 25) rfl) rfl
theorem zt_1_26 : (Jvm.Cond.classLink "Flaghall" (9 : Nat) "Flaghall$Party") ∈ zBG := zin_1 (List.mem_of_getElem? (i := 26) rfl) rfl
theorem zt_1_28 : (Jvm.Cond.classLink "Flaghall" (15 : Nat) "Flaghall$Ship") ∈ zBG := zin_1 (List.mem_of_getElem? (i := 28) rfl) rfl
theorem zt_1_30 : (Jvm.Cond.classLink "Flaghall" (21 : Nat) "Flaghall$Book") ∈ zBG := zin_1 (List.mem_of_getElem? (i := 30) rfl) rfl
theorem zt_1_31 : (Jvm.Cond.instantiable "Flaghall$Book" (5 : Nat)) ∈ zBG := zin_1 (List.mem_of_getElem? (i := 31) rfl) rfl
theorem zt_1_33 : (Jvm.Cond.instanceMethod ({ cls := "Flaghall$Book", name := "<init>", desc := "()V" } : Jvm.MethodName)) ∈ zBG := zin_1 (List.mem_of_getElem? (i := 33) rfl) rfl
theorem zt_1_34 : (Jvm.Cond.code ({ cls := "Flaghall$Book", name := "<init>", desc := "()V" } : Jvm.MethodName) prog_2_method_1_code (2 : Nat) (Option.none : Option Jvm.ClassFile.FieldType)) ∈ zBG := zin_1 (List.mem_of_getElem? (i := 34) rfl) rfl
theorem zt_1_35 : (Jvm.Cond.methodLink "Flaghall$Book" (3 : Nat) ({ cls := "java/lang/Object", name := "<init>", desc := "()V" } : Jvm.MethodName)) ∈ zBG := zin_1 (List.mem_of_getElem? (i := 35) rfl) rfl
theorem zt_1_36 : (Jvm.Cond.classLink "Flaghall$Book" (9 : Nat) "Flaghall$Paper") ∈ zBG := zin_1 (List.mem_of_getElem? (i := 36) rfl) rfl
theorem zt_1_38 : (Jvm.Cond.classLink "Flaghall$Book" (17 : Nat) "Flaghall$Mortgage") ∈ zBG := zin_1 (List.mem_of_getElem? (i := 38) rfl) rfl
theorem zt_1_40 : (Jvm.Cond.instantiable "Flaghall$Paper" (9 : Nat)) ∈ zBG := zin_1 (List.mem_of_getElem? (i := 40) rfl) rfl
theorem zt_1_42 : (Jvm.Cond.instanceMethod ({ cls := "Flaghall$Paper", name := "<init>", desc := "()V" } : Jvm.MethodName)) ∈ zBG := zin_1 (List.mem_of_getElem? (i := 42) rfl) rfl
theorem zt_1_43 : (Jvm.Cond.code ({ cls := "Flaghall$Paper", name := "<init>", desc := "()V" } : Jvm.MethodName) prog_5_method_1_code (1 : Nat) (Option.none : Option Jvm.ClassFile.FieldType)) ∈ zBG := zin_1 (List.mem_of_getElem? (i := 43) rfl) rfl
theorem zt_1_44 : (Jvm.Cond.methodLink "Flaghall$Paper" (3 : Nat) ({ cls := "java/lang/Object", name := "<init>", desc := "()V" } : Jvm.MethodName)) ∈ zBG := zin_1 (List.mem_of_getElem? (i := 44) rfl) rfl
theorem zt_1_45 : (Jvm.Cond.fieldLink "Flaghall$Paper" (9 : Nat) "Flaghall$Kind" "NOTICE" "LFlaghall$Kind;") ∈ zBG := zin_1 (List.mem_of_getElem? (i := 45) rfl) rfl
theorem zt_1_47 : (Jvm.Cond.fieldLink "Flaghall$Paper" (15 : Nat) "Flaghall$Paper" "kind" "LFlaghall$Kind;") ∈ zBG := zin_1 (List.mem_of_getElem? (i := 47) rfl) rfl
theorem zt_1_49 : (Jvm.Cond.fieldLink "Flaghall$Paper" (20 : Nat) "Flaghall$Paper" "ship" "I") ∈ zBG := zin_1 (List.mem_of_getElem? (i := 49) rfl) rfl
theorem zt_1_51 : (Jvm.Cond.fieldLink "Flaghall$Paper" (24 : Nat) "Flaghall$Paper" "party" "I") ∈ zBG := zin_1 (List.mem_of_getElem? (i := 51) rfl) rfl
theorem zt_1_54 : (Jvm.Cond.fieldLink "Flaghall$Paper" (39 : Nat) "Flaghall$Paper" "minute" "J") ∈ zBG := zin_1 (List.mem_of_getElem? (i := 54) rfl) rfl
theorem zt_1_57 : (Jvm.Cond.fieldLink "Flaghall$Paper" (27 : Nat) "Flaghall$Paper" "lienClass" "I") ∈ zBG := zin_1 (List.mem_of_getElem? (i := 57) rfl) rfl
theorem zt_1_59 : (Jvm.Cond.fieldLink "Flaghall$Paper" (30 : Nat) "Flaghall$Paper" "mortgage" "I") ∈ zBG := zin_1 (List.mem_of_getElem? (i := 59) rfl) rfl
theorem zt_1_61 : (Jvm.Cond.fieldLink "Flaghall$Paper" (33 : Nat) "Flaghall$Paper" "place" "I") ∈ zBG := zin_1 (List.mem_of_getElem? (i := 61) rfl) rfl
theorem zt_1_63 : (Jvm.Cond.fieldLink "Flaghall$Paper" (45 : Nat) "Flaghall$Paper" "isPlaceTaken" "Z") ∈ zBG := zin_1 (List.mem_of_getElem? (i := 63) rfl) rfl
theorem zt_1_65 : (Jvm.Cond.lays "Flaghall$Paper" "Flaghall$Paper" "kind" "LFlaghall$Kind;") ∈ zBG := zin_1 (List.mem_of_getElem? (i := 65) rfl) rfl
theorem zt_1_66 : (Jvm.Cond.soleField "Flaghall$Paper" "kind") ∈ zBG := zin_1 (List.mem_of_getElem? (i := 66) rfl) rfl
theorem zt_1_67 : (Jvm.Cond.lays "Flaghall$Paper" "Flaghall$Paper" "ship" "I") ∈ zBG := zin_1 (List.mem_of_getElem? (i := 67) rfl) rfl
theorem zt_1_68 : (Jvm.Cond.soleField "Flaghall$Paper" "ship") ∈ zBG := zin_1 (List.mem_of_getElem? (i := 68) rfl) rfl
theorem zt_1_69 : (Jvm.Cond.lays "Flaghall$Paper" "Flaghall$Paper" "party" "I") ∈ zBG := zin_1 (List.mem_of_getElem? (i := 69) rfl) rfl
theorem zt_1_70 : (Jvm.Cond.soleField "Flaghall$Paper" "party") ∈ zBG := zin_1 (List.mem_of_getElem? (i := 70) rfl) rfl
theorem zt_1_71 : (Jvm.Cond.lays "Flaghall$Paper" "Flaghall$Paper" "minute" "J") ∈ zBG := zin_1 (List.mem_of_getElem? (i := 71) rfl) rfl
theorem zt_1_72 : (Jvm.Cond.soleField "Flaghall$Paper" "minute") ∈ zBG := zin_1 (List.mem_of_getElem? (i := 72) rfl) rfl
theorem zt_1_73 : (Jvm.Cond.lays "Flaghall$Paper" "Flaghall$Paper" "amount" "I") ∈ zBG := zin_1 (List.mem_of_getElem? (i := 73) rfl) rfl
theorem zt_1_74 : (Jvm.Cond.soleField "Flaghall$Paper" "amount") ∈ zBG := zin_1 (List.mem_of_getElem? (i := 74) rfl) rfl
theorem zt_1_75 : (Jvm.Cond.lays "Flaghall$Paper" "Flaghall$Paper" "lienClass" "I") ∈ zBG := zin_1 (List.mem_of_getElem? (i := 75) rfl) rfl
theorem zt_1_76 : (Jvm.Cond.soleField "Flaghall$Paper" "lienClass") ∈ zBG := zin_1 (List.mem_of_getElem? (i := 76) rfl) rfl
theorem zt_1_77 : (Jvm.Cond.lays "Flaghall$Paper" "Flaghall$Paper" "mortgage" "I") ∈ zBG := zin_1 (List.mem_of_getElem? (i := 77) rfl) rfl
theorem zt_1_78 : (Jvm.Cond.soleField "Flaghall$Paper" "mortgage") ∈ zBG := zin_1 (List.mem_of_getElem? (i := 78) rfl) rfl
theorem zt_1_79 : (Jvm.Cond.lays "Flaghall$Paper" "Flaghall$Paper" "place" "I") ∈ zBG := zin_1 (List.mem_of_getElem? (i := 79) rfl) rfl
theorem zt_1_80 : (Jvm.Cond.soleField "Flaghall$Paper" "place") ∈ zBG := zin_1 (List.mem_of_getElem? (i := 80) rfl) rfl
theorem zt_1_81 : (Jvm.Cond.lays "Flaghall$Paper" "Flaghall$Paper" "isPlaceTaken" "Z") ∈ zBG := zin_1 (List.mem_of_getElem? (i := 81) rfl) rfl
theorem zt_1_82 : (Jvm.Cond.soleField "Flaghall$Paper" "isPlaceTaken") ∈ zBG := zin_1 (List.mem_of_getElem? (i := 82) rfl) rfl
theorem zt_1_83 : (Jvm.Cond.superclass "Flaghall$Paper" "java/lang/Object") ∈ zBG := zin_1 (List.mem_of_getElem? (i := 83) rfl) rfl
theorem zt_1_84 : (Jvm.Cond.arrayClass Jvm.ClassFile.FieldType.int) ∈ zBG := zin_1 (List.mem_of_getElem? (i := 84) rfl) rfl
theorem zt_1_85 : (Jvm.Cond.instantiable "Flaghall$Mortgage" (5 : Nat)) ∈ zBG := zin_1 (List.mem_of_getElem? (i := 85) rfl) rfl
theorem zt_1_87 : (Jvm.Cond.instanceMethod ({ cls := "Flaghall$Mortgage", name := "<init>", desc := "()V" } : Jvm.MethodName)) ∈ zBG := zin_1 (List.mem_of_getElem? (i := 87) rfl) rfl
theorem zt_1_88 : (Jvm.Cond.code ({ cls := "Flaghall$Mortgage", name := "<init>", desc := "()V" } : Jvm.MethodName) prog_4_method_1_code (1 : Nat) (Option.none : Option Jvm.ClassFile.FieldType)) ∈ zBG := zin_1 (List.mem_of_getElem? (i := 88) rfl) rfl
theorem zt_1_89 : (Jvm.Cond.methodLink "Flaghall$Mortgage" (3 : Nat) ({ cls := "java/lang/Object", name := "<init>", desc := "()V" } : Jvm.MethodName)) ∈ zBG := zin_1 (List.mem_of_getElem? (i := 89) rfl) rfl
theorem zt_1_90 : (Jvm.Cond.fieldLink "Flaghall$Mortgage" (9 : Nat) "Flaghall$Mortgage" "ship" "I") ∈ zBG := zin_1 (List.mem_of_getElem? (i := 90) rfl) rfl
theorem zt_1_92 : (Jvm.Cond.fieldLink "Flaghall$Mortgage" (15 : Nat) "Flaghall$Mortgage" "party" "I") ∈ zBG := zin_1 (List.mem_of_getElem? (i := 92) rfl) rfl
theorem zt_1_97 : (Jvm.Cond.fieldLink "Flaghall$Mortgage" (18 : Nat) "Flaghall$Mortgage" "place" "I") ∈ zBG := zin_1 (List.mem_of_getElem? (i := 97) rfl) rfl
theorem zt_1_99 : (Jvm.Cond.fieldLink "Flaghall$Mortgage" (21 : Nat) "Flaghall$Mortgage" "row" "I") ∈ zBG := zin_1 (List.mem_of_getElem? (i := 99) rfl) rfl
theorem zt_1_101 : (Jvm.Cond.lays "Flaghall$Mortgage" "Flaghall$Mortgage" "ship" "I") ∈ zBG := zin_1 (List.mem_of_getElem? (i := 101) rfl) rfl
theorem zt_1_102 : (Jvm.Cond.soleField "Flaghall$Mortgage" "ship") ∈ zBG := zin_1 (List.mem_of_getElem? (i := 102) rfl) rfl
theorem zt_1_103 : (Jvm.Cond.lays "Flaghall$Mortgage" "Flaghall$Mortgage" "party" "I") ∈ zBG := zin_1 (List.mem_of_getElem? (i := 103) rfl) rfl
theorem zt_1_104 : (Jvm.Cond.soleField "Flaghall$Mortgage" "party") ∈ zBG := zin_1 (List.mem_of_getElem? (i := 104) rfl) rfl
theorem zt_1_105 : (Jvm.Cond.lays "Flaghall$Mortgage" "Flaghall$Mortgage" "amount" "I") ∈ zBG := zin_1 (List.mem_of_getElem? (i := 105) rfl) rfl
theorem zt_1_106 : (Jvm.Cond.soleField "Flaghall$Mortgage" "amount") ∈ zBG := zin_1 (List.mem_of_getElem? (i := 106) rfl) rfl
theorem zt_1_107 : (Jvm.Cond.lays "Flaghall$Mortgage" "Flaghall$Mortgage" "place" "I") ∈ zBG := zin_1 (List.mem_of_getElem? (i := 107) rfl) rfl
theorem zt_1_108 : (Jvm.Cond.soleField "Flaghall$Mortgage" "place") ∈ zBG := zin_1 (List.mem_of_getElem? (i := 108) rfl) rfl
theorem zt_1_109 : (Jvm.Cond.lays "Flaghall$Mortgage" "Flaghall$Mortgage" "row" "I") ∈ zBG := zin_1 (List.mem_of_getElem? (i := 109) rfl) rfl
theorem zt_1_110 : (Jvm.Cond.soleField "Flaghall$Mortgage" "row") ∈ zBG := zin_1 (List.mem_of_getElem? (i := 110) rfl) rfl
theorem zt_1_111 : (Jvm.Cond.superclass "Flaghall$Mortgage" "java/lang/Object") ∈ zBG := zin_1 (List.mem_of_getElem? (i := 111) rfl) rfl
theorem zt_1_112 : (Jvm.Cond.fieldLink "Flaghall$Book" (11 : Nat) "Flaghall$Book" "papers" "[LFlaghall$Paper;") ∈ zBG := zin_1 (List.mem_of_getElem? (i := 112) rfl) rfl
theorem zt_1_114 : (Jvm.Cond.fieldLink "Flaghall$Book" (19 : Nat) "Flaghall$Book" "mortgages" "[LFlaghall$Mortgage;") ∈ zBG := zin_1 (List.mem_of_getElem? (i := 114) rfl) rfl
theorem zt_1_116 : (Jvm.Cond.fieldLink "Flaghall$Book" (23 : Nat) "Flaghall$Book" "standing" "[I") ∈ zBG := zin_1 (List.mem_of_getElem? (i := 116) rfl) rfl
theorem zt_1_118 : (Jvm.Cond.fieldLink "Flaghall$Book" (29 : Nat) "Flaghall$Book" "paperCount" "I") ∈ zBG := zin_1 (List.mem_of_getElem? (i := 118) rfl) rfl
theorem zt_1_120 : (Jvm.Cond.fieldLink "Flaghall$Book" (47 : Nat) "Flaghall$Book" "mortgageCount" "I") ∈ zBG := zin_1 (List.mem_of_getElem? (i := 120) rfl) rfl
theorem zt_1_122 : (Jvm.Cond.laysFinal "Flaghall$Book" "Flaghall$Book" "papers" "[LFlaghall$Paper;") ∈ zBG := zin_1 (List.mem_of_getElem? (i := 122) rfl) rfl
theorem zt_1_123 : (Jvm.Cond.soleField "Flaghall$Book" "papers") ∈ zBG := zin_1 (List.mem_of_getElem? (i := 123) rfl) rfl
theorem zt_1_124 : (Jvm.Cond.laysFinal "Flaghall$Book" "Flaghall$Book" "mortgages" "[LFlaghall$Mortgage;") ∈ zBG := zin_1 (List.mem_of_getElem? (i := 124) rfl) rfl
theorem zt_1_125 : (Jvm.Cond.soleField "Flaghall$Book" "mortgages") ∈ zBG := zin_1 (List.mem_of_getElem? (i := 125) rfl) rfl
theorem zt_1_126 : (Jvm.Cond.laysFinal "Flaghall$Book" "Flaghall$Book" "standing" "[I") ∈ zBG := zin_1 (List.mem_of_getElem? (i := 126) rfl) rfl
theorem zt_1_127 : (Jvm.Cond.soleField "Flaghall$Book" "standing") ∈ zBG := zin_1 (List.mem_of_getElem? (i := 127) rfl) rfl
theorem zt_1_128 : (Jvm.Cond.lays "Flaghall$Book" "Flaghall$Book" "paperCount" "I") ∈ zBG := zin_1 (List.mem_of_getElem? (i := 128) rfl) rfl
theorem zt_1_129 : (Jvm.Cond.soleField "Flaghall$Book" "paperCount") ∈ zBG := zin_1 (List.mem_of_getElem? (i := 129) rfl) rfl
theorem zt_1_130 : (Jvm.Cond.lays "Flaghall$Book" "Flaghall$Book" "mortgageCount" "I") ∈ zBG := zin_1 (List.mem_of_getElem? (i := 130) rfl) rfl
theorem zt_1_131 : (Jvm.Cond.soleField "Flaghall$Book" "mortgageCount") ∈ zBG := zin_1 (List.mem_of_getElem? (i := 131) rfl) rfl
theorem zt_1_132 : (Jvm.Cond.superclass "Flaghall$Book" "java/lang/Object") ∈ zBG := zin_1 (List.mem_of_getElem? (i := 132) rfl) rfl
theorem zt_1_133 : (Jvm.Cond.instantiable "Flaghall$Party" (5 : Nat)) ∈ zBG := zin_1 (List.mem_of_getElem? (i := 133) rfl) rfl
theorem zt_1_135 : (Jvm.Cond.instanceMethod ({ cls := "Flaghall$Party", name := "<init>", desc := "()V" } : Jvm.MethodName)) ∈ zBG := zin_1 (List.mem_of_getElem? (i := 135) rfl) rfl
theorem zt_1_136 : (Jvm.Cond.code ({ cls := "Flaghall$Party", name := "<init>", desc := "()V" } : Jvm.MethodName) prog_6_method_1_code (1 : Nat) (Option.none : Option Jvm.ClassFile.FieldType)) ∈ zBG := zin_1 (List.mem_of_getElem? (i := 136) rfl) rfl
theorem zt_1_137 : (Jvm.Cond.methodLink "Flaghall$Party" (3 : Nat) ({ cls := "java/lang/Object", name := "<init>", desc := "()V" } : Jvm.MethodName)) ∈ zBG := zin_1 (List.mem_of_getElem? (i := 137) rfl) rfl
theorem zt_1_138 : (Jvm.Cond.fieldLink "Flaghall$Party" (9 : Nat) "Flaghall$Party" "parts" "[I") ∈ zBG := zin_1 (List.mem_of_getElem? (i := 138) rfl) rfl
theorem zt_1_141 : (Jvm.Cond.fieldLink "Flaghall$Party" (15 : Nat) "Flaghall$Party" "home" "I") ∈ zBG := zin_1 (List.mem_of_getElem? (i := 141) rfl) rfl
theorem zt_1_143 : (Jvm.Cond.fieldLink "Flaghall$Party" (19 : Nat) "Flaghall$Party" "nextHome" "I") ∈ zBG := zin_1 (List.mem_of_getElem? (i := 143) rfl) rfl
theorem zt_1_146 : (Jvm.Cond.laysFinal "Flaghall$Party" "Flaghall$Party" "parts" "[I") ∈ zBG := zin_1 (List.mem_of_getElem? (i := 146) rfl) rfl
theorem zt_1_147 : (Jvm.Cond.soleField "Flaghall$Party" "parts") ∈ zBG := zin_1 (List.mem_of_getElem? (i := 147) rfl) rfl
theorem zt_1_148 : (Jvm.Cond.lays "Flaghall$Party" "Flaghall$Party" "isCompany" "Z") ∈ zBG := zin_1 (List.mem_of_getElem? (i := 148) rfl) rfl
theorem zt_1_149 : (Jvm.Cond.soleField "Flaghall$Party" "isCompany") ∈ zBG := zin_1 (List.mem_of_getElem? (i := 149) rfl) rfl
theorem zt_1_150 : (Jvm.Cond.lays "Flaghall$Party" "Flaghall$Party" "home" "I") ∈ zBG := zin_1 (List.mem_of_getElem? (i := 150) rfl) rfl
theorem zt_1_151 : (Jvm.Cond.soleField "Flaghall$Party" "home") ∈ zBG := zin_1 (List.mem_of_getElem? (i := 151) rfl) rfl
theorem zt_1_152 : (Jvm.Cond.lays "Flaghall$Party" "Flaghall$Party" "nextHome" "I") ∈ zBG := zin_1 (List.mem_of_getElem? (i := 152) rfl) rfl
theorem zt_1_153 : (Jvm.Cond.soleField "Flaghall$Party" "nextHome") ∈ zBG := zin_1 (List.mem_of_getElem? (i := 153) rfl) rfl
theorem zt_1_154 : (Jvm.Cond.lays "Flaghall$Party" "Flaghall$Party" "received" "J") ∈ zBG := zin_1 (List.mem_of_getElem? (i := 154) rfl) rfl
theorem zt_1_155 : (Jvm.Cond.soleField "Flaghall$Party" "received") ∈ zBG := zin_1 (List.mem_of_getElem? (i := 155) rfl) rfl
theorem zt_1_156 : (Jvm.Cond.superclass "Flaghall$Party" "java/lang/Object") ∈ zBG := zin_1 (List.mem_of_getElem? (i := 156) rfl) rfl
theorem zt_1_157 : (Jvm.Cond.arrayClass Jvm.ClassFile.FieldType.char) ∈ zBG := zin_1 (List.mem_of_getElem? (i := 157) rfl) rfl
theorem zt_1_158 : (Jvm.Cond.instantiable "Flaghall$Ship" (5 : Nat)) ∈ zBG := zin_1 (List.mem_of_getElem? (i := 158) rfl) rfl
theorem zt_1_160 : (Jvm.Cond.instanceMethod ({ cls := "Flaghall$Ship", name := "<init>", desc := "()V" } : Jvm.MethodName)) ∈ zBG := zin_1 (List.mem_of_getElem? (i := 160) rfl) rfl
theorem zt_1_161 : (Jvm.Cond.code ({ cls := "Flaghall$Ship", name := "<init>", desc := "()V" } : Jvm.MethodName) prog_7_method_1_code (1 : Nat) (Option.none : Option Jvm.ClassFile.FieldType)) ∈ zBG := zin_1 (List.mem_of_getElem? (i := 161) rfl) rfl
theorem zt_1_162 : (Jvm.Cond.methodLink "Flaghall$Ship" (3 : Nat) ({ cls := "java/lang/Object", name := "<init>", desc := "()V" } : Jvm.MethodName)) ∈ zBG := zin_1 (List.mem_of_getElem? (i := 162) rfl) rfl
theorem zt_1_163 : (Jvm.Cond.constantLong "Flaghall$Ship" (23 : Nat) (-1 : Int64)) ∈ zBG := zin_1 (List.mem_of_getElem? (i := 163) rfl) rfl
theorem zt_1_164 : (Jvm.Cond.fieldLink "Flaghall$Ship" (9 : Nat) "Flaghall$Ship" "soundLetters" "[C") ∈ zBG := zin_1 (List.mem_of_getElem? (i := 164) rfl) rfl
theorem zt_1_166 : (Jvm.Cond.fieldLink "Flaghall$Ship" (15 : Nat) "Flaghall$Ship" "shares" "[I") ∈ zBG := zin_1 (List.mem_of_getElem? (i := 166) rfl) rfl
theorem zt_1_168 : (Jvm.Cond.fieldLink "Flaghall$Ship" (29 : Nat) "Flaghall$Ship" "soundLength" "I") ∈ zBG := zin_1 (List.mem_of_getElem? (i := 168) rfl) rfl
theorem zt_1_170 : (Jvm.Cond.fieldLink "Flaghall$Ship" (19 : Nat) "Flaghall$Ship" "flown" "I") ∈ zBG := zin_1 (List.mem_of_getElem? (i := 170) rfl) rfl
theorem zt_1_172 : (Jvm.Cond.fieldLink "Flaghall$Ship" (25 : Nat) "Flaghall$Ship" "graceFrom" "J") ∈ zBG := zin_1 (List.mem_of_getElem? (i := 172) rfl) rfl
theorem zt_1_174 : (Jvm.Cond.laysFinal "Flaghall$Ship" "Flaghall$Ship" "soundLetters" "[C") ∈ zBG := zin_1 (List.mem_of_getElem? (i := 174) rfl) rfl
theorem zt_1_175 : (Jvm.Cond.soleField "Flaghall$Ship" "soundLetters") ∈ zBG := zin_1 (List.mem_of_getElem? (i := 175) rfl) rfl
theorem zt_1_176 : (Jvm.Cond.laysFinal "Flaghall$Ship" "Flaghall$Ship" "shares" "[I") ∈ zBG := zin_1 (List.mem_of_getElem? (i := 176) rfl) rfl
theorem zt_1_177 : (Jvm.Cond.soleField "Flaghall$Ship" "shares") ∈ zBG := zin_1 (List.mem_of_getElem? (i := 177) rfl) rfl
theorem zt_1_178 : (Jvm.Cond.lays "Flaghall$Ship" "Flaghall$Ship" "soundLength" "I") ∈ zBG := zin_1 (List.mem_of_getElem? (i := 178) rfl) rfl
theorem zt_1_179 : (Jvm.Cond.soleField "Flaghall$Ship" "soundLength") ∈ zBG := zin_1 (List.mem_of_getElem? (i := 179) rfl) rfl
theorem zt_1_180 : (Jvm.Cond.lays "Flaghall$Ship" "Flaghall$Ship" "flown" "I") ∈ zBG := zin_1 (List.mem_of_getElem? (i := 180) rfl) rfl
theorem zt_1_181 : (Jvm.Cond.soleField "Flaghall$Ship" "flown") ∈ zBG := zin_1 (List.mem_of_getElem? (i := 181) rfl) rfl
theorem zt_1_182 : (Jvm.Cond.lays "Flaghall$Ship" "Flaghall$Ship" "graceFrom" "J") ∈ zBG := zin_1 (List.mem_of_getElem? (i := 182) rfl) rfl
theorem zt_1_183 : (Jvm.Cond.soleField "Flaghall$Ship" "graceFrom") ∈ zBG := zin_1 (List.mem_of_getElem? (i := 183) rfl) rfl
theorem zt_1_184 : (Jvm.Cond.superclass "Flaghall$Ship" "java/lang/Object") ∈ zBG := zin_1 (List.mem_of_getElem? (i := 184) rfl) rfl
theorem zt_1_185 : (Jvm.Cond.fieldLink "Flaghall" (11 : Nat) "Flaghall" "parties" "[LFlaghall$Party;") ∈ zBG := zin_1 (List.mem_of_getElem? (i := 185) rfl) rfl
theorem zt_1_186 : (Jvm.Cond.fieldLink "Flaghall" (17 : Nat) "Flaghall" "ships" "[LFlaghall$Ship;") ∈ zBG := zin_1 (List.mem_of_getElem? (i := 186) rfl) rfl
theorem zt_1_187 : (Jvm.Cond.fieldLink "Flaghall" (24 : Nat) "Flaghall" "book" "LFlaghall$Book;") ∈ zBG := zin_1 (List.mem_of_getElem? (i := 187) rfl) rfl
theorem zt_1_188 : (Jvm.Cond.fieldLink "Flaghall" (28 : Nat) "Flaghall" "typed" "[C") ∈ zBG := zin_1 (List.mem_of_getElem? (i := 188) rfl) rfl
theorem zt_1_189 : (Jvm.Cond.fieldLink "Flaghall" (32 : Nat) "Flaghall" "heldByLand" "[I") ∈ zBG := zin_1 (List.mem_of_getElem? (i := 189) rfl) rfl
theorem zt_1_190 : (Jvm.Cond.fieldLink "Flaghall" (240 : Nat) "Flaghall" "partyCount" "I") ∈ zBG := zin_1 (List.mem_of_getElem? (i := 190) rfl) rfl
theorem zt_1_191 : (Jvm.Cond.fieldLink "Flaghall" (85 : Nat) "Flaghall" "shipCount" "I") ∈ zBG := zin_1 (List.mem_of_getElem? (i := 191) rfl) rfl
theorem zt_1_192 : (Jvm.Cond.fieldLink "Flaghall" (45 : Nat) "Flaghall" "typedCount" "I") ∈ zBG := zin_1 (List.mem_of_getElem? (i := 192) rfl) rfl
theorem zt_1_193 : (Jvm.Cond.fieldLink "Flaghall" (124 : Nat) "Flaghall" "minute" "J") ∈ zBG := zin_1 (List.mem_of_getElem? (i := 193) rfl) rfl
theorem zt_1_194 : (Jvm.Cond.laysFinal "Flaghall" "Flaghall" "parties" "[LFlaghall$Party;") ∈ zBG := zin_1 (List.mem_of_getElem? (i := 194) rfl) rfl
theorem zt_1_195 : (Jvm.Cond.soleField "Flaghall" "parties") ∈ zBG := zin_1 (List.mem_of_getElem? (i := 195) rfl) rfl
theorem zt_1_196 : (Jvm.Cond.laysFinal "Flaghall" "Flaghall" "ships" "[LFlaghall$Ship;") ∈ zBG := zin_1 (List.mem_of_getElem? (i := 196) rfl) rfl
theorem zt_1_197 : (Jvm.Cond.soleField "Flaghall" "ships") ∈ zBG := zin_1 (List.mem_of_getElem? (i := 197) rfl) rfl
theorem zt_1_198 : (Jvm.Cond.laysFinal "Flaghall" "Flaghall" "book" "LFlaghall$Book;") ∈ zBG := zin_1 (List.mem_of_getElem? (i := 198) rfl) rfl
theorem zt_1_199 : (Jvm.Cond.soleField "Flaghall" "book") ∈ zBG := zin_1 (List.mem_of_getElem? (i := 199) rfl) rfl
theorem zt_1_200 : (Jvm.Cond.laysFinal "Flaghall" "Flaghall" "typed" "[C") ∈ zBG := zin_1 (List.mem_of_getElem? (i := 200) rfl) rfl
theorem zt_1_201 : (Jvm.Cond.soleField "Flaghall" "typed") ∈ zBG := zin_1 (List.mem_of_getElem? (i := 201) rfl) rfl
theorem zt_1_202 : (Jvm.Cond.laysFinal "Flaghall" "Flaghall" "heldByLand" "[I") ∈ zBG := zin_1 (List.mem_of_getElem? (i := 202) rfl) rfl
theorem zt_1_203 : (Jvm.Cond.soleField "Flaghall" "heldByLand") ∈ zBG := zin_1 (List.mem_of_getElem? (i := 203) rfl) rfl
theorem zt_1_204 : (Jvm.Cond.lays "Flaghall" "Flaghall" "partyCount" "I") ∈ zBG := zin_1 (List.mem_of_getElem? (i := 204) rfl) rfl
theorem zt_1_205 : (Jvm.Cond.soleField "Flaghall" "partyCount") ∈ zBG := zin_1 (List.mem_of_getElem? (i := 205) rfl) rfl
theorem zt_1_206 : (Jvm.Cond.lays "Flaghall" "Flaghall" "shipCount" "I") ∈ zBG := zin_1 (List.mem_of_getElem? (i := 206) rfl) rfl
theorem zt_1_207 : (Jvm.Cond.soleField "Flaghall" "shipCount") ∈ zBG := zin_1 (List.mem_of_getElem? (i := 207) rfl) rfl
theorem zt_1_208 : (Jvm.Cond.lays "Flaghall" "Flaghall" "typedCount" "I") ∈ zBG := zin_1 (List.mem_of_getElem? (i := 208) rfl) rfl
theorem zt_1_209 : (Jvm.Cond.soleField "Flaghall" "typedCount") ∈ zBG := zin_1 (List.mem_of_getElem? (i := 209) rfl) rfl
theorem zt_1_210 : (Jvm.Cond.lays "Flaghall" "Flaghall" "minute" "J") ∈ zBG := zin_1 (List.mem_of_getElem? (i := 210) rfl) rfl
theorem zt_1_211 : (Jvm.Cond.soleField "Flaghall" "minute") ∈ zBG := zin_1 (List.mem_of_getElem? (i := 211) rfl) rfl
theorem zt_1_212 : (Jvm.Cond.superclass "Flaghall" "java/lang/Object") ∈ zBG := zin_1 (List.mem_of_getElem? (i := 212) rfl) rfl
theorem zt_1_213 : (Jvm.Cond.methodLink "FlaghallLaw" (93 : Nat) ({ cls := "FlaghallLaw", name := "letter", desc := "(LFlaghall;C[J)I" } : Jvm.MethodName)) ∈ zBG := zin_1 (List.mem_of_getElem? (i := 213) rfl) rfl
theorem zt_1_214 : (Jvm.Cond.static ({ cls := "FlaghallLaw", name := "letter", desc := "(LFlaghall;C[J)I" } : Jvm.MethodName)) ∈ zBG := zin_1 (List.mem_of_getElem? (i := 214) rfl) rfl
theorem zt_1_215 : (Jvm.Cond.codeWith ({ cls := "FlaghallLaw", name := "letter", desc := "(LFlaghall;C[J)I" } : Jvm.MethodName) method_3_code (4 : Nat) (Option.some Jvm.ClassFile.FieldType.int) [((0 : Nat), (9 : Nat), (12 : Nat), (13 : Nat)), ((0 : Nat), (9 : Nat), (15 : Nat), (15 : Nat))]) ∈ zBG := zin_1 (List.mem_of_getElem? (i := 215) rfl) rfl
theorem zt_1_216 : (Jvm.Cond.classLink "FlaghallLaw" (13 : Nat) "java/lang/IllegalArgumentException") ∈ zBG := zin_1 (List.mem_of_getElem? (i := 216) rfl) rfl
theorem zt_1_217 : (Jvm.Cond.classLink "FlaghallLaw" (15 : Nat) "java/lang/IllegalStateException") ∈ zBG := zin_1 (List.mem_of_getElem? (i := 217) rfl) rfl
theorem zt_1_218 : (Jvm.Cond.methodLink "FlaghallLaw" (7 : Nat) ({ cls := "Flaghall", name := "letter", desc := "(C)I" } : Jvm.MethodName)) ∈ zBG := zin_1 (List.mem_of_getElem? (i := 218) rfl) rfl
theorem zt_1_219 : (Jvm.Cond.instanceMethod ({ cls := "Flaghall", name := "letter", desc := "(C)I" } : Jvm.MethodName)) ∈ zBG := zin_1 (List.mem_of_getElem? (i := 219) rfl) rfl
theorem zt_1_220 : (Jvm.Cond.selects "Flaghall" ({ cls := "Flaghall", name := "letter", desc := "(C)I" } : Jvm.MethodName) ({ cls := "Flaghall", name := "letter", desc := "(C)I" } : Jvm.MethodName)) ∈ zBG := zin_1 (List.mem_of_getElem? (i := 220) rfl) rfl
theorem zt_1_221 : (Jvm.Cond.code ({ cls := "Flaghall", name := "letter", desc := "(C)I" } : Jvm.MethodName) prog_1_method_2_code (2 : Nat) (Option.some Jvm.ClassFile.FieldType.int)) ∈ zBG := zin_1 (List.mem_of_getElem? (i := 221) rfl) rfl
theorem zt_1_222 : (Jvm.Cond.classLink "Flaghall" (38 : Nat) "java/lang/IllegalArgumentException") ∈ zBG := zin_1 (List.mem_of_getElem? (i := 222) rfl) rfl
theorem zt_1_223 : (Jvm.Cond.instantiable "java/lang/IllegalArgumentException" (6 : Nat)) ∈ zBG := zin_1 (List.mem_of_getElem? (i := 223) rfl) rfl
theorem zt_1_231 : (Jvm.Cond.selects "java/lang/IllegalArgumentException" ({ cls := "java/lang/Throwable", name := "fillInStackTrace", desc := "(I)Ljava/lang/Throwable;" } : Jvm.MethodName) ({ cls := "java/lang/Throwable", name := "fillInStackTrace", desc := "(I)Ljava/lang/Throwable;" } : Jvm.MethodName)) ∈ zBG := zin_1 (List.mem_of_getElem? (i := 231) rfl) rfl
theorem zt_1_232 : (Jvm.Cond.selects "java/lang/IllegalArgumentException" ({ cls := "java/lang/Throwable", name := "fillInStackTrace", desc := "()Ljava/lang/Throwable;" } : Jvm.MethodName) ({ cls := "java/lang/Throwable", name := "fillInStackTrace", desc := "()Ljava/lang/Throwable;" } : Jvm.MethodName)) ∈ zBG := zin_1 (List.mem_of_getElem? (i := 232) rfl) rfl
theorem zt_1_233 : (Jvm.Cond.lays "java/lang/IllegalArgumentException" "java/lang/Throwable" "cause" "Ljava/lang/Throwable;") ∈ zBG := zin_1 (List.mem_of_getElem? (i := 233) rfl) rfl
theorem zt_1_234 : (Jvm.Cond.lays "java/lang/Throwable" "java/lang/Throwable" "cause" "Ljava/lang/Throwable;") ∈ zBG := zin_1 (List.mem_of_getElem? (i := 234) rfl) rfl
theorem zt_1_235 : (Jvm.Cond.lays "java/lang/IllegalArgumentException" "java/lang/Throwable" "stackTrace" "[Ljava/lang/StackTraceElement;") ∈ zBG := zin_1 (List.mem_of_getElem? (i := 235) rfl) rfl
theorem zt_1_236 : (Jvm.Cond.lays "java/lang/Throwable" "java/lang/Throwable" "stackTrace" "[Ljava/lang/StackTraceElement;") ∈ zBG := zin_1 (List.mem_of_getElem? (i := 236) rfl) rfl
theorem zt_1_237 : (Jvm.Cond.lays "java/lang/IllegalArgumentException" "java/lang/Throwable" "suppressedExceptions" "Ljava/util/List;") ∈ zBG := zin_1 (List.mem_of_getElem? (i := 237) rfl) rfl
theorem zt_1_238 : (Jvm.Cond.lays "java/lang/Throwable" "java/lang/Throwable" "suppressedExceptions" "Ljava/util/List;") ∈ zBG := zin_1 (List.mem_of_getElem? (i := 238) rfl) rfl
theorem zt_1_239 : (Jvm.Cond.lays "java/lang/IllegalArgumentException" "java/lang/Throwable" "detailMessage" "Ljava/lang/String;") ∈ zBG := zin_1 (List.mem_of_getElem? (i := 239) rfl) rfl
theorem zt_2_0 : (Jvm.Cond.lays "java/lang/Throwable" "java/lang/Throwable" "detailMessage" "Ljava/lang/String;") ∈ zBG := zin_2 (List.mem_of_getElem? (i := 0) rfl) rfl
theorem zt_2_1 : (Jvm.Cond.lays "java/lang/IllegalArgumentException" "java/lang/Throwable" "backtrace" "Ljava/lang/Object;") ∈ zBG := zin_2 (List.mem_of_getElem? (i := 1) rfl) rfl
theorem zt_2_2 : (Jvm.Cond.lays "java/lang/Throwable" "java/lang/Throwable" "backtrace" "Ljava/lang/Object;") ∈ zBG := zin_2 (List.mem_of_getElem? (i := 2) rfl) rfl
theorem zt_2_3 : (Jvm.Cond.fieldLink "java/lang/Throwable" (198 : Nat) "java/lang/Throwable" "backtrace" "Ljava/lang/Object;") ∈ zBG := zin_2 (List.mem_of_getElem? (i := 3) rfl) rfl
theorem zt_2_4 : (Jvm.Cond.superclass "java/lang/Throwable" "java/lang/Object") ∈ zBG := zin_2 (List.mem_of_getElem? (i := 4) rfl) rfl
theorem zt_2_5 : (Jvm.Cond.instanceMethod ({ cls := "java/lang/Throwable", name := "<init>", desc := "()V" } : Jvm.MethodName)) ∈ zBG := zin_2 (List.mem_of_getElem? (i := 5) rfl) rfl
theorem zt_2_6 : (Jvm.Cond.code ({ cls := "java/lang/Throwable", name := "<init>", desc := "()V" } : Jvm.MethodName) prog_18_method_1_code (1 : Nat) (Option.none : Option Jvm.ClassFile.FieldType)) ∈ zBG := zin_2 (List.mem_of_getElem? (i := 6) rfl) rfl
theorem zt_2_7 : (Jvm.Cond.methodLink "java/lang/Throwable" (1 : Nat) ({ cls := "java/lang/Object", name := "<init>", desc := "()V" } : Jvm.MethodName)) ∈ zBG := zin_2 (List.mem_of_getElem? (i := 7) rfl) rfl
theorem zt_2_8 : (Jvm.Cond.fieldLink "java/lang/Throwable" (13 : Nat) "java/lang/Throwable" "UNASSIGNED_STACK" "[Ljava/lang/StackTraceElement;") ∈ zBG := zin_2 (List.mem_of_getElem? (i := 8) rfl) rfl
theorem zt_2_10 : (Jvm.Cond.fieldLink "java/lang/Throwable" (20 : Nat) "java/lang/Throwable" "SUPPRESSED_SENTINEL" "Ljava/util/List;") ∈ zBG := zin_2 (List.mem_of_getElem? (i := 10) rfl) rfl
theorem zt_2_12 : (Jvm.Cond.methodLink "java/lang/Throwable" (27 : Nat) ({ cls := "java/lang/Throwable", name := "fillInStackTrace", desc := "()Ljava/lang/Throwable;" } : Jvm.MethodName)) ∈ zBG := zin_2 (List.mem_of_getElem? (i := 12) rfl) rfl
theorem zt_2_13 : (Jvm.Cond.instanceMethod ({ cls := "java/lang/Throwable", name := "fillInStackTrace", desc := "()Ljava/lang/Throwable;" } : Jvm.MethodName)) ∈ zBG := zin_2 (List.mem_of_getElem? (i := 13) rfl) rfl
theorem zt_2_15 : (Jvm.Cond.selects "java/lang/IllegalStateException" ({ cls := "java/lang/Throwable", name := "fillInStackTrace", desc := "()Ljava/lang/Throwable;" } : Jvm.MethodName) ({ cls := "java/lang/Throwable", name := "fillInStackTrace", desc := "()Ljava/lang/Throwable;" } : Jvm.MethodName)) ∈ zBG := zin_2 (List.mem_of_getElem? (i := 15) rfl) rfl
theorem zt_2_16 : (Jvm.Cond.selects "java/lang/IndexOutOfBoundsException" ({ cls := "java/lang/Throwable", name := "fillInStackTrace", desc := "()Ljava/lang/Throwable;" } : Jvm.MethodName) ({ cls := "java/lang/Throwable", name := "fillInStackTrace", desc := "()Ljava/lang/Throwable;" } : Jvm.MethodName)) ∈ zBG := zin_2 (List.mem_of_getElem? (i := 16) rfl) rfl
theorem zt_2_17 : (Jvm.Cond.codeSync ({ cls := "java/lang/Throwable", name := "fillInStackTrace", desc := "()Ljava/lang/Throwable;" } : Jvm.MethodName) prog_18_method_18_code (1 : Nat) (Option.some (Jvm.ClassFile.FieldType.object "java/lang/Throwable"))) ∈ zBG := zin_2 (List.mem_of_getElem? (i := 17) rfl) rfl
theorem zt_2_18 : (Jvm.Cond.methodLink "java/lang/Throwable" (202 : Nat) ({ cls := "java/lang/Throwable", name := "fillInStackTrace", desc := "(I)Ljava/lang/Throwable;" } : Jvm.MethodName)) ∈ zBG := zin_2 (List.mem_of_getElem? (i := 18) rfl) rfl
theorem zt_2_20 : (Jvm.Cond.instanceMethod ({ cls := "java/lang/Throwable", name := "fillInStackTrace", desc := "(I)Ljava/lang/Throwable;" } : Jvm.MethodName)) ∈ zBG := zin_2 (List.mem_of_getElem? (i := 20) rfl) rfl
theorem zt_2_21 : (Jvm.Cond.instantiable "java/lang/Throwable" (6 : Nat)) ∈ zBG := zin_2 (List.mem_of_getElem? (i := 21) rfl) rfl
theorem zt_2_22 : (Jvm.Cond.native ({ cls := "java/lang/Throwable", name := "fillInStackTrace", desc := "(I)Ljava/lang/Throwable;" } : Jvm.MethodName)) ∈ zBG := zin_2 (List.mem_of_getElem? (i := 22) rfl) rfl
theorem zt_2_24 : (Jvm.Cond.methodLink "Flaghall" (42 : Nat) ({ cls := "java/lang/IllegalArgumentException", name := "<init>", desc := "(Ljava/lang/String;)V" } : Jvm.MethodName)) ∈ zBG := zin_2 (List.mem_of_getElem? (i := 24) rfl) rfl
theorem zt_2_25 : (Jvm.Cond.instanceMethod ({ cls := "java/lang/IllegalArgumentException", name := "<init>", desc := "(Ljava/lang/String;)V" } : Jvm.MethodName)) ∈ zBG := zin_2 (List.mem_of_getElem? (i := 25) rfl) rfl
theorem zt_2_26 : (Jvm.Cond.code ({ cls := "java/lang/IllegalArgumentException", name := "<init>", desc := "(Ljava/lang/String;)V" } : Jvm.MethodName) prog_12_method_2_code (2 : Nat) (Option.none : Option Jvm.ClassFile.FieldType)) ∈ zBG := zin_2 (List.mem_of_getElem? (i := 26) rfl) rfl
theorem zt_2_27 : (Jvm.Cond.methodLink "java/lang/IllegalArgumentException" (7 : Nat) ({ cls := "java/lang/RuntimeException", name := "<init>", desc := "(Ljava/lang/String;)V" } : Jvm.MethodName)) ∈ zBG := zin_2 (List.mem_of_getElem? (i := 27) rfl) rfl
theorem zt_2_28 : (Jvm.Cond.instanceMethod ({ cls := "java/lang/RuntimeException", name := "<init>", desc := "(Ljava/lang/String;)V" } : Jvm.MethodName)) ∈ zBG := zin_2 (List.mem_of_getElem? (i := 28) rfl) rfl
theorem zt_2_29 : (Jvm.Cond.code ({ cls := "java/lang/RuntimeException", name := "<init>", desc := "(Ljava/lang/String;)V" } : Jvm.MethodName) prog_16_method_2_code (2 : Nat) (Option.none : Option Jvm.ClassFile.FieldType)) ∈ zBG := zin_2 (List.mem_of_getElem? (i := 29) rfl) rfl
theorem zt_2_30 : (Jvm.Cond.methodLink "java/lang/RuntimeException" (7 : Nat) ({ cls := "java/lang/Exception", name := "<init>", desc := "(Ljava/lang/String;)V" } : Jvm.MethodName)) ∈ zBG := zin_2 (List.mem_of_getElem? (i := 30) rfl) rfl
theorem zt_2_31 : (Jvm.Cond.instanceMethod ({ cls := "java/lang/Exception", name := "<init>", desc := "(Ljava/lang/String;)V" } : Jvm.MethodName)) ∈ zBG := zin_2 (List.mem_of_getElem? (i := 31) rfl) rfl
theorem zt_2_32 : (Jvm.Cond.code ({ cls := "java/lang/Exception", name := "<init>", desc := "(Ljava/lang/String;)V" } : Jvm.MethodName) prog_11_method_2_code (2 : Nat) (Option.none : Option Jvm.ClassFile.FieldType)) ∈ zBG := zin_2 (List.mem_of_getElem? (i := 32) rfl) rfl
theorem zt_2_33 : (Jvm.Cond.methodLink "java/lang/Exception" (7 : Nat) ({ cls := "java/lang/Throwable", name := "<init>", desc := "(Ljava/lang/String;)V" } : Jvm.MethodName)) ∈ zBG := zin_2 (List.mem_of_getElem? (i := 33) rfl) rfl
theorem zt_2_34 : (Jvm.Cond.instanceMethod ({ cls := "java/lang/Throwable", name := "<init>", desc := "(Ljava/lang/String;)V" } : Jvm.MethodName)) ∈ zBG := zin_2 (List.mem_of_getElem? (i := 34) rfl) rfl
theorem zt_2_35 : (Jvm.Cond.code ({ cls := "java/lang/Throwable", name := "<init>", desc := "(Ljava/lang/String;)V" } : Jvm.MethodName) prog_18_method_2_code (2 : Nat) (Option.none : Option Jvm.ClassFile.FieldType)) ∈ zBG := zin_2 (List.mem_of_getElem? (i := 35) rfl) rfl
theorem zt_2_37 : (Jvm.Cond.fieldLink "java/lang/Throwable" (31 : Nat) "java/lang/Throwable" "detailMessage" "Ljava/lang/String;") ∈ zBG := zin_2 (List.mem_of_getElem? (i := 37) rfl) rfl
theorem zt_2_38 : (Jvm.Cond.fieldLink "java/lang/Throwable" (7 : Nat) "java/lang/Throwable" "cause" "Ljava/lang/Throwable;") ∈ zBG := zin_2 (List.mem_of_getElem? (i := 38) rfl) rfl
theorem zt_2_39 : (Jvm.Cond.fieldLink "java/lang/Throwable" (17 : Nat) "java/lang/Throwable" "stackTrace" "[Ljava/lang/StackTraceElement;") ∈ zBG := zin_2 (List.mem_of_getElem? (i := 39) rfl) rfl
theorem zt_2_40 : (Jvm.Cond.fieldLink "java/lang/Throwable" (24 : Nat) "java/lang/Throwable" "suppressedExceptions" "Ljava/util/List;") ∈ zBG := zin_2 (List.mem_of_getElem? (i := 40) rfl) rfl
theorem zt_2_41 : (Jvm.Cond.soleField "java/lang/Throwable" "backtrace") ∈ zBG := zin_2 (List.mem_of_getElem? (i := 41) rfl) rfl
theorem zt_2_42 : (Jvm.Cond.soleField "java/lang/Throwable" "detailMessage") ∈ zBG := zin_2 (List.mem_of_getElem? (i := 42) rfl) rfl
theorem zt_2_43 : (Jvm.Cond.soleField "java/lang/Throwable" "cause") ∈ zBG := zin_2 (List.mem_of_getElem? (i := 43) rfl) rfl
theorem zt_2_44 : (Jvm.Cond.soleField "java/lang/Throwable" "stackTrace") ∈ zBG := zin_2 (List.mem_of_getElem? (i := 44) rfl) rfl
theorem zt_2_45 : (Jvm.Cond.lays "java/lang/IllegalArgumentException" "java/lang/Throwable" "depth" "I") ∈ zBG := zin_2 (List.mem_of_getElem? (i := 45) rfl) rfl
theorem zt_2_46 : (Jvm.Cond.soleField "java/lang/Throwable" "depth") ∈ zBG := zin_2 (List.mem_of_getElem? (i := 46) rfl) rfl
theorem zt_2_47 : (Jvm.Cond.soleField "java/lang/Throwable" "suppressedExceptions") ∈ zBG := zin_2 (List.mem_of_getElem? (i := 47) rfl) rfl
theorem zt_2_48 : (Jvm.Cond.superclass "java/lang/IllegalArgumentException" "java/lang/RuntimeException") ∈ zBG := zin_2 (List.mem_of_getElem? (i := 48) rfl) rfl
theorem zt_2_49 : (Jvm.Cond.arrayClass Jvm.ClassFile.FieldType.byte) ∈ zBG := zin_2 (List.mem_of_getElem? (i := 49) rfl) rfl
theorem zt_2_50 : (Jvm.Cond.classLink "Flaghall" (49 : Nat) "java/lang/IllegalStateException") ∈ zBG := zin_2 (List.mem_of_getElem? (i := 50) rfl) rfl
theorem zt_2_51 : (Jvm.Cond.instantiable "java/lang/IllegalStateException" (6 : Nat)) ∈ zBG := zin_2 (List.mem_of_getElem? (i := 51) rfl) rfl
theorem zt_2_53 : (Jvm.Cond.selects "java/lang/IllegalStateException" ({ cls := "java/lang/Throwable", name := "fillInStackTrace", desc := "(I)Ljava/lang/Throwable;" } : Jvm.MethodName) ({ cls := "java/lang/Throwable", name := "fillInStackTrace", desc := "(I)Ljava/lang/Throwable;" } : Jvm.MethodName)) ∈ zBG := zin_2 (List.mem_of_getElem? (i := 53) rfl) rfl
theorem zt_2_54 : (Jvm.Cond.lays "java/lang/IllegalStateException" "java/lang/Throwable" "cause" "Ljava/lang/Throwable;") ∈ zBG := zin_2 (List.mem_of_getElem? (i := 54) rfl) rfl
theorem zt_2_55 : (Jvm.Cond.lays "java/lang/IllegalStateException" "java/lang/Throwable" "stackTrace" "[Ljava/lang/StackTraceElement;") ∈ zBG := zin_2 (List.mem_of_getElem? (i := 55) rfl) rfl
theorem zt_2_56 : (Jvm.Cond.lays "java/lang/IllegalStateException" "java/lang/Throwable" "suppressedExceptions" "Ljava/util/List;") ∈ zBG := zin_2 (List.mem_of_getElem? (i := 56) rfl) rfl
theorem zt_2_57 : (Jvm.Cond.lays "java/lang/IllegalStateException" "java/lang/Throwable" "detailMessage" "Ljava/lang/String;") ∈ zBG := zin_2 (List.mem_of_getElem? (i := 57) rfl) rfl
theorem zt_2_58 : (Jvm.Cond.lays "java/lang/IllegalStateException" "java/lang/Throwable" "backtrace" "Ljava/lang/Object;") ∈ zBG := zin_2 (List.mem_of_getElem? (i := 58) rfl) rfl
theorem zt_2_60 : (Jvm.Cond.methodLink "Flaghall" (53 : Nat) ({ cls := "java/lang/IllegalStateException", name := "<init>", desc := "(Ljava/lang/String;)V" } : Jvm.MethodName)) ∈ zBG := zin_2 (List.mem_of_getElem? (i := 60) rfl) rfl
theorem zt_2_61 : (Jvm.Cond.instanceMethod ({ cls := "java/lang/IllegalStateException", name := "<init>", desc := "(Ljava/lang/String;)V" } : Jvm.MethodName)) ∈ zBG := zin_2 (List.mem_of_getElem? (i := 61) rfl) rfl
theorem zt_2_62 : (Jvm.Cond.code ({ cls := "java/lang/IllegalStateException", name := "<init>", desc := "(Ljava/lang/String;)V" } : Jvm.MethodName) prog_13_method_2_code (2 : Nat) (Option.none : Option Jvm.ClassFile.FieldType)) ∈ zBG := zin_2 (List.mem_of_getElem? (i := 62) rfl) rfl
theorem zt_2_63 : (Jvm.Cond.methodLink "java/lang/IllegalStateException" (7 : Nat) ({ cls := "java/lang/RuntimeException", name := "<init>", desc := "(Ljava/lang/String;)V" } : Jvm.MethodName)) ∈ zBG := zin_2 (List.mem_of_getElem? (i := 63) rfl) rfl
theorem zt_2_64 : (Jvm.Cond.lays "java/lang/IllegalStateException" "java/lang/Throwable" "depth" "I") ∈ zBG := zin_2 (List.mem_of_getElem? (i := 64) rfl) rfl
theorem zt_2_65 : (Jvm.Cond.superclass "java/lang/IllegalStateException" "java/lang/RuntimeException") ∈ zBG := zin_2 (List.mem_of_getElem? (i := 65) rfl) rfl
theorem zt_2_66 : (Jvm.Cond.methodLink "FlaghallLaw" (102 : Nat) ({ cls := "FlaghallLaw", name := "person", desc := "(LFlaghall;I[J)I" } : Jvm.MethodName)) ∈ zBG := zin_2 (List.mem_of_getElem? (i := 66) rfl) rfl
theorem zt_2_67 : (Jvm.Cond.static ({ cls := "FlaghallLaw", name := "person", desc := "(LFlaghall;I[J)I" } : Jvm.MethodName)) ∈ zBG := zin_2 (List.mem_of_getElem? (i := 67) rfl) rfl
theorem zt_2_68 : (Jvm.Cond.codeWith ({ cls := "FlaghallLaw", name := "person", desc := "(LFlaghall;I[J)I" } : Jvm.MethodName) method_4_code (4 : Nat) (Option.some Jvm.ClassFile.FieldType.int) [((0 : Nat), (9 : Nat), (12 : Nat), (21 : Nat)), ((0 : Nat), (9 : Nat), (15 : Nat), (15 : Nat))]) ∈ zBG := zin_2 (List.mem_of_getElem? (i := 68) rfl) rfl
theorem zt_2_69 : (Jvm.Cond.classLink "FlaghallLaw" (21 : Nat) "java/lang/IndexOutOfBoundsException") ∈ zBG := zin_2 (List.mem_of_getElem? (i := 69) rfl) rfl
theorem zt_2_70 : (Jvm.Cond.methodLink "FlaghallLaw" (17 : Nat) ({ cls := "Flaghall", name := "person", desc := "(I)I" } : Jvm.MethodName)) ∈ zBG := zin_2 (List.mem_of_getElem? (i := 70) rfl) rfl
theorem zt_2_71 : (Jvm.Cond.instanceMethod ({ cls := "Flaghall", name := "person", desc := "(I)I" } : Jvm.MethodName)) ∈ zBG := zin_2 (List.mem_of_getElem? (i := 71) rfl) rfl
theorem zt_2_72 : (Jvm.Cond.selects "Flaghall" ({ cls := "Flaghall", name := "person", desc := "(I)I" } : Jvm.MethodName) ({ cls := "Flaghall", name := "person", desc := "(I)I" } : Jvm.MethodName)) ∈ zBG := zin_2 (List.mem_of_getElem? (i := 72) rfl) rfl
theorem zt_2_73 : (Jvm.Cond.code ({ cls := "Flaghall", name := "person", desc := "(I)I" } : Jvm.MethodName) prog_1_method_3_code (2 : Nat) (Option.some Jvm.ClassFile.FieldType.int)) ∈ zBG := zin_2 (List.mem_of_getElem? (i := 73) rfl) rfl
theorem zt_2_74 : (Jvm.Cond.methodLink "Flaghall" (54 : Nat) ({ cls := "Flaghall", name := "needLand", desc := "(I)V" } : Jvm.MethodName)) ∈ zBG := zin_2 (List.mem_of_getElem? (i := 74) rfl) rfl
theorem zt_2_76 : (Jvm.Cond.instanceMethod ({ cls := "Flaghall", name := "needLand", desc := "(I)V" } : Jvm.MethodName)) ∈ zBG := zin_2 (List.mem_of_getElem? (i := 76) rfl) rfl
theorem zt_2_77 : (Jvm.Cond.code ({ cls := "Flaghall", name := "needLand", desc := "(I)V" } : Jvm.MethodName) prog_1_method_23_code (2 : Nat) (Option.none : Option Jvm.ClassFile.FieldType)) ∈ zBG := zin_2 (List.mem_of_getElem? (i := 77) rfl) rfl
theorem zt_2_78 : (Jvm.Cond.classLink "Flaghall" (235 : Nat) "java/lang/IndexOutOfBoundsException") ∈ zBG := zin_2 (List.mem_of_getElem? (i := 78) rfl) rfl
theorem zt_2_79 : (Jvm.Cond.instantiable "java/lang/IndexOutOfBoundsException" (6 : Nat)) ∈ zBG := zin_2 (List.mem_of_getElem? (i := 79) rfl) rfl
theorem zt_2_81 : (Jvm.Cond.selects "java/lang/IndexOutOfBoundsException" ({ cls := "java/lang/Throwable", name := "fillInStackTrace", desc := "(I)Ljava/lang/Throwable;" } : Jvm.MethodName) ({ cls := "java/lang/Throwable", name := "fillInStackTrace", desc := "(I)Ljava/lang/Throwable;" } : Jvm.MethodName)) ∈ zBG := zin_2 (List.mem_of_getElem? (i := 81) rfl) rfl
theorem zt_2_82 : (Jvm.Cond.lays "java/lang/IndexOutOfBoundsException" "java/lang/Throwable" "cause" "Ljava/lang/Throwable;") ∈ zBG := zin_2 (List.mem_of_getElem? (i := 82) rfl) rfl
theorem zt_2_83 : (Jvm.Cond.lays "java/lang/IndexOutOfBoundsException" "java/lang/Throwable" "stackTrace" "[Ljava/lang/StackTraceElement;") ∈ zBG := zin_2 (List.mem_of_getElem? (i := 83) rfl) rfl
theorem zt_2_84 : (Jvm.Cond.lays "java/lang/IndexOutOfBoundsException" "java/lang/Throwable" "suppressedExceptions" "Ljava/util/List;") ∈ zBG := zin_2 (List.mem_of_getElem? (i := 84) rfl) rfl
theorem zt_2_85 : (Jvm.Cond.lays "java/lang/IndexOutOfBoundsException" "java/lang/Throwable" "detailMessage" "Ljava/lang/String;") ∈ zBG := zin_2 (List.mem_of_getElem? (i := 85) rfl) rfl
theorem zt_2_86 : (Jvm.Cond.lays "java/lang/IndexOutOfBoundsException" "java/lang/Throwable" "backtrace" "Ljava/lang/Object;") ∈ zBG := zin_2 (List.mem_of_getElem? (i := 86) rfl) rfl
theorem zt_2_88 : (Jvm.Cond.methodLink "Flaghall" (239 : Nat) ({ cls := "java/lang/IndexOutOfBoundsException", name := "<init>", desc := "(Ljava/lang/String;)V" } : Jvm.MethodName)) ∈ zBG := zin_2 (List.mem_of_getElem? (i := 88) rfl) rfl
theorem zt_2_89 : (Jvm.Cond.instanceMethod ({ cls := "java/lang/IndexOutOfBoundsException", name := "<init>", desc := "(Ljava/lang/String;)V" } : Jvm.MethodName)) ∈ zBG := zin_2 (List.mem_of_getElem? (i := 89) rfl) rfl
theorem zt_2_90 : (Jvm.Cond.code ({ cls := "java/lang/IndexOutOfBoundsException", name := "<init>", desc := "(Ljava/lang/String;)V" } : Jvm.MethodName) prog_14_method_2_code (2 : Nat) (Option.none : Option Jvm.ClassFile.FieldType)) ∈ zBG := zin_2 (List.mem_of_getElem? (i := 90) rfl) rfl
theorem zt_2_91 : (Jvm.Cond.methodLink "java/lang/IndexOutOfBoundsException" (7 : Nat) ({ cls := "java/lang/RuntimeException", name := "<init>", desc := "(Ljava/lang/String;)V" } : Jvm.MethodName)) ∈ zBG := zin_2 (List.mem_of_getElem? (i := 91) rfl) rfl
theorem zt_2_92 : (Jvm.Cond.lays "java/lang/IndexOutOfBoundsException" "java/lang/Throwable" "depth" "I") ∈ zBG := zin_2 (List.mem_of_getElem? (i := 92) rfl) rfl
theorem zt_2_93 : (Jvm.Cond.superclass "java/lang/IndexOutOfBoundsException" "java/lang/RuntimeException") ∈ zBG := zin_2 (List.mem_of_getElem? (i := 93) rfl) rfl
theorem zt_2_94 : (Jvm.Cond.methodLink "Flaghall" (58 : Nat) ({ cls := "Flaghall", name := "addParty", desc := "(ZI)I" } : Jvm.MethodName)) ∈ zBG := zin_2 (List.mem_of_getElem? (i := 94) rfl) rfl
theorem zt_2_96 : (Jvm.Cond.instanceMethod ({ cls := "Flaghall", name := "addParty", desc := "(ZI)I" } : Jvm.MethodName)) ∈ zBG := zin_2 (List.mem_of_getElem? (i := 96) rfl) rfl
theorem zt_2_97 : (Jvm.Cond.code ({ cls := "Flaghall", name := "addParty", desc := "(ZI)I" } : Jvm.MethodName) prog_1_method_30_code (4 : Nat) (Option.some Jvm.ClassFile.FieldType.int)) ∈ zBG := zin_2 (List.mem_of_getElem? (i := 97) rfl) rfl
theorem zt_2_99 : (Jvm.Cond.methodLink "FlaghallLaw" (106 : Nat) ({ cls := "FlaghallLaw", name := "company", desc := "(LFlaghall;[J)I" } : Jvm.MethodName)) ∈ zBG := zin_2 (List.mem_of_getElem? (i := 99) rfl) rfl
theorem zt_2_100 : (Jvm.Cond.static ({ cls := "FlaghallLaw", name := "company", desc := "(LFlaghall;[J)I" } : Jvm.MethodName)) ∈ zBG := zin_2 (List.mem_of_getElem? (i := 100) rfl) rfl
theorem zt_2_101 : (Jvm.Cond.codeWith ({ cls := "FlaghallLaw", name := "company", desc := "(LFlaghall;[J)I" } : Jvm.MethodName) method_5_code (3 : Nat) (Option.some Jvm.ClassFile.FieldType.int) [((0 : Nat), (8 : Nat), (11 : Nat), (15 : Nat))]) ∈ zBG := zin_2 (List.mem_of_getElem? (i := 101) rfl) rfl
theorem zt_2_102 : (Jvm.Cond.methodLink "FlaghallLaw" (23 : Nat) ({ cls := "Flaghall", name := "company", desc := "()I" } : Jvm.MethodName)) ∈ zBG := zin_2 (List.mem_of_getElem? (i := 102) rfl) rfl
theorem zt_2_103 : (Jvm.Cond.instanceMethod ({ cls := "Flaghall", name := "company", desc := "()I" } : Jvm.MethodName)) ∈ zBG := zin_2 (List.mem_of_getElem? (i := 103) rfl) rfl
theorem zt_2_104 : (Jvm.Cond.selects "Flaghall" ({ cls := "Flaghall", name := "company", desc := "()I" } : Jvm.MethodName) ({ cls := "Flaghall", name := "company", desc := "()I" } : Jvm.MethodName)) ∈ zBG := zin_2 (List.mem_of_getElem? (i := 104) rfl) rfl
theorem zt_2_105 : (Jvm.Cond.code ({ cls := "Flaghall", name := "company", desc := "()I" } : Jvm.MethodName) prog_1_method_4_code (1 : Nat) (Option.some Jvm.ClassFile.FieldType.int)) ∈ zBG := zin_2 (List.mem_of_getElem? (i := 105) rfl) rfl
theorem zt_2_106 : (Jvm.Cond.methodLink "FlaghallLaw" (110 : Nat) ({ cls := "FlaghallLaw", name := "part", desc := "(LFlaghall;III[J)I" } : Jvm.MethodName)) ∈ zBG := zin_2 (List.mem_of_getElem? (i := 106) rfl) rfl
theorem zt_2_107 : (Jvm.Cond.static ({ cls := "FlaghallLaw", name := "part", desc := "(LFlaghall;III[J)I" } : Jvm.MethodName)) ∈ zBG := zin_2 (List.mem_of_getElem? (i := 107) rfl) rfl
theorem zt_2_108 : (Jvm.Cond.codeWith ({ cls := "FlaghallLaw", name := "part", desc := "(LFlaghall;III[J)I" } : Jvm.MethodName) method_6_code (6 : Nat) (Option.some Jvm.ClassFile.FieldType.int) [((0 : Nat), (12 : Nat), (15 : Nat), (21 : Nat)), ((0 : Nat), (12 : Nat), (19 : Nat), (13 : Nat)), ((0 : Nat), (12 : Nat), (23 : Nat), (15 : Nat))]) ∈ zBG := zin_2 (List.mem_of_getElem? (i := 108) rfl) rfl
theorem zt_2_109 : (Jvm.Cond.methodLink "FlaghallLaw" (27 : Nat) ({ cls := "Flaghall", name := "part", desc := "(III)I" } : Jvm.MethodName)) ∈ zBG := zin_2 (List.mem_of_getElem? (i := 109) rfl) rfl
theorem zt_2_110 : (Jvm.Cond.instanceMethod ({ cls := "Flaghall", name := "part", desc := "(III)I" } : Jvm.MethodName)) ∈ zBG := zin_2 (List.mem_of_getElem? (i := 110) rfl) rfl
theorem zt_2_111 : (Jvm.Cond.selects "Flaghall" ({ cls := "Flaghall", name := "part", desc := "(III)I" } : Jvm.MethodName) ({ cls := "Flaghall", name := "part", desc := "(III)I" } : Jvm.MethodName)) ∈ zBG := zin_2 (List.mem_of_getElem? (i := 111) rfl) rfl
theorem zt_2_112 : (Jvm.Cond.code ({ cls := "Flaghall", name := "part", desc := "(III)I" } : Jvm.MethodName) prog_1_method_5_code (7 : Nat) (Option.some Jvm.ClassFile.FieldType.int)) ∈ zBG := zin_2 (List.mem_of_getElem? (i := 112) rfl) rfl
theorem zt_2_113 : (Jvm.Cond.methodLink "Flaghall" (62 : Nat) ({ cls := "Flaghall", name := "needParty", desc := "(I)V" } : Jvm.MethodName)) ∈ zBG := zin_2 (List.mem_of_getElem? (i := 113) rfl) rfl
theorem zt_2_115 : (Jvm.Cond.instanceMethod ({ cls := "Flaghall", name := "needParty", desc := "(I)V" } : Jvm.MethodName)) ∈ zBG := zin_2 (List.mem_of_getElem? (i := 115) rfl) rfl
theorem zt_2_116 : (Jvm.Cond.code ({ cls := "Flaghall", name := "needParty", desc := "(I)V" } : Jvm.MethodName) prog_1_method_24_code (2 : Nat) (Option.none : Option Jvm.ClassFile.FieldType)) ∈ zBG := zin_2 (List.mem_of_getElem? (i := 116) rfl) rfl
theorem zt_2_118 : (Jvm.Cond.methodLink "Flaghall" (65 : Nat) ({ cls := "Flaghall", name := "needWithin", desc := "(III)V" } : Jvm.MethodName)) ∈ zBG := zin_2 (List.mem_of_getElem? (i := 118) rfl) rfl
theorem zt_2_120 : (Jvm.Cond.instanceMethod ({ cls := "Flaghall", name := "needWithin", desc := "(III)V" } : Jvm.MethodName)) ∈ zBG := zin_2 (List.mem_of_getElem? (i := 120) rfl) rfl
theorem zt_2_121 : (Jvm.Cond.code ({ cls := "Flaghall", name := "needWithin", desc := "(III)V" } : Jvm.MethodName) prog_1_method_28_code (4 : Nat) (Option.none : Option Jvm.ClassFile.FieldType)) ∈ zBG := zin_2 (List.mem_of_getElem? (i := 121) rfl) rfl
theorem zt_2_125 : (Jvm.Cond.instanceMethod ({ cls := "Flaghall$Party", name := "partsOfParties", desc := "()I" } : Jvm.MethodName)) ∈ zBG := zin_2 (List.mem_of_getElem? (i := 125) rfl) rfl
theorem zt_2_126 : (Jvm.Cond.code ({ cls := "Flaghall$Party", name := "partsOfParties", desc := "()I" } : Jvm.MethodName) prog_6_method_2_code (3 : Nat) (Option.some Jvm.ClassFile.FieldType.int)) ∈ zBG := zin_2 (List.mem_of_getElem? (i := 126) rfl) rfl
theorem zt_2_128 : (Jvm.Cond.methodLink "Flaghall" (82 : Nat) ({ cls := "Flaghall", name := "findHomes", desc := "()V" } : Jvm.MethodName)) ∈ zBG := zin_2 (List.mem_of_getElem? (i := 128) rfl) rfl
theorem zt_2_130 : (Jvm.Cond.instanceMethod ({ cls := "Flaghall", name := "findHomes", desc := "()V" } : Jvm.MethodName)) ∈ zBG := zin_2 (List.mem_of_getElem? (i := 130) rfl) rfl
theorem zt_2_131 : (Jvm.Cond.code ({ cls := "Flaghall", name := "findHomes", desc := "()V" } : Jvm.MethodName) prog_1_method_31_code (3 : Nat) (Option.none : Option Jvm.ClassFile.FieldType)) ∈ zBG := zin_2 (List.mem_of_getElem? (i := 131) rfl) rfl
theorem zt_2_132 : (Jvm.Cond.methodLink "Flaghall" (118 : Nat) ({ cls := "Flaghall", name := "landOfMost", desc := "([I)I" } : Jvm.MethodName)) ∈ zBG := zin_2 (List.mem_of_getElem? (i := 132) rfl) rfl
theorem zt_2_134 : (Jvm.Cond.instanceMethod ({ cls := "Flaghall", name := "landOfMost", desc := "([I)I" } : Jvm.MethodName)) ∈ zBG := zin_2 (List.mem_of_getElem? (i := 134) rfl) rfl
theorem zt_2_135 : (Jvm.Cond.code ({ cls := "Flaghall", name := "landOfMost", desc := "([I)I" } : Jvm.MethodName) prog_1_method_32_code (4 : Nat) (Option.some Jvm.ClassFile.FieldType.int)) ∈ zBG := zin_2 (List.mem_of_getElem? (i := 135) rfl) rfl
theorem zt_2_136 : (Jvm.Cond.methodLink "Flaghall" (263 : Nat) ({ cls := "java/util/Arrays", name := "fill", desc := "([II)V" } : Jvm.MethodName)) ∈ zBG := zin_2 (List.mem_of_getElem? (i := 136) rfl) rfl
theorem zt_2_137 : (Jvm.Cond.static ({ cls := "java/util/Arrays", name := "fill", desc := "([II)V" } : Jvm.MethodName)) ∈ zBG := zin_2 (List.mem_of_getElem? (i := 137) rfl) rfl
theorem zt_2_138 : (Jvm.Cond.code ({ cls := "java/util/Arrays", name := "fill", desc := "([II)V" } : Jvm.MethodName) prog_19_method_103_code (4 : Nat) (Option.none : Option Jvm.ClassFile.FieldType)) ∈ zBG := zin_2 (List.mem_of_getElem? (i := 138) rfl) rfl
theorem zt_2_139 : (Jvm.Cond.methodLink "Flaghall" (88 : Nat) ({ cls := "Flaghall", name := "checkGrace", desc := "(LFlaghall$Ship;)V" } : Jvm.MethodName)) ∈ zBG := zin_2 (List.mem_of_getElem? (i := 139) rfl) rfl
theorem zt_2_141 : (Jvm.Cond.instanceMethod ({ cls := "Flaghall", name := "checkGrace", desc := "(LFlaghall$Ship;)V" } : Jvm.MethodName)) ∈ zBG := zin_2 (List.mem_of_getElem? (i := 141) rfl) rfl
theorem zt_2_142 : (Jvm.Cond.code ({ cls := "Flaghall", name := "checkGrace", desc := "(LFlaghall$Ship;)V" } : Jvm.MethodName) prog_1_method_33_code (2 : Nat) (Option.none : Option Jvm.ClassFile.FieldType)) ∈ zBG := zin_2 (List.mem_of_getElem? (i := 142) rfl) rfl
theorem zt_2_143 : (Jvm.Cond.constantLong "Flaghall" (135 : Nat) (-1 : Int64)) ∈ zBG := zin_2 (List.mem_of_getElem? (i := 143) rfl) rfl
theorem zt_2_144 : (Jvm.Cond.methodLink "FlaghallLaw" (114 : Nat) ({ cls := "FlaghallLaw", name := "land", desc := "(LFlaghall;I[J)I" } : Jvm.MethodName)) ∈ zBG := zin_2 (List.mem_of_getElem? (i := 144) rfl) rfl
theorem zt_2_145 : (Jvm.Cond.static ({ cls := "FlaghallLaw", name := "land", desc := "(LFlaghall;I[J)I" } : Jvm.MethodName)) ∈ zBG := zin_2 (List.mem_of_getElem? (i := 145) rfl) rfl
theorem zt_2_146 : (Jvm.Cond.codeWith ({ cls := "FlaghallLaw", name := "land", desc := "(LFlaghall;I[J)I" } : Jvm.MethodName) method_7_code (4 : Nat) (Option.some Jvm.ClassFile.FieldType.int) [((0 : Nat), (9 : Nat), (12 : Nat), (21 : Nat))]) ∈ zBG := zin_2 (List.mem_of_getElem? (i := 146) rfl) rfl
theorem zt_2_147 : (Jvm.Cond.methodLink "FlaghallLaw" (31 : Nat) ({ cls := "Flaghall", name := "land", desc := "(I)I" } : Jvm.MethodName)) ∈ zBG := zin_2 (List.mem_of_getElem? (i := 147) rfl) rfl
theorem zt_2_148 : (Jvm.Cond.instanceMethod ({ cls := "Flaghall", name := "land", desc := "(I)I" } : Jvm.MethodName)) ∈ zBG := zin_2 (List.mem_of_getElem? (i := 148) rfl) rfl
theorem zt_2_149 : (Jvm.Cond.selects "Flaghall" ({ cls := "Flaghall", name := "land", desc := "(I)I" } : Jvm.MethodName) ({ cls := "Flaghall", name := "land", desc := "(I)I" } : Jvm.MethodName)) ∈ zBG := zin_2 (List.mem_of_getElem? (i := 149) rfl) rfl
theorem zt_2_150 : (Jvm.Cond.code ({ cls := "Flaghall", name := "land", desc := "(I)I" } : Jvm.MethodName) prog_1_method_6_code (2 : Nat) (Option.some Jvm.ClassFile.FieldType.int)) ∈ zBG := zin_2 (List.mem_of_getElem? (i := 150) rfl) rfl
theorem zt_2_151 : (Jvm.Cond.methodLink "FlaghallLaw" (117 : Nat) ({ cls := "FlaghallLaw", name := "ship", desc := "(LFlaghall;I[J)I" } : Jvm.MethodName)) ∈ zBG := zin_2 (List.mem_of_getElem? (i := 151) rfl) rfl
theorem zt_2_152 : (Jvm.Cond.static ({ cls := "FlaghallLaw", name := "ship", desc := "(LFlaghall;I[J)I" } : Jvm.MethodName)) ∈ zBG := zin_2 (List.mem_of_getElem? (i := 152) rfl) rfl
theorem zt_2_153 : (Jvm.Cond.codeWith ({ cls := "FlaghallLaw", name := "ship", desc := "(LFlaghall;I[J)I" } : Jvm.MethodName) method_8_code (4 : Nat) (Option.some Jvm.ClassFile.FieldType.int) [((0 : Nat), (9 : Nat), (12 : Nat), (21 : Nat)), ((0 : Nat), (9 : Nat), (15 : Nat), (15 : Nat))]) ∈ zBG := zin_2 (List.mem_of_getElem? (i := 153) rfl) rfl
theorem zt_2_154 : (Jvm.Cond.methodLink "FlaghallLaw" (34 : Nat) ({ cls := "Flaghall", name := "ship", desc := "(I)I" } : Jvm.MethodName)) ∈ zBG := zin_2 (List.mem_of_getElem? (i := 154) rfl) rfl
theorem zt_2_155 : (Jvm.Cond.instanceMethod ({ cls := "Flaghall", name := "ship", desc := "(I)I" } : Jvm.MethodName)) ∈ zBG := zin_2 (List.mem_of_getElem? (i := 155) rfl) rfl
theorem zt_2_156 : (Jvm.Cond.selects "Flaghall" ({ cls := "Flaghall", name := "ship", desc := "(I)I" } : Jvm.MethodName) ({ cls := "Flaghall", name := "ship", desc := "(I)I" } : Jvm.MethodName)) ∈ zBG := zin_2 (List.mem_of_getElem? (i := 156) rfl) rfl
theorem zt_2_157 : (Jvm.Cond.code ({ cls := "Flaghall", name := "ship", desc := "(I)I" } : Jvm.MethodName) prog_1_method_7_code (4 : Nat) (Option.some Jvm.ClassFile.FieldType.int)) ∈ zBG := zin_2 (List.mem_of_getElem? (i := 157) rfl) rfl
theorem zt_2_161 : (Jvm.Cond.instanceMethod ({ cls := "Flaghall$Ship", name := "takeName", desc := "([CI)V" } : Jvm.MethodName)) ∈ zBG := zin_2 (List.mem_of_getElem? (i := 161) rfl) rfl
theorem zt_2_162 : (Jvm.Cond.code ({ cls := "Flaghall$Ship", name := "takeName", desc := "([CI)V" } : Jvm.MethodName) prog_7_method_2_code (4 : Nat) (Option.none : Option Jvm.ClassFile.FieldType)) ∈ zBG := zin_2 (List.mem_of_getElem? (i := 162) rfl) rfl
theorem zt_2_163 : (Jvm.Cond.methodLink "Flaghall$Ship" (32 : Nat) ({ cls := "Flaghall$Ship", name := "isHeard", desc := "(C)Z" } : Jvm.MethodName)) ∈ zBG := zin_2 (List.mem_of_getElem? (i := 163) rfl) rfl
theorem zt_2_165 : (Jvm.Cond.instanceMethod ({ cls := "Flaghall$Ship", name := "isHeard", desc := "(C)Z" } : Jvm.MethodName)) ∈ zBG := zin_2 (List.mem_of_getElem? (i := 165) rfl) rfl
theorem zt_2_166 : (Jvm.Cond.code ({ cls := "Flaghall$Ship", name := "isHeard", desc := "(C)Z" } : Jvm.MethodName) prog_7_method_3_code (2 : Nat) (Option.some Jvm.ClassFile.FieldType.boolean)) ∈ zBG := zin_2 (List.mem_of_getElem? (i := 166) rfl) rfl
theorem zt_2_169 : (Jvm.Cond.instanceMethod ({ cls := "Flaghall$Ship", name := "soundsLike", desc := "(LFlaghall$Ship;)Z" } : Jvm.MethodName)) ∈ zBG := zin_2 (List.mem_of_getElem? (i := 169) rfl) rfl
theorem zt_2_170 : (Jvm.Cond.code ({ cls := "Flaghall$Ship", name := "soundsLike", desc := "(LFlaghall$Ship;)Z" } : Jvm.MethodName) prog_7_method_4_code (3 : Nat) (Option.some Jvm.ClassFile.FieldType.boolean)) ∈ zBG := zin_2 (List.mem_of_getElem? (i := 170) rfl) rfl
theorem zt_2_173 : (Jvm.Cond.instanceMethod ({ cls := "Flaghall$Ship", name := "handTo", desc := "(I)V" } : Jvm.MethodName)) ∈ zBG := zin_2 (List.mem_of_getElem? (i := 173) rfl) rfl
theorem zt_2_174 : (Jvm.Cond.code ({ cls := "Flaghall$Ship", name := "handTo", desc := "(I)V" } : Jvm.MethodName) prog_7_method_5_code (2 : Nat) (Option.none : Option Jvm.ClassFile.FieldType)) ∈ zBG := zin_2 (List.mem_of_getElem? (i := 174) rfl) rfl
theorem zt_2_175 : (Jvm.Cond.methodLink "Flaghall$Ship" (36 : Nat) ({ cls := "java/util/Arrays", name := "fill", desc := "([II)V" } : Jvm.MethodName)) ∈ zBG := zin_2 (List.mem_of_getElem? (i := 175) rfl) rfl
theorem zt_2_176 : (Jvm.Cond.methodLink "FlaghallLaw" (120 : Nat) ({ cls := "FlaghallLaw", name := "sell", desc := "(LFlaghall;IIII[J)I" } : Jvm.MethodName)) ∈ zBG := zin_2 (List.mem_of_getElem? (i := 176) rfl) rfl
theorem zt_2_177 : (Jvm.Cond.static ({ cls := "FlaghallLaw", name := "sell", desc := "(LFlaghall;IIII[J)I" } : Jvm.MethodName)) ∈ zBG := zin_2 (List.mem_of_getElem? (i := 177) rfl) rfl
theorem zt_2_178 : (Jvm.Cond.codeWith ({ cls := "FlaghallLaw", name := "sell", desc := "(LFlaghall;IIII[J)I" } : Jvm.MethodName) method_9_code (7 : Nat) (Option.some Jvm.ClassFile.FieldType.int) [((0 : Nat), (14 : Nat), (17 : Nat), (21 : Nat)), ((0 : Nat), (14 : Nat), (21 : Nat), (13 : Nat)), ((0 : Nat), (14 : Nat), (25 : Nat), (15 : Nat))]) ∈ zBG := zin_2 (List.mem_of_getElem? (i := 178) rfl) rfl
theorem zt_2_179 : (Jvm.Cond.methodLink "FlaghallLaw" (37 : Nat) ({ cls := "Flaghall", name := "sell", desc := "(IIII)I" } : Jvm.MethodName)) ∈ zBG := zin_2 (List.mem_of_getElem? (i := 179) rfl) rfl
theorem zt_2_180 : (Jvm.Cond.instanceMethod ({ cls := "Flaghall", name := "sell", desc := "(IIII)I" } : Jvm.MethodName)) ∈ zBG := zin_2 (List.mem_of_getElem? (i := 180) rfl) rfl
theorem zt_2_181 : (Jvm.Cond.selects "Flaghall" ({ cls := "Flaghall", name := "sell", desc := "(IIII)I" } : Jvm.MethodName) ({ cls := "Flaghall", name := "sell", desc := "(IIII)I" } : Jvm.MethodName)) ∈ zBG := zin_2 (List.mem_of_getElem? (i := 181) rfl) rfl
theorem zt_2_182 : (Jvm.Cond.code ({ cls := "Flaghall", name := "sell", desc := "(IIII)I" } : Jvm.MethodName) prog_1_method_8_code (6 : Nat) (Option.some Jvm.ClassFile.FieldType.int)) ∈ zBG := zin_2 (List.mem_of_getElem? (i := 182) rfl) rfl
theorem zt_2_183 : (Jvm.Cond.methodLink "Flaghall" (108 : Nat) ({ cls := "Flaghall", name := "needShip", desc := "(I)V" } : Jvm.MethodName)) ∈ zBG := zin_2 (List.mem_of_getElem? (i := 183) rfl) rfl
theorem zt_2_185 : (Jvm.Cond.instanceMethod ({ cls := "Flaghall", name := "needShip", desc := "(I)V" } : Jvm.MethodName)) ∈ zBG := zin_2 (List.mem_of_getElem? (i := 185) rfl) rfl
theorem zt_2_186 : (Jvm.Cond.code ({ cls := "Flaghall", name := "needShip", desc := "(I)V" } : Jvm.MethodName) prog_1_method_25_code (2 : Nat) (Option.none : Option Jvm.ClassFile.FieldType)) ∈ zBG := zin_2 (List.mem_of_getElem? (i := 186) rfl) rfl
theorem zt_2_190 : (Jvm.Cond.methodLink "FlaghallLaw" (124 : Nat) ({ cls := "FlaghallLaw", name := "fly", desc := "(LFlaghall;II[J)I" } : Jvm.MethodName)) ∈ zBG := zin_2 (List.mem_of_getElem? (i := 190) rfl) rfl
theorem zt_2_191 : (Jvm.Cond.static ({ cls := "FlaghallLaw", name := "fly", desc := "(LFlaghall;II[J)I" } : Jvm.MethodName)) ∈ zBG := zin_2 (List.mem_of_getElem? (i := 191) rfl) rfl
theorem zt_2_192 : (Jvm.Cond.codeWith ({ cls := "FlaghallLaw", name := "fly", desc := "(LFlaghall;II[J)I" } : Jvm.MethodName) method_10_code (5 : Nat) (Option.some Jvm.ClassFile.FieldType.int) [((0 : Nat), (10 : Nat), (13 : Nat), (21 : Nat)), ((0 : Nat), (10 : Nat), (17 : Nat), (15 : Nat))]) ∈ zBG := zin_2 (List.mem_of_getElem? (i := 192) rfl) rfl
theorem zt_2_193 : (Jvm.Cond.methodLink "FlaghallLaw" (41 : Nat) ({ cls := "Flaghall", name := "fly", desc := "(II)I" } : Jvm.MethodName)) ∈ zBG := zin_2 (List.mem_of_getElem? (i := 193) rfl) rfl
theorem zt_2_194 : (Jvm.Cond.instanceMethod ({ cls := "Flaghall", name := "fly", desc := "(II)I" } : Jvm.MethodName)) ∈ zBG := zin_2 (List.mem_of_getElem? (i := 194) rfl) rfl
theorem zt_2_195 : (Jvm.Cond.selects "Flaghall" ({ cls := "Flaghall", name := "fly", desc := "(II)I" } : Jvm.MethodName) ({ cls := "Flaghall", name := "fly", desc := "(II)I" } : Jvm.MethodName)) ∈ zBG := zin_2 (List.mem_of_getElem? (i := 195) rfl) rfl
theorem zt_2_196 : (Jvm.Cond.code ({ cls := "Flaghall", name := "fly", desc := "(II)I" } : Jvm.MethodName) prog_1_method_9_code (5 : Nat) (Option.some Jvm.ClassFile.FieldType.int)) ∈ zBG := zin_2 (List.mem_of_getElem? (i := 196) rfl) rfl
theorem zt_2_200 : (Jvm.Cond.instanceMethod ({ cls := "Flaghall$Ship", name := "flagAt", desc := "(J)I" } : Jvm.MethodName)) ∈ zBG := zin_2 (List.mem_of_getElem? (i := 200) rfl) rfl
theorem zt_2_201 : (Jvm.Cond.code ({ cls := "Flaghall$Ship", name := "flagAt", desc := "(J)I" } : Jvm.MethodName) prog_7_method_6_code (4 : Nat) (Option.some Jvm.ClassFile.FieldType.int)) ∈ zBG := zin_2 (List.mem_of_getElem? (i := 201) rfl) rfl
theorem zt_2_202 : (Jvm.Cond.constantLong "Flaghall$Ship" (42 : Nat) (129600 : Int64)) ∈ zBG := zin_2 (List.mem_of_getElem? (i := 202) rfl) rfl
theorem zt_2_203 : (Jvm.Cond.methodLink "FlaghallLaw" (128 : Nat) ({ cls := "FlaghallLaw", name := "notice", desc := "(LFlaghall;II[J)I" } : Jvm.MethodName)) ∈ zBG := zin_2 (List.mem_of_getElem? (i := 203) rfl) rfl
theorem zt_2_204 : (Jvm.Cond.static ({ cls := "FlaghallLaw", name := "notice", desc := "(LFlaghall;II[J)I" } : Jvm.MethodName)) ∈ zBG := zin_2 (List.mem_of_getElem? (i := 204) rfl) rfl
theorem zt_2_205 : (Jvm.Cond.codeWith ({ cls := "FlaghallLaw", name := "notice", desc := "(LFlaghall;II[J)I" } : Jvm.MethodName) method_11_code (5 : Nat) (Option.some Jvm.ClassFile.FieldType.int) [((0 : Nat), (10 : Nat), (13 : Nat), (21 : Nat)), ((0 : Nat), (10 : Nat), (17 : Nat), (15 : Nat))]) ∈ zBG := zin_2 (List.mem_of_getElem? (i := 205) rfl) rfl
theorem zt_2_206 : (Jvm.Cond.methodLink "FlaghallLaw" (45 : Nat) ({ cls := "Flaghall", name := "notice", desc := "(II)I" } : Jvm.MethodName)) ∈ zBG := zin_2 (List.mem_of_getElem? (i := 206) rfl) rfl
theorem zt_2_207 : (Jvm.Cond.instanceMethod ({ cls := "Flaghall", name := "notice", desc := "(II)I" } : Jvm.MethodName)) ∈ zBG := zin_2 (List.mem_of_getElem? (i := 207) rfl) rfl
theorem zt_2_208 : (Jvm.Cond.selects "Flaghall" ({ cls := "Flaghall", name := "notice", desc := "(II)I" } : Jvm.MethodName) ({ cls := "Flaghall", name := "notice", desc := "(II)I" } : Jvm.MethodName)) ∈ zBG := zin_2 (List.mem_of_getElem? (i := 208) rfl) rfl
theorem zt_2_209 : (Jvm.Cond.code ({ cls := "Flaghall", name := "notice", desc := "(II)I" } : Jvm.MethodName) prog_1_method_10_code (3 : Nat) (Option.some Jvm.ClassFile.FieldType.int)) ∈ zBG := zin_2 (List.mem_of_getElem? (i := 209) rfl) rfl
theorem zt_2_210 : (Jvm.Cond.methodLink "Flaghall" (140 : Nat) ({ cls := "Flaghall", name := "needRoomInBook", desc := "()V" } : Jvm.MethodName)) ∈ zBG := zin_2 (List.mem_of_getElem? (i := 210) rfl) rfl
theorem zt_2_212 : (Jvm.Cond.instanceMethod ({ cls := "Flaghall", name := "needRoomInBook", desc := "()V" } : Jvm.MethodName)) ∈ zBG := zin_2 (List.mem_of_getElem? (i := 212) rfl) rfl
theorem zt_2_213 : (Jvm.Cond.code ({ cls := "Flaghall", name := "needRoomInBook", desc := "()V" } : Jvm.MethodName) prog_1_method_29_code (1 : Nat) (Option.none : Option Jvm.ClassFile.FieldType)) ∈ zBG := zin_2 (List.mem_of_getElem? (i := 213) rfl) rfl
theorem zt_2_215 : (Jvm.Cond.fieldLink "Flaghall" (143 : Nat) "Flaghall$Kind" "NOTICE" "LFlaghall$Kind;") ∈ zBG := zin_2 (List.mem_of_getElem? (i := 215) rfl) rfl
theorem zt_2_218 : (Jvm.Cond.instanceMethod ({ cls := "Flaghall$Book", name := "enter", desc := "(LFlaghall$Kind;IIJ)LFlaghall$Paper;" } : Jvm.MethodName)) ∈ zBG := zin_2 (List.mem_of_getElem? (i := 218) rfl) rfl
theorem zt_2_219 : (Jvm.Cond.code ({ cls := "Flaghall$Book", name := "enter", desc := "(LFlaghall$Kind;IIJ)LFlaghall$Paper;" } : Jvm.MethodName) prog_2_method_2_code (7 : Nat) (Option.some (Jvm.ClassFile.FieldType.object "Flaghall$Paper"))) ∈ zBG := zin_2 (List.mem_of_getElem? (i := 219) rfl) rfl
theorem zt_2_220 : (Jvm.Cond.methodLink "FlaghallLaw" (131 : Nat) ({ cls := "FlaghallLaw", name := "mortgage", desc := "(LFlaghall;III[J)I" } : Jvm.MethodName)) ∈ zBG := zin_2 (List.mem_of_getElem? (i := 220) rfl) rfl
theorem zt_2_221 : (Jvm.Cond.static ({ cls := "FlaghallLaw", name := "mortgage", desc := "(LFlaghall;III[J)I" } : Jvm.MethodName)) ∈ zBG := zin_2 (List.mem_of_getElem? (i := 221) rfl) rfl
theorem zt_2_222 : (Jvm.Cond.codeWith ({ cls := "FlaghallLaw", name := "mortgage", desc := "(LFlaghall;III[J)I" } : Jvm.MethodName) method_12_code (6 : Nat) (Option.some Jvm.ClassFile.FieldType.int) [((0 : Nat), (12 : Nat), (15 : Nat), (21 : Nat)), ((0 : Nat), (12 : Nat), (19 : Nat), (13 : Nat)), ((0 : Nat), (12 : Nat), (23 : Nat), (15 : Nat))]) ∈ zBG := zin_2 (List.mem_of_getElem? (i := 222) rfl) rfl
theorem zt_2_223 : (Jvm.Cond.methodLink "FlaghallLaw" (48 : Nat) ({ cls := "Flaghall", name := "mortgage", desc := "(III)I" } : Jvm.MethodName)) ∈ zBG := zin_2 (List.mem_of_getElem? (i := 223) rfl) rfl
theorem zt_2_224 : (Jvm.Cond.instanceMethod ({ cls := "Flaghall", name := "mortgage", desc := "(III)I" } : Jvm.MethodName)) ∈ zBG := zin_2 (List.mem_of_getElem? (i := 224) rfl) rfl
theorem zt_2_225 : (Jvm.Cond.selects "Flaghall" ({ cls := "Flaghall", name := "mortgage", desc := "(III)I" } : Jvm.MethodName) ({ cls := "Flaghall", name := "mortgage", desc := "(III)I" } : Jvm.MethodName)) ∈ zBG := zin_2 (List.mem_of_getElem? (i := 225) rfl) rfl
theorem zt_2_226 : (Jvm.Cond.code ({ cls := "Flaghall", name := "mortgage", desc := "(III)I" } : Jvm.MethodName) prog_1_method_11_code (4 : Nat) (Option.some Jvm.ClassFile.FieldType.int)) ∈ zBG := zin_2 (List.mem_of_getElem? (i := 226) rfl) rfl
theorem zt_2_227 : (Jvm.Cond.constant "Flaghall" (156 : Nat) (1000000000 : Int32)) ∈ zBG := zin_2 (List.mem_of_getElem? (i := 227) rfl) rfl
theorem zt_2_230 : (Jvm.Cond.instanceMethod ({ cls := "Flaghall$Book", name := "enterMortgage", desc := "(IIIJ)I" } : Jvm.MethodName)) ∈ zBG := zin_2 (List.mem_of_getElem? (i := 230) rfl) rfl
theorem zt_2_231 : (Jvm.Cond.code ({ cls := "Flaghall$Book", name := "enterMortgage", desc := "(IIIJ)I" } : Jvm.MethodName) prog_2_method_3_code (8 : Nat) (Option.some Jvm.ClassFile.FieldType.int)) ∈ zBG := zin_2 (List.mem_of_getElem? (i := 231) rfl) rfl
theorem zt_2_232 : (Jvm.Cond.methodLink "Flaghall$Book" (55 : Nat) ({ cls := "Flaghall$Book", name := "takePlace", desc := "(IIJ)I" } : Jvm.MethodName)) ∈ zBG := zin_2 (List.mem_of_getElem? (i := 232) rfl) rfl
theorem zt_2_234 : (Jvm.Cond.instanceMethod ({ cls := "Flaghall$Book", name := "takePlace", desc := "(IIJ)I" } : Jvm.MethodName)) ∈ zBG := zin_2 (List.mem_of_getElem? (i := 234) rfl) rfl
theorem zt_2_235 : (Jvm.Cond.code ({ cls := "Flaghall$Book", name := "takePlace", desc := "(IIJ)I" } : Jvm.MethodName) prog_2_method_5_code (6 : Nat) (Option.some Jvm.ClassFile.FieldType.int)) ∈ zBG := zin_2 (List.mem_of_getElem? (i := 235) rfl) rfl
theorem zt_2_236 : (Jvm.Cond.methodLink "Flaghall$Book" (84 : Nat) ({ cls := "Flaghall$Book", name := "firstOpenRow", desc := "(I)I" } : Jvm.MethodName)) ∈ zBG := zin_2 (List.mem_of_getElem? (i := 236) rfl) rfl
theorem zt_2_238 : (Jvm.Cond.instanceMethod ({ cls := "Flaghall$Book", name := "firstOpenRow", desc := "(I)I" } : Jvm.MethodName)) ∈ zBG := zin_2 (List.mem_of_getElem? (i := 238) rfl) rfl
theorem zt_2_239 : (Jvm.Cond.code ({ cls := "Flaghall$Book", name := "firstOpenRow", desc := "(I)I" } : Jvm.MethodName) prog_2_method_6_code (3 : Nat) (Option.some Jvm.ClassFile.FieldType.int)) ∈ zBG := zin_2 (List.mem_of_getElem? (i := 239) rfl) rfl
theorem zt_3_0 : (Jvm.Cond.fieldLink "Flaghall$Book" (96 : Nat) "Flaghall$Kind" "COURT" "LFlaghall$Kind;") ∈ zBG := zin_3 (List.mem_of_getElem? (i := 0) rfl) rfl
theorem zt_3_4 : (Jvm.Cond.instanceMethod ({ cls := "Flaghall$Paper", name := "holdsPlaceFor", desc := "(IIJ)Z" } : Jvm.MethodName)) ∈ zBG := zin_3 (List.mem_of_getElem? (i := 4) rfl) rfl
theorem zt_3_5 : (Jvm.Cond.code ({ cls := "Flaghall$Paper", name := "holdsPlaceFor", desc := "(IIJ)Z" } : Jvm.MethodName) prog_5_method_3_code (5 : Nat) (Option.some Jvm.ClassFile.FieldType.boolean)) ∈ zBG := zin_3 (List.mem_of_getElem? (i := 5) rfl) rfl
theorem zt_3_6 : (Jvm.Cond.constantLong "Flaghall$Paper" (49 : Nat) (20160 : Int64)) ∈ zBG := zin_3 (List.mem_of_getElem? (i := 6) rfl) rfl
theorem zt_3_7 : (Jvm.Cond.fieldLink "Flaghall$Book" (65 : Nat) "Flaghall$Kind" "MORTGAGE" "LFlaghall$Kind;") ∈ zBG := zin_3 (List.mem_of_getElem? (i := 7) rfl) rfl
theorem zt_3_9 : (Jvm.Cond.methodLink "Flaghall$Book" (70 : Nat) ({ cls := "Flaghall$Book", name := "enter", desc := "(LFlaghall$Kind;IIJ)LFlaghall$Paper;" } : Jvm.MethodName)) ∈ zBG := zin_3 (List.mem_of_getElem? (i := 9) rfl) rfl
theorem zt_3_10 : (Jvm.Cond.methodLink "FlaghallLaw" (134 : Nat) ({ cls := "FlaghallLaw", name := "discharge", desc := "(LFlaghall;IZ)I" } : Jvm.MethodName)) ∈ zBG := zin_3 (List.mem_of_getElem? (i := 10) rfl) rfl
theorem zt_3_11 : (Jvm.Cond.static ({ cls := "FlaghallLaw", name := "discharge", desc := "(LFlaghall;IZ)I" } : Jvm.MethodName)) ∈ zBG := zin_3 (List.mem_of_getElem? (i := 11) rfl) rfl
theorem zt_3_12 : (Jvm.Cond.codeWith ({ cls := "FlaghallLaw", name := "discharge", desc := "(LFlaghall;IZ)I" } : Jvm.MethodName) method_13_code (4 : Nat) (Option.some Jvm.ClassFile.FieldType.int) [((0 : Nat), (6 : Nat), (9 : Nat), (21 : Nat)), ((0 : Nat), (6 : Nat), (12 : Nat), (15 : Nat))]) ∈ zBG := zin_3 (List.mem_of_getElem? (i := 12) rfl) rfl
theorem zt_3_13 : (Jvm.Cond.methodLink "FlaghallLaw" (51 : Nat) ({ cls := "Flaghall", name := "discharge", desc := "(IZ)V" } : Jvm.MethodName)) ∈ zBG := zin_3 (List.mem_of_getElem? (i := 13) rfl) rfl
theorem zt_3_14 : (Jvm.Cond.instanceMethod ({ cls := "Flaghall", name := "discharge", desc := "(IZ)V" } : Jvm.MethodName)) ∈ zBG := zin_3 (List.mem_of_getElem? (i := 14) rfl) rfl
theorem zt_3_15 : (Jvm.Cond.selects "Flaghall" ({ cls := "Flaghall", name := "discharge", desc := "(IZ)V" } : Jvm.MethodName) ({ cls := "Flaghall", name := "discharge", desc := "(IZ)V" } : Jvm.MethodName)) ∈ zBG := zin_3 (List.mem_of_getElem? (i := 15) rfl) rfl
theorem zt_3_16 : (Jvm.Cond.code ({ cls := "Flaghall", name := "discharge", desc := "(IZ)V" } : Jvm.MethodName) prog_1_method_12_code (4 : Nat) (Option.none : Option Jvm.ClassFile.FieldType)) ∈ zBG := zin_3 (List.mem_of_getElem? (i := 16) rfl) rfl
theorem zt_3_17 : (Jvm.Cond.methodLink "Flaghall" (161 : Nat) ({ cls := "Flaghall", name := "needMortgage", desc := "(I)V" } : Jvm.MethodName)) ∈ zBG := zin_3 (List.mem_of_getElem? (i := 17) rfl) rfl
theorem zt_3_19 : (Jvm.Cond.instanceMethod ({ cls := "Flaghall", name := "needMortgage", desc := "(I)V" } : Jvm.MethodName)) ∈ zBG := zin_3 (List.mem_of_getElem? (i := 19) rfl) rfl
theorem zt_3_20 : (Jvm.Cond.code ({ cls := "Flaghall", name := "needMortgage", desc := "(I)V" } : Jvm.MethodName) prog_1_method_26_code (2 : Nat) (Option.none : Option Jvm.ClassFile.FieldType)) ∈ zBG := zin_3 (List.mem_of_getElem? (i := 20) rfl) rfl
theorem zt_3_24 : (Jvm.Cond.instanceMethod ({ cls := "Flaghall$Book", name := "rankOf", desc := "(IJ)I" } : Jvm.MethodName)) ∈ zBG := zin_3 (List.mem_of_getElem? (i := 24) rfl) rfl
theorem zt_3_25 : (Jvm.Cond.code ({ cls := "Flaghall$Book", name := "rankOf", desc := "(IJ)I" } : Jvm.MethodName) prog_2_method_10_code (6 : Nat) (Option.some Jvm.ClassFile.FieldType.int)) ∈ zBG := zin_3 (List.mem_of_getElem? (i := 25) rfl) rfl
theorem zt_3_26 : (Jvm.Cond.methodLink "Flaghall$Book" (109 : Nat) ({ cls := "Flaghall$Book", name := "readUpTo", desc := "(IJ)V" } : Jvm.MethodName)) ∈ zBG := zin_3 (List.mem_of_getElem? (i := 26) rfl) rfl
theorem zt_3_28 : (Jvm.Cond.instanceMethod ({ cls := "Flaghall$Book", name := "readUpTo", desc := "(IJ)V" } : Jvm.MethodName)) ∈ zBG := zin_3 (List.mem_of_getElem? (i := 28) rfl) rfl
theorem zt_3_29 : (Jvm.Cond.code ({ cls := "Flaghall$Book", name := "readUpTo", desc := "(IJ)V" } : Jvm.MethodName) prog_2_method_8_code (5 : Nat) (Option.none : Option Jvm.ClassFile.FieldType)) ∈ zBG := zin_3 (List.mem_of_getElem? (i := 29) rfl) rfl
theorem zt_3_30 : (Jvm.Cond.methodLink "Flaghall$Book" (99 : Nat) ({ cls := "java/util/Arrays", name := "fill", desc := "([II)V" } : Jvm.MethodName)) ∈ zBG := zin_3 (List.mem_of_getElem? (i := 30) rfl) rfl
theorem zt_3_31 : (Jvm.Cond.methodLink "Flaghall$Book" (105 : Nat) ({ cls := "Flaghall$Book", name := "read", desc := "(LFlaghall$Paper;)V" } : Jvm.MethodName)) ∈ zBG := zin_3 (List.mem_of_getElem? (i := 31) rfl) rfl
theorem zt_3_33 : (Jvm.Cond.instanceMethod ({ cls := "Flaghall$Book", name := "read", desc := "(LFlaghall$Paper;)V" } : Jvm.MethodName)) ∈ zBG := zin_3 (List.mem_of_getElem? (i := 33) rfl) rfl
theorem zt_3_34 : (Jvm.Cond.code ({ cls := "Flaghall$Book", name := "read", desc := "(LFlaghall$Paper;)V" } : Jvm.MethodName) prog_2_method_9_code (3 : Nat) (Option.none : Option Jvm.ClassFile.FieldType)) ∈ zBG := zin_3 (List.mem_of_getElem? (i := 34) rfl) rfl
theorem zt_3_35 : (Jvm.Cond.fieldLink "Flaghall$Book" (78 : Nat) "Flaghall$Kind" "DISCHARGE" "LFlaghall$Kind;") ∈ zBG := zin_3 (List.mem_of_getElem? (i := 35) rfl) rfl
theorem zt_3_39 : (Jvm.Cond.instanceMethod ({ cls := "Flaghall$Book", name := "isOver", desc := "(I)Z" } : Jvm.MethodName)) ∈ zBG := zin_3 (List.mem_of_getElem? (i := 39) rfl) rfl
theorem zt_3_40 : (Jvm.Cond.code ({ cls := "Flaghall$Book", name := "isOver", desc := "(I)Z" } : Jvm.MethodName) prog_2_method_7_code (3 : Nat) (Option.some Jvm.ClassFile.FieldType.boolean)) ∈ zBG := zin_3 (List.mem_of_getElem? (i := 40) rfl) rfl
theorem zt_3_44 : (Jvm.Cond.instanceMethod ({ cls := "Flaghall$Book", name := "enterDischarge", desc := "(IZJ)V" } : Jvm.MethodName)) ∈ zBG := zin_3 (List.mem_of_getElem? (i := 44) rfl) rfl
theorem zt_3_45 : (Jvm.Cond.code ({ cls := "Flaghall$Book", name := "enterDischarge", desc := "(IZJ)V" } : Jvm.MethodName) prog_2_method_4_code (7 : Nat) (Option.none : Option Jvm.ClassFile.FieldType)) ∈ zBG := zin_3 (List.mem_of_getElem? (i := 45) rfl) rfl
theorem zt_3_46 : (Jvm.Cond.fieldLink "Flaghall$Book" (81 : Nat) "Flaghall$Kind" "RESTORING" "LFlaghall$Kind;") ∈ zBG := zin_3 (List.mem_of_getElem? (i := 46) rfl) rfl
theorem zt_3_48 : (Jvm.Cond.methodLink "FlaghallLaw" (138 : Nat) ({ cls := "FlaghallLaw", name := "lien", desc := "(LFlaghall;IIII[J)I" } : Jvm.MethodName)) ∈ zBG := zin_3 (List.mem_of_getElem? (i := 48) rfl) rfl
theorem zt_3_49 : (Jvm.Cond.static ({ cls := "FlaghallLaw", name := "lien", desc := "(LFlaghall;IIII[J)I" } : Jvm.MethodName)) ∈ zBG := zin_3 (List.mem_of_getElem? (i := 49) rfl) rfl
theorem zt_3_50 : (Jvm.Cond.codeWith ({ cls := "FlaghallLaw", name := "lien", desc := "(LFlaghall;IIII[J)I" } : Jvm.MethodName) method_14_code (7 : Nat) (Option.some Jvm.ClassFile.FieldType.int) [((0 : Nat), (14 : Nat), (17 : Nat), (21 : Nat)), ((0 : Nat), (14 : Nat), (21 : Nat), (13 : Nat)), ((0 : Nat), (14 : Nat), (25 : Nat), (15 : Nat))]) ∈ zBG := zin_3 (List.mem_of_getElem? (i := 50) rfl) rfl
theorem zt_3_51 : (Jvm.Cond.methodLink "FlaghallLaw" (55 : Nat) ({ cls := "Flaghall", name := "lien", desc := "(IIII)I" } : Jvm.MethodName)) ∈ zBG := zin_3 (List.mem_of_getElem? (i := 51) rfl) rfl
theorem zt_3_52 : (Jvm.Cond.instanceMethod ({ cls := "Flaghall", name := "lien", desc := "(IIII)I" } : Jvm.MethodName)) ∈ zBG := zin_3 (List.mem_of_getElem? (i := 52) rfl) rfl
theorem zt_3_53 : (Jvm.Cond.selects "Flaghall" ({ cls := "Flaghall", name := "lien", desc := "(IIII)I" } : Jvm.MethodName) ({ cls := "Flaghall", name := "lien", desc := "(IIII)I" } : Jvm.MethodName)) ∈ zBG := zin_3 (List.mem_of_getElem? (i := 53) rfl) rfl
theorem zt_3_54 : (Jvm.Cond.code ({ cls := "Flaghall", name := "lien", desc := "(IIII)I" } : Jvm.MethodName) prog_1_method_13_code (6 : Nat) (Option.some Jvm.ClassFile.FieldType.int)) ∈ zBG := zin_3 (List.mem_of_getElem? (i := 54) rfl) rfl
theorem zt_3_55 : (Jvm.Cond.fieldLink "Flaghall" (178 : Nat) "Flaghall$Kind" "LIEN" "LFlaghall$Kind;") ∈ zBG := zin_3 (List.mem_of_getElem? (i := 55) rfl) rfl
theorem zt_3_57 : (Jvm.Cond.methodLink "FlaghallLaw" (141 : Nat) ({ cls := "FlaghallLaw", name := "court", desc := "(LFlaghall;III[J)I" } : Jvm.MethodName)) ∈ zBG := zin_3 (List.mem_of_getElem? (i := 57) rfl) rfl
theorem zt_3_58 : (Jvm.Cond.static ({ cls := "FlaghallLaw", name := "court", desc := "(LFlaghall;III[J)I" } : Jvm.MethodName)) ∈ zBG := zin_3 (List.mem_of_getElem? (i := 58) rfl) rfl
theorem zt_3_59 : (Jvm.Cond.codeWith ({ cls := "FlaghallLaw", name := "court", desc := "(LFlaghall;III[J)I" } : Jvm.MethodName) method_15_code (6 : Nat) (Option.some Jvm.ClassFile.FieldType.int) [((0 : Nat), (11 : Nat), (14 : Nat), (21 : Nat)), ((0 : Nat), (11 : Nat), (18 : Nat), (13 : Nat)), ((0 : Nat), (11 : Nat), (22 : Nat), (15 : Nat))]) ∈ zBG := zin_3 (List.mem_of_getElem? (i := 59) rfl) rfl
theorem zt_3_60 : (Jvm.Cond.methodLink "FlaghallLaw" (58 : Nat) ({ cls := "Flaghall", name := "court", desc := "(III)J" } : Jvm.MethodName)) ∈ zBG := zin_3 (List.mem_of_getElem? (i := 60) rfl) rfl
theorem zt_3_61 : (Jvm.Cond.instanceMethod ({ cls := "Flaghall", name := "court", desc := "(III)J" } : Jvm.MethodName)) ∈ zBG := zin_3 (List.mem_of_getElem? (i := 61) rfl) rfl
theorem zt_3_62 : (Jvm.Cond.selects "Flaghall" ({ cls := "Flaghall", name := "court", desc := "(III)J" } : Jvm.MethodName) ({ cls := "Flaghall", name := "court", desc := "(III)J" } : Jvm.MethodName)) ∈ zBG := zin_3 (List.mem_of_getElem? (i := 62) rfl) rfl
theorem zt_3_63 : (Jvm.Cond.code ({ cls := "Flaghall", name := "court", desc := "(III)J" } : Jvm.MethodName) prog_1_method_14_code (6 : Nat) (Option.some Jvm.ClassFile.FieldType.long)) ∈ zBG := zin_3 (List.mem_of_getElem? (i := 63) rfl) rfl
theorem zt_3_64 : (Jvm.Cond.constant "Flaghall" (189 : Nat) (2000000000 : Int32)) ∈ zBG := zin_3 (List.mem_of_getElem? (i := 64) rfl) rfl
theorem zt_3_65 : (Jvm.Cond.methodLink "Flaghall" (190 : Nat) ({ cls := "Flaghall", name := "payLiens", desc := "(IJ)J" } : Jvm.MethodName)) ∈ zBG := zin_3 (List.mem_of_getElem? (i := 65) rfl) rfl
theorem zt_3_67 : (Jvm.Cond.instanceMethod ({ cls := "Flaghall", name := "payLiens", desc := "(IJ)J" } : Jvm.MethodName)) ∈ zBG := zin_3 (List.mem_of_getElem? (i := 67) rfl) rfl
theorem zt_3_68 : (Jvm.Cond.code ({ cls := "Flaghall", name := "payLiens", desc := "(IJ)J" } : Jvm.MethodName) prog_1_method_34_code (10 : Nat) (Option.some Jvm.ClassFile.FieldType.long)) ∈ zBG := zin_3 (List.mem_of_getElem? (i := 68) rfl) rfl
theorem zt_3_72 : (Jvm.Cond.instanceMethod ({ cls := "Flaghall$Paper", name := "isLienOn", desc := "(IJ)Z" } : Jvm.MethodName)) ∈ zBG := zin_3 (List.mem_of_getElem? (i := 72) rfl) rfl
theorem zt_3_73 : (Jvm.Cond.code ({ cls := "Flaghall$Paper", name := "isLienOn", desc := "(IJ)Z" } : Jvm.MethodName) prog_5_method_2_code (4 : Nat) (Option.some Jvm.ClassFile.FieldType.boolean)) ∈ zBG := zin_3 (List.mem_of_getElem? (i := 73) rfl) rfl
theorem zt_3_74 : (Jvm.Cond.fieldLink "Flaghall$Paper" (36 : Nat) "Flaghall$Kind" "LIEN" "LFlaghall$Kind;") ∈ zBG := zin_3 (List.mem_of_getElem? (i := 74) rfl) rfl
theorem zt_3_75 : (Jvm.Cond.constantLong "Flaghall$Paper" (43 : Nat) (525600 : Int64)) ∈ zBG := zin_3 (List.mem_of_getElem? (i := 75) rfl) rfl
theorem zt_3_76 : (Jvm.Cond.methodLink "Flaghall" (272 : Nat) ({ cls := "java/lang/Math", name := "min", desc := "(JJ)J" } : Jvm.MethodName)) ∈ zBG := zin_3 (List.mem_of_getElem? (i := 76) rfl) rfl
theorem zt_3_77 : (Jvm.Cond.static ({ cls := "java/lang/Math", name := "min", desc := "(JJ)J" } : Jvm.MethodName)) ∈ zBG := zin_3 (List.mem_of_getElem? (i := 77) rfl) rfl
theorem zt_3_78 : (Jvm.Cond.code ({ cls := "java/lang/Math", name := "min", desc := "(JJ)J" } : Jvm.MethodName) prog_15_method_70_code (4 : Nat) (Option.some Jvm.ClassFile.FieldType.long)) ∈ zBG := zin_3 (List.mem_of_getElem? (i := 78) rfl) rfl
theorem zt_3_79 : (Jvm.Cond.methodLink "Flaghall" (278 : Nat) ({ cls := "Flaghall", name := "pay", desc := "(IJ)J" } : Jvm.MethodName)) ∈ zBG := zin_3 (List.mem_of_getElem? (i := 79) rfl) rfl
theorem zt_3_81 : (Jvm.Cond.instanceMethod ({ cls := "Flaghall", name := "pay", desc := "(IJ)J" } : Jvm.MethodName)) ∈ zBG := zin_3 (List.mem_of_getElem? (i := 81) rfl) rfl
theorem zt_3_82 : (Jvm.Cond.code ({ cls := "Flaghall", name := "pay", desc := "(IJ)J" } : Jvm.MethodName) prog_1_method_37_code (4 : Nat) (Option.some Jvm.ClassFile.FieldType.long)) ∈ zBG := zin_3 (List.mem_of_getElem? (i := 82) rfl) rfl
theorem zt_3_83 : (Jvm.Cond.methodLink "Flaghall" (194 : Nat) ({ cls := "Flaghall", name := "payMortgages", desc := "(IJ)J" } : Jvm.MethodName)) ∈ zBG := zin_3 (List.mem_of_getElem? (i := 83) rfl) rfl
theorem zt_3_85 : (Jvm.Cond.instanceMethod ({ cls := "Flaghall", name := "payMortgages", desc := "(IJ)J" } : Jvm.MethodName)) ∈ zBG := zin_3 (List.mem_of_getElem? (i := 85) rfl) rfl
theorem zt_3_86 : (Jvm.Cond.code ({ cls := "Flaghall", name := "payMortgages", desc := "(IJ)J" } : Jvm.MethodName) prog_1_method_35_code (9 : Nat) (Option.some Jvm.ClassFile.FieldType.long)) ∈ zBG := zin_3 (List.mem_of_getElem? (i := 86) rfl) rfl
theorem zt_3_88 : (Jvm.Cond.methodLink "Flaghall" (197 : Nat) ({ cls := "Flaghall", name := "payOwners", desc := "(LFlaghall$Ship;J)J" } : Jvm.MethodName)) ∈ zBG := zin_3 (List.mem_of_getElem? (i := 88) rfl) rfl
theorem zt_3_90 : (Jvm.Cond.instanceMethod ({ cls := "Flaghall", name := "payOwners", desc := "(LFlaghall$Ship;J)J" } : Jvm.MethodName)) ∈ zBG := zin_3 (List.mem_of_getElem? (i := 90) rfl) rfl
theorem zt_3_91 : (Jvm.Cond.code ({ cls := "Flaghall", name := "payOwners", desc := "(LFlaghall$Ship;J)J" } : Jvm.MethodName) prog_1_method_36_code (7 : Nat) (Option.some Jvm.ClassFile.FieldType.long)) ∈ zBG := zin_3 (List.mem_of_getElem? (i := 91) rfl) rfl
theorem zt_3_92 : (Jvm.Cond.constantLong "Flaghall" (296 : Nat) (64 : Int64)) ∈ zBG := zin_3 (List.mem_of_getElem? (i := 92) rfl) rfl
theorem zt_3_93 : (Jvm.Cond.fieldLink "Flaghall" (201 : Nat) "Flaghall$Kind" "COURT" "LFlaghall$Kind;") ∈ zBG := zin_3 (List.mem_of_getElem? (i := 93) rfl) rfl
theorem zt_3_94 : (Jvm.Cond.methodLink "FlaghallLaw" (144 : Nat) ({ cls := "FlaghallLaw", name := "pass", desc := "(LFlaghall;I[J)I" } : Jvm.MethodName)) ∈ zBG := zin_3 (List.mem_of_getElem? (i := 94) rfl) rfl
theorem zt_3_95 : (Jvm.Cond.static ({ cls := "FlaghallLaw", name := "pass", desc := "(LFlaghall;I[J)I" } : Jvm.MethodName)) ∈ zBG := zin_3 (List.mem_of_getElem? (i := 95) rfl) rfl
theorem zt_3_96 : (Jvm.Cond.codeWith ({ cls := "FlaghallLaw", name := "pass", desc := "(LFlaghall;I[J)I" } : Jvm.MethodName) method_16_code (4 : Nat) (Option.some Jvm.ClassFile.FieldType.int) [((0 : Nat), (8 : Nat), (11 : Nat), (13 : Nat))]) ∈ zBG := zin_3 (List.mem_of_getElem? (i := 96) rfl) rfl
theorem zt_3_97 : (Jvm.Cond.methodLink "FlaghallLaw" (62 : Nat) ({ cls := "Flaghall", name := "pass", desc := "(I)J" } : Jvm.MethodName)) ∈ zBG := zin_3 (List.mem_of_getElem? (i := 97) rfl) rfl
theorem zt_3_98 : (Jvm.Cond.instanceMethod ({ cls := "Flaghall", name := "pass", desc := "(I)J" } : Jvm.MethodName)) ∈ zBG := zin_3 (List.mem_of_getElem? (i := 98) rfl) rfl
theorem zt_3_99 : (Jvm.Cond.selects "Flaghall" ({ cls := "Flaghall", name := "pass", desc := "(I)J" } : Jvm.MethodName) ({ cls := "Flaghall", name := "pass", desc := "(I)J" } : Jvm.MethodName)) ∈ zBG := zin_3 (List.mem_of_getElem? (i := 99) rfl) rfl
theorem zt_3_100 : (Jvm.Cond.code ({ cls := "Flaghall", name := "pass", desc := "(I)J" } : Jvm.MethodName) prog_1_method_15_code (2 : Nat) (Option.some Jvm.ClassFile.FieldType.long)) ∈ zBG := zin_3 (List.mem_of_getElem? (i := 100) rfl) rfl
theorem zt_3_101 : (Jvm.Cond.constant "Flaghall" (204 : Nat) (1000000 : Int32)) ∈ zBG := zin_3 (List.mem_of_getElem? (i := 101) rfl) rfl
theorem zt_3_102 : (Jvm.Cond.methodLink "FlaghallLaw" (147 : Nat) ({ cls := "FlaghallLaw", name := "share", desc := "(LFlaghall;II[J)I" } : Jvm.MethodName)) ∈ zBG := zin_3 (List.mem_of_getElem? (i := 102) rfl) rfl
theorem zt_3_103 : (Jvm.Cond.static ({ cls := "FlaghallLaw", name := "share", desc := "(LFlaghall;II[J)I" } : Jvm.MethodName)) ∈ zBG := zin_3 (List.mem_of_getElem? (i := 103) rfl) rfl
theorem zt_3_104 : (Jvm.Cond.codeWith ({ cls := "FlaghallLaw", name := "share", desc := "(LFlaghall;II[J)I" } : Jvm.MethodName) method_17_code (5 : Nat) (Option.some Jvm.ClassFile.FieldType.int) [((0 : Nat), (10 : Nat), (13 : Nat), (21 : Nat))]) ∈ zBG := zin_3 (List.mem_of_getElem? (i := 104) rfl) rfl
theorem zt_3_105 : (Jvm.Cond.methodLink "FlaghallLaw" (66 : Nat) ({ cls := "Flaghall", name := "share", desc := "(II)I" } : Jvm.MethodName)) ∈ zBG := zin_3 (List.mem_of_getElem? (i := 105) rfl) rfl
theorem zt_3_106 : (Jvm.Cond.instanceMethod ({ cls := "Flaghall", name := "share", desc := "(II)I" } : Jvm.MethodName)) ∈ zBG := zin_3 (List.mem_of_getElem? (i := 106) rfl) rfl
theorem zt_3_107 : (Jvm.Cond.selects "Flaghall" ({ cls := "Flaghall", name := "share", desc := "(II)I" } : Jvm.MethodName) ({ cls := "Flaghall", name := "share", desc := "(II)I" } : Jvm.MethodName)) ∈ zBG := zin_3 (List.mem_of_getElem? (i := 107) rfl) rfl
theorem zt_3_108 : (Jvm.Cond.code ({ cls := "Flaghall", name := "share", desc := "(II)I" } : Jvm.MethodName) prog_1_method_16_code (3 : Nat) (Option.some Jvm.ClassFile.FieldType.int)) ∈ zBG := zin_3 (List.mem_of_getElem? (i := 108) rfl) rfl
theorem zt_3_109 : (Jvm.Cond.methodLink "FlaghallLaw" (150 : Nat) ({ cls := "FlaghallLaw", name := "sound", desc := "(LFlaghall;II[J)I" } : Jvm.MethodName)) ∈ zBG := zin_3 (List.mem_of_getElem? (i := 109) rfl) rfl
theorem zt_3_110 : (Jvm.Cond.static ({ cls := "FlaghallLaw", name := "sound", desc := "(LFlaghall;II[J)I" } : Jvm.MethodName)) ∈ zBG := zin_3 (List.mem_of_getElem? (i := 110) rfl) rfl
theorem zt_3_111 : (Jvm.Cond.codeWith ({ cls := "FlaghallLaw", name := "sound", desc := "(LFlaghall;II[J)I" } : Jvm.MethodName) method_18_code (5 : Nat) (Option.some Jvm.ClassFile.FieldType.int) [((0 : Nat), (10 : Nat), (13 : Nat), (21 : Nat))]) ∈ zBG := zin_3 (List.mem_of_getElem? (i := 111) rfl) rfl
theorem zt_3_112 : (Jvm.Cond.methodLink "FlaghallLaw" (69 : Nat) ({ cls := "Flaghall", name := "sound", desc := "(II)C" } : Jvm.MethodName)) ∈ zBG := zin_3 (List.mem_of_getElem? (i := 112) rfl) rfl
theorem zt_3_113 : (Jvm.Cond.instanceMethod ({ cls := "Flaghall", name := "sound", desc := "(II)C" } : Jvm.MethodName)) ∈ zBG := zin_3 (List.mem_of_getElem? (i := 113) rfl) rfl
theorem zt_3_114 : (Jvm.Cond.selects "Flaghall" ({ cls := "Flaghall", name := "sound", desc := "(II)C" } : Jvm.MethodName) ({ cls := "Flaghall", name := "sound", desc := "(II)C" } : Jvm.MethodName)) ∈ zBG := zin_3 (List.mem_of_getElem? (i := 114) rfl) rfl
theorem zt_3_115 : (Jvm.Cond.code ({ cls := "Flaghall", name := "sound", desc := "(II)C" } : Jvm.MethodName) prog_1_method_17_code (4 : Nat) (Option.some Jvm.ClassFile.FieldType.char)) ∈ zBG := zin_3 (List.mem_of_getElem? (i := 115) rfl) rfl
theorem zt_3_116 : (Jvm.Cond.methodLink "Flaghall" (205 : Nat) ({ cls := "Flaghall", name := "needNotNegative", desc := "(I)V" } : Jvm.MethodName)) ∈ zBG := zin_3 (List.mem_of_getElem? (i := 116) rfl) rfl
theorem zt_3_118 : (Jvm.Cond.instanceMethod ({ cls := "Flaghall", name := "needNotNegative", desc := "(I)V" } : Jvm.MethodName)) ∈ zBG := zin_3 (List.mem_of_getElem? (i := 118) rfl) rfl
theorem zt_3_119 : (Jvm.Cond.code ({ cls := "Flaghall", name := "needNotNegative", desc := "(I)V" } : Jvm.MethodName) prog_1_method_27_code (2 : Nat) (Option.none : Option Jvm.ClassFile.FieldType)) ∈ zBG := zin_3 (List.mem_of_getElem? (i := 119) rfl) rfl
theorem zt_3_121 : (Jvm.Cond.methodLink "FlaghallLaw" (153 : Nat) ({ cls := "FlaghallLaw", name := "flag", desc := "(LFlaghall;I[J)I" } : Jvm.MethodName)) ∈ zBG := zin_3 (List.mem_of_getElem? (i := 121) rfl) rfl
theorem zt_3_122 : (Jvm.Cond.static ({ cls := "FlaghallLaw", name := "flag", desc := "(LFlaghall;I[J)I" } : Jvm.MethodName)) ∈ zBG := zin_3 (List.mem_of_getElem? (i := 122) rfl) rfl
theorem zt_3_123 : (Jvm.Cond.codeWith ({ cls := "FlaghallLaw", name := "flag", desc := "(LFlaghall;I[J)I" } : Jvm.MethodName) method_19_code (4 : Nat) (Option.some Jvm.ClassFile.FieldType.int) [((0 : Nat), (9 : Nat), (12 : Nat), (21 : Nat))]) ∈ zBG := zin_3 (List.mem_of_getElem? (i := 123) rfl) rfl
theorem zt_3_124 : (Jvm.Cond.methodLink "FlaghallLaw" (73 : Nat) ({ cls := "Flaghall", name := "flag", desc := "(I)I" } : Jvm.MethodName)) ∈ zBG := zin_3 (List.mem_of_getElem? (i := 124) rfl) rfl
theorem zt_3_125 : (Jvm.Cond.instanceMethod ({ cls := "Flaghall", name := "flag", desc := "(I)I" } : Jvm.MethodName)) ∈ zBG := zin_3 (List.mem_of_getElem? (i := 125) rfl) rfl
theorem zt_3_126 : (Jvm.Cond.selects "Flaghall" ({ cls := "Flaghall", name := "flag", desc := "(I)I" } : Jvm.MethodName) ({ cls := "Flaghall", name := "flag", desc := "(I)I" } : Jvm.MethodName)) ∈ zBG := zin_3 (List.mem_of_getElem? (i := 126) rfl) rfl
theorem zt_3_127 : (Jvm.Cond.code ({ cls := "Flaghall", name := "flag", desc := "(I)I" } : Jvm.MethodName) prog_1_method_18_code (2 : Nat) (Option.some Jvm.ClassFile.FieldType.int)) ∈ zBG := zin_3 (List.mem_of_getElem? (i := 127) rfl) rfl
theorem zt_3_128 : (Jvm.Cond.methodLink "FlaghallLaw" (156 : Nat) ({ cls := "FlaghallLaw", name := "rank", desc := "(LFlaghall;I[J)I" } : Jvm.MethodName)) ∈ zBG := zin_3 (List.mem_of_getElem? (i := 128) rfl) rfl
theorem zt_3_129 : (Jvm.Cond.static ({ cls := "FlaghallLaw", name := "rank", desc := "(LFlaghall;I[J)I" } : Jvm.MethodName)) ∈ zBG := zin_3 (List.mem_of_getElem? (i := 129) rfl) rfl
theorem zt_3_130 : (Jvm.Cond.codeWith ({ cls := "FlaghallLaw", name := "rank", desc := "(LFlaghall;I[J)I" } : Jvm.MethodName) method_20_code (4 : Nat) (Option.some Jvm.ClassFile.FieldType.int) [((0 : Nat), (9 : Nat), (12 : Nat), (21 : Nat))]) ∈ zBG := zin_3 (List.mem_of_getElem? (i := 130) rfl) rfl
theorem zt_3_131 : (Jvm.Cond.methodLink "FlaghallLaw" (76 : Nat) ({ cls := "Flaghall", name := "rank", desc := "(I)I" } : Jvm.MethodName)) ∈ zBG := zin_3 (List.mem_of_getElem? (i := 131) rfl) rfl
theorem zt_3_132 : (Jvm.Cond.instanceMethod ({ cls := "Flaghall", name := "rank", desc := "(I)I" } : Jvm.MethodName)) ∈ zBG := zin_3 (List.mem_of_getElem? (i := 132) rfl) rfl
theorem zt_3_133 : (Jvm.Cond.selects "Flaghall" ({ cls := "Flaghall", name := "rank", desc := "(I)I" } : Jvm.MethodName) ({ cls := "Flaghall", name := "rank", desc := "(I)I" } : Jvm.MethodName)) ∈ zBG := zin_3 (List.mem_of_getElem? (i := 133) rfl) rfl
theorem zt_3_134 : (Jvm.Cond.code ({ cls := "Flaghall", name := "rank", desc := "(I)I" } : Jvm.MethodName) prog_1_method_19_code (2 : Nat) (Option.some Jvm.ClassFile.FieldType.int)) ∈ zBG := zin_3 (List.mem_of_getElem? (i := 134) rfl) rfl
theorem zt_3_135 : (Jvm.Cond.methodLink "FlaghallLaw" (161 : Nat) ({ cls := "FlaghallLaw", name := "search", desc := "(LFlaghall;IJI[J)I" } : Jvm.MethodName)) ∈ zBG := zin_3 (List.mem_of_getElem? (i := 135) rfl) rfl
theorem zt_3_136 : (Jvm.Cond.static ({ cls := "FlaghallLaw", name := "search", desc := "(LFlaghall;IJI[J)I" } : Jvm.MethodName)) ∈ zBG := zin_3 (List.mem_of_getElem? (i := 136) rfl) rfl
theorem zt_3_137 : (Jvm.Cond.codeWith ({ cls := "FlaghallLaw", name := "search", desc := "(LFlaghall;IJI[J)I" } : Jvm.MethodName) method_21_code (7 : Nat) (Option.some Jvm.ClassFile.FieldType.int) [((0 : Nat), (13 : Nat), (16 : Nat), (21 : Nat)), ((0 : Nat), (13 : Nat), (20 : Nat), (13 : Nat))]) ∈ zBG := zin_3 (List.mem_of_getElem? (i := 137) rfl) rfl
theorem zt_3_138 : (Jvm.Cond.methodLink "FlaghallLaw" (79 : Nat) ({ cls := "Flaghall", name := "search", desc := "(IJI)I" } : Jvm.MethodName)) ∈ zBG := zin_3 (List.mem_of_getElem? (i := 138) rfl) rfl
theorem zt_3_139 : (Jvm.Cond.instanceMethod ({ cls := "Flaghall", name := "search", desc := "(IJI)I" } : Jvm.MethodName)) ∈ zBG := zin_3 (List.mem_of_getElem? (i := 139) rfl) rfl
theorem zt_3_140 : (Jvm.Cond.selects "Flaghall" ({ cls := "Flaghall", name := "search", desc := "(IJI)I" } : Jvm.MethodName) ({ cls := "Flaghall", name := "search", desc := "(IJI)I" } : Jvm.MethodName)) ∈ zBG := zin_3 (List.mem_of_getElem? (i := 140) rfl) rfl
theorem zt_3_141 : (Jvm.Cond.code ({ cls := "Flaghall", name := "search", desc := "(IJI)I" } : Jvm.MethodName) prog_1_method_20_code (5 : Nat) (Option.some Jvm.ClassFile.FieldType.int)) ∈ zBG := zin_3 (List.mem_of_getElem? (i := 141) rfl) rfl
theorem zt_3_145 : (Jvm.Cond.instanceMethod ({ cls := "Flaghall$Book", name := "mortgageOfRank", desc := "(IIJ)I" } : Jvm.MethodName)) ∈ zBG := zin_3 (List.mem_of_getElem? (i := 145) rfl) rfl
theorem zt_3_146 : (Jvm.Cond.code ({ cls := "Flaghall$Book", name := "mortgageOfRank", desc := "(IIJ)I" } : Jvm.MethodName) prog_2_method_11_code (7 : Nat) (Option.some Jvm.ClassFile.FieldType.int)) ∈ zBG := zin_3 (List.mem_of_getElem? (i := 146) rfl) rfl
theorem zt_3_147 : (Jvm.Cond.methodLink "FlaghallLaw" (165 : Nat) ({ cls := "FlaghallLaw", name := "got", desc := "(LFlaghall;I[J)I" } : Jvm.MethodName)) ∈ zBG := zin_3 (List.mem_of_getElem? (i := 147) rfl) rfl
theorem zt_3_148 : (Jvm.Cond.static ({ cls := "FlaghallLaw", name := "got", desc := "(LFlaghall;I[J)I" } : Jvm.MethodName)) ∈ zBG := zin_3 (List.mem_of_getElem? (i := 148) rfl) rfl
theorem zt_3_149 : (Jvm.Cond.codeWith ({ cls := "FlaghallLaw", name := "got", desc := "(LFlaghall;I[J)I" } : Jvm.MethodName) method_22_code (4 : Nat) (Option.some Jvm.ClassFile.FieldType.int) [((0 : Nat), (8 : Nat), (11 : Nat), (21 : Nat))]) ∈ zBG := zin_3 (List.mem_of_getElem? (i := 149) rfl) rfl
theorem zt_3_150 : (Jvm.Cond.methodLink "FlaghallLaw" (83 : Nat) ({ cls := "Flaghall", name := "got", desc := "(I)J" } : Jvm.MethodName)) ∈ zBG := zin_3 (List.mem_of_getElem? (i := 150) rfl) rfl
theorem zt_3_151 : (Jvm.Cond.instanceMethod ({ cls := "Flaghall", name := "got", desc := "(I)J" } : Jvm.MethodName)) ∈ zBG := zin_3 (List.mem_of_getElem? (i := 151) rfl) rfl
theorem zt_3_152 : (Jvm.Cond.selects "Flaghall" ({ cls := "Flaghall", name := "got", desc := "(I)J" } : Jvm.MethodName) ({ cls := "Flaghall", name := "got", desc := "(I)J" } : Jvm.MethodName)) ∈ zBG := zin_3 (List.mem_of_getElem? (i := 152) rfl) rfl
theorem zt_3_153 : (Jvm.Cond.code ({ cls := "Flaghall", name := "got", desc := "(I)J" } : Jvm.MethodName) prog_1_method_21_code (2 : Nat) (Option.some Jvm.ClassFile.FieldType.long)) ∈ zBG := zin_3 (List.mem_of_getElem? (i := 153) rfl) rfl
theorem zt_3_154 : (Jvm.Cond.methodLink "FlaghallLaw" (168 : Nat) ({ cls := "FlaghallLaw", name := "liens", desc := "(LFlaghall;I[J)I" } : Jvm.MethodName)) ∈ zBG := zin_3 (List.mem_of_getElem? (i := 154) rfl) rfl
theorem zt_3_155 : (Jvm.Cond.static ({ cls := "FlaghallLaw", name := "liens", desc := "(LFlaghall;I[J)I" } : Jvm.MethodName)) ∈ zBG := zin_3 (List.mem_of_getElem? (i := 155) rfl) rfl
theorem zt_3_156 : (Jvm.Cond.codeWith ({ cls := "FlaghallLaw", name := "liens", desc := "(LFlaghall;I[J)I" } : Jvm.MethodName) method_23_code (4 : Nat) (Option.some Jvm.ClassFile.FieldType.int) [((0 : Nat), (9 : Nat), (12 : Nat), (21 : Nat))]) ∈ zBG := zin_3 (List.mem_of_getElem? (i := 156) rfl) rfl
theorem zt_3_157 : (Jvm.Cond.methodLink "FlaghallLaw" (86 : Nat) ({ cls := "Flaghall", name := "liens", desc := "(I)I" } : Jvm.MethodName)) ∈ zBG := zin_3 (List.mem_of_getElem? (i := 157) rfl) rfl
theorem zt_3_158 : (Jvm.Cond.instanceMethod ({ cls := "Flaghall", name := "liens", desc := "(I)I" } : Jvm.MethodName)) ∈ zBG := zin_3 (List.mem_of_getElem? (i := 158) rfl) rfl
theorem zt_3_159 : (Jvm.Cond.selects "Flaghall" ({ cls := "Flaghall", name := "liens", desc := "(I)I" } : Jvm.MethodName) ({ cls := "Flaghall", name := "liens", desc := "(I)I" } : Jvm.MethodName)) ∈ zBG := zin_3 (List.mem_of_getElem? (i := 159) rfl) rfl
theorem zt_3_160 : (Jvm.Cond.code ({ cls := "Flaghall", name := "liens", desc := "(I)I" } : Jvm.MethodName) prog_1_method_22_code (4 : Nat) (Option.some Jvm.ClassFile.FieldType.int)) ∈ zBG := zin_3 (List.mem_of_getElem? (i := 160) rfl) rfl
theorem zt_3_161 : (Jvm.Cond.classLink "FlaghallLaw" (90 : Nat) "FlaghallModel") ∈ zBG := zin_3 (List.mem_of_getElem? (i := 161) rfl) rfl
theorem zt_3_162 : (Jvm.Cond.instantiable "FlaghallModel" (31 : Nat)) ∈ zBG := zin_3 (List.mem_of_getElem? (i := 162) rfl) rfl
theorem zt_3_163 : (Jvm.Cond.methodLink "FlaghallLaw" (92 : Nat) ({ cls := "FlaghallModel", name := "<init>", desc := "()V" } : Jvm.MethodName)) ∈ zBG := zin_3 (List.mem_of_getElem? (i := 163) rfl) rfl
theorem zt_3_164 : (Jvm.Cond.instanceMethod ({ cls := "FlaghallModel", name := "<init>", desc := "()V" } : Jvm.MethodName)) ∈ zBG := zin_3 (List.mem_of_getElem? (i := 164) rfl) rfl
theorem zt_3_165 : (Jvm.Cond.code ({ cls := "FlaghallModel", name := "<init>", desc := "()V" } : Jvm.MethodName) prog_9_method_1_code (1 : Nat) (Option.none : Option Jvm.ClassFile.FieldType)) ∈ zBG := zin_3 (List.mem_of_getElem? (i := 165) rfl) rfl
theorem zt_3_166 : (Jvm.Cond.methodLink "FlaghallModel" (3 : Nat) ({ cls := "java/lang/Object", name := "<init>", desc := "()V" } : Jvm.MethodName)) ∈ zBG := zin_3 (List.mem_of_getElem? (i := 166) rfl) rfl
theorem zt_3_167 : (Jvm.Cond.fieldLink "FlaghallModel" (134 : Nat) "FlaghallModel" "now" "J") ∈ zBG := zin_3 (List.mem_of_getElem? (i := 167) rfl) rfl
theorem zt_3_168 : (Jvm.Cond.fieldLink "FlaghallModel" (98 : Nat) "FlaghallModel" "typedMany" "I") ∈ zBG := zin_3 (List.mem_of_getElem? (i := 168) rfl) rfl
theorem zt_3_169 : (Jvm.Cond.fieldLink "FlaghallModel" (9 : Nat) "FlaghallModel" "typed" "[I") ∈ zBG := zin_3 (List.mem_of_getElem? (i := 169) rfl) rfl
theorem zt_3_170 : (Jvm.Cond.fieldLink "FlaghallModel" (89 : Nat) "FlaghallModel" "partyMany" "I") ∈ zBG := zin_3 (List.mem_of_getElem? (i := 170) rfl) rfl
theorem zt_3_171 : (Jvm.Cond.fieldLink "FlaghallModel" (13 : Nat) "FlaghallModel" "lands" "[I") ∈ zBG := zin_3 (List.mem_of_getElem? (i := 171) rfl) rfl
theorem zt_3_172 : (Jvm.Cond.fieldLink "FlaghallModel" (16 : Nat) "FlaghallModel" "parts" "[I") ∈ zBG := zin_3 (List.mem_of_getElem? (i := 172) rfl) rfl
theorem zt_3_173 : (Jvm.Cond.fieldLink "FlaghallModel" (92 : Nat) "FlaghallModel" "shipMany" "I") ∈ zBG := zin_3 (List.mem_of_getElem? (i := 173) rfl) rfl
theorem zt_3_174 : (Jvm.Cond.fieldLink "FlaghallModel" (19 : Nat) "FlaghallModel" "sounds" "[I") ∈ zBG := zin_3 (List.mem_of_getElem? (i := 174) rfl) rfl
theorem zt_3_175 : (Jvm.Cond.fieldLink "FlaghallModel" (22 : Nat) "FlaghallModel" "shares" "[I") ∈ zBG := zin_3 (List.mem_of_getElem? (i := 175) rfl) rfl
theorem zt_3_176 : (Jvm.Cond.fieldLink "FlaghallModel" (25 : Nat) "FlaghallModel" "flags" "[I") ∈ zBG := zin_3 (List.mem_of_getElem? (i := 176) rfl) rfl
theorem zt_3_177 : (Jvm.Cond.fieldLink "FlaghallModel" (28 : Nat) "FlaghallModel" "graces" "[J") ∈ zBG := zin_3 (List.mem_of_getElem? (i := 177) rfl) rfl
theorem zt_3_178 : (Jvm.Cond.fieldLink "FlaghallModel" (146 : Nat) "FlaghallModel" "paperMany" "I") ∈ zBG := zin_3 (List.mem_of_getElem? (i := 178) rfl) rfl
theorem zt_3_179 : (Jvm.Cond.fieldLink "FlaghallModel" (32 : Nat) "FlaghallModel" "kinds" "[I") ∈ zBG := zin_3 (List.mem_of_getElem? (i := 179) rfl) rfl
theorem zt_3_180 : (Jvm.Cond.fieldLink "FlaghallModel" (35 : Nat) "FlaghallModel" "shipOf" "[I") ∈ zBG := zin_3 (List.mem_of_getElem? (i := 180) rfl) rfl
theorem zt_3_181 : (Jvm.Cond.fieldLink "FlaghallModel" (38 : Nat) "FlaghallModel" "partyOf" "[I") ∈ zBG := zin_3 (List.mem_of_getElem? (i := 181) rfl) rfl
theorem zt_3_182 : (Jvm.Cond.fieldLink "FlaghallModel" (41 : Nat) "FlaghallModel" "amounts" "[I") ∈ zBG := zin_3 (List.mem_of_getElem? (i := 182) rfl) rfl
theorem zt_3_183 : (Jvm.Cond.fieldLink "FlaghallModel" (44 : Nat) "FlaghallModel" "classes" "[I") ∈ zBG := zin_3 (List.mem_of_getElem? (i := 183) rfl) rfl
theorem zt_3_184 : (Jvm.Cond.fieldLink "FlaghallModel" (47 : Nat) "FlaghallModel" "minutes" "[J") ∈ zBG := zin_3 (List.mem_of_getElem? (i := 184) rfl) rfl
theorem zt_3_185 : (Jvm.Cond.fieldLink "FlaghallModel" (50 : Nat) "FlaghallModel" "isTaken" "[Z") ∈ zBG := zin_3 (List.mem_of_getElem? (i := 185) rfl) rfl
theorem zt_3_186 : (Jvm.Cond.fieldLink "FlaghallModel" (54 : Nat) "FlaghallModel" "isOver" "[Z") ∈ zBG := zin_3 (List.mem_of_getElem? (i := 186) rfl) rfl
theorem zt_3_187 : (Jvm.Cond.fieldLink "FlaghallModel" (95 : Nat) "FlaghallModel" "mortgageMany" "I") ∈ zBG := zin_3 (List.mem_of_getElem? (i := 187) rfl) rfl
theorem zt_3_188 : (Jvm.Cond.fieldLink "FlaghallModel" (57 : Nat) "FlaghallModel" "papersOf" "[I") ∈ zBG := zin_3 (List.mem_of_getElem? (i := 188) rfl) rfl
theorem zt_3_189 : (Jvm.Cond.fieldLink "FlaghallModel" (60 : Nat) "FlaghallModel" "places" "[I") ∈ zBG := zin_3 (List.mem_of_getElem? (i := 189) rfl) rfl
theorem zt_3_190 : (Jvm.Cond.fieldLink "FlaghallModel" (63 : Nat) "FlaghallModel" "isDischarged" "[Z") ∈ zBG := zin_3 (List.mem_of_getElem? (i := 190) rfl) rfl
theorem zt_3_191 : (Jvm.Cond.fieldLink "FlaghallModel" (66 : Nat) "FlaghallModel" "gains" "[J") ∈ zBG := zin_3 (List.mem_of_getElem? (i := 191) rfl) rfl
theorem zt_3_192 : (Jvm.Cond.fieldLink "FlaghallModel" (81 : Nat) "FlaghallModel" "thrown" "I") ∈ zBG := zin_3 (List.mem_of_getElem? (i := 192) rfl) rfl
theorem zt_3_193 : (Jvm.Cond.fieldLink "FlaghallModel" (69 : Nat) "FlaghallModel" "found" "[I") ∈ zBG := zin_3 (List.mem_of_getElem? (i := 193) rfl) rfl
theorem zt_3_194 : (Jvm.Cond.fieldLink "FlaghallModel" (72 : Nat) "FlaghallModel" "next" "[I") ∈ zBG := zin_3 (List.mem_of_getElem? (i := 194) rfl) rfl
theorem zt_3_195 : (Jvm.Cond.fieldLink "FlaghallModel" (75 : Nat) "FlaghallModel" "heard" "[I") ∈ zBG := zin_3 (List.mem_of_getElem? (i := 195) rfl) rfl
theorem zt_3_196 : (Jvm.Cond.fieldLink "FlaghallModel" (168 : Nat) "FlaghallModel" "left" "J") ∈ zBG := zin_3 (List.mem_of_getElem? (i := 196) rfl) rfl
theorem zt_3_197 : (Jvm.Cond.fieldLink "FlaghallModel" (78 : Nat) "FlaghallModel" "wasThere" "[Z") ∈ zBG := zin_3 (List.mem_of_getElem? (i := 197) rfl) rfl
theorem zt_3_198 : (Jvm.Cond.lays "FlaghallModel" "FlaghallModel" "now" "J") ∈ zBG := zin_3 (List.mem_of_getElem? (i := 198) rfl) rfl
theorem zt_3_199 : (Jvm.Cond.soleField "FlaghallModel" "now") ∈ zBG := zin_3 (List.mem_of_getElem? (i := 199) rfl) rfl
theorem zt_3_200 : (Jvm.Cond.lays "FlaghallModel" "FlaghallModel" "typedMany" "I") ∈ zBG := zin_3 (List.mem_of_getElem? (i := 200) rfl) rfl
theorem zt_3_201 : (Jvm.Cond.soleField "FlaghallModel" "typedMany") ∈ zBG := zin_3 (List.mem_of_getElem? (i := 201) rfl) rfl
theorem zt_3_202 : (Jvm.Cond.laysFinal "FlaghallModel" "FlaghallModel" "typed" "[I") ∈ zBG := zin_3 (List.mem_of_getElem? (i := 202) rfl) rfl
theorem zt_3_203 : (Jvm.Cond.soleField "FlaghallModel" "typed") ∈ zBG := zin_3 (List.mem_of_getElem? (i := 203) rfl) rfl
theorem zt_3_204 : (Jvm.Cond.lays "FlaghallModel" "FlaghallModel" "partyMany" "I") ∈ zBG := zin_3 (List.mem_of_getElem? (i := 204) rfl) rfl
theorem zt_3_205 : (Jvm.Cond.soleField "FlaghallModel" "partyMany") ∈ zBG := zin_3 (List.mem_of_getElem? (i := 205) rfl) rfl
theorem zt_3_206 : (Jvm.Cond.laysFinal "FlaghallModel" "FlaghallModel" "lands" "[I") ∈ zBG := zin_3 (List.mem_of_getElem? (i := 206) rfl) rfl
theorem zt_3_207 : (Jvm.Cond.soleField "FlaghallModel" "lands") ∈ zBG := zin_3 (List.mem_of_getElem? (i := 207) rfl) rfl
theorem zt_3_208 : (Jvm.Cond.laysFinal "FlaghallModel" "FlaghallModel" "parts" "[I") ∈ zBG := zin_3 (List.mem_of_getElem? (i := 208) rfl) rfl
theorem zt_3_209 : (Jvm.Cond.soleField "FlaghallModel" "parts") ∈ zBG := zin_3 (List.mem_of_getElem? (i := 209) rfl) rfl
theorem zt_3_210 : (Jvm.Cond.lays "FlaghallModel" "FlaghallModel" "shipMany" "I") ∈ zBG := zin_3 (List.mem_of_getElem? (i := 210) rfl) rfl
theorem zt_3_211 : (Jvm.Cond.soleField "FlaghallModel" "shipMany") ∈ zBG := zin_3 (List.mem_of_getElem? (i := 211) rfl) rfl
theorem zt_3_212 : (Jvm.Cond.laysFinal "FlaghallModel" "FlaghallModel" "sounds" "[I") ∈ zBG := zin_3 (List.mem_of_getElem? (i := 212) rfl) rfl
theorem zt_3_213 : (Jvm.Cond.soleField "FlaghallModel" "sounds") ∈ zBG := zin_3 (List.mem_of_getElem? (i := 213) rfl) rfl
theorem zt_3_214 : (Jvm.Cond.laysFinal "FlaghallModel" "FlaghallModel" "shares" "[I") ∈ zBG := zin_3 (List.mem_of_getElem? (i := 214) rfl) rfl
theorem zt_3_215 : (Jvm.Cond.soleField "FlaghallModel" "shares") ∈ zBG := zin_3 (List.mem_of_getElem? (i := 215) rfl) rfl
theorem zt_3_216 : (Jvm.Cond.laysFinal "FlaghallModel" "FlaghallModel" "flags" "[I") ∈ zBG := zin_3 (List.mem_of_getElem? (i := 216) rfl) rfl
theorem zt_3_217 : (Jvm.Cond.soleField "FlaghallModel" "flags") ∈ zBG := zin_3 (List.mem_of_getElem? (i := 217) rfl) rfl
theorem zt_3_218 : (Jvm.Cond.laysFinal "FlaghallModel" "FlaghallModel" "graces" "[J") ∈ zBG := zin_3 (List.mem_of_getElem? (i := 218) rfl) rfl
theorem zt_3_219 : (Jvm.Cond.soleField "FlaghallModel" "graces") ∈ zBG := zin_3 (List.mem_of_getElem? (i := 219) rfl) rfl
theorem zt_3_220 : (Jvm.Cond.lays "FlaghallModel" "FlaghallModel" "paperMany" "I") ∈ zBG := zin_3 (List.mem_of_getElem? (i := 220) rfl) rfl
theorem zt_3_221 : (Jvm.Cond.soleField "FlaghallModel" "paperMany") ∈ zBG := zin_3 (List.mem_of_getElem? (i := 221) rfl) rfl
theorem zt_3_222 : (Jvm.Cond.laysFinal "FlaghallModel" "FlaghallModel" "kinds" "[I") ∈ zBG := zin_3 (List.mem_of_getElem? (i := 222) rfl) rfl
theorem zt_3_223 : (Jvm.Cond.soleField "FlaghallModel" "kinds") ∈ zBG := zin_3 (List.mem_of_getElem? (i := 223) rfl) rfl
theorem zt_3_224 : (Jvm.Cond.laysFinal "FlaghallModel" "FlaghallModel" "shipOf" "[I") ∈ zBG := zin_3 (List.mem_of_getElem? (i := 224) rfl) rfl
theorem zt_3_225 : (Jvm.Cond.soleField "FlaghallModel" "shipOf") ∈ zBG := zin_3 (List.mem_of_getElem? (i := 225) rfl) rfl
theorem zt_3_226 : (Jvm.Cond.laysFinal "FlaghallModel" "FlaghallModel" "partyOf" "[I") ∈ zBG := zin_3 (List.mem_of_getElem? (i := 226) rfl) rfl
theorem zt_3_227 : (Jvm.Cond.soleField "FlaghallModel" "partyOf") ∈ zBG := zin_3 (List.mem_of_getElem? (i := 227) rfl) rfl
theorem zt_3_228 : (Jvm.Cond.laysFinal "FlaghallModel" "FlaghallModel" "amounts" "[I") ∈ zBG := zin_3 (List.mem_of_getElem? (i := 228) rfl) rfl
theorem zt_3_229 : (Jvm.Cond.soleField "FlaghallModel" "amounts") ∈ zBG := zin_3 (List.mem_of_getElem? (i := 229) rfl) rfl
theorem zt_3_230 : (Jvm.Cond.laysFinal "FlaghallModel" "FlaghallModel" "classes" "[I") ∈ zBG := zin_3 (List.mem_of_getElem? (i := 230) rfl) rfl
theorem zt_3_231 : (Jvm.Cond.soleField "FlaghallModel" "classes") ∈ zBG := zin_3 (List.mem_of_getElem? (i := 231) rfl) rfl
theorem zt_3_232 : (Jvm.Cond.laysFinal "FlaghallModel" "FlaghallModel" "minutes" "[J") ∈ zBG := zin_3 (List.mem_of_getElem? (i := 232) rfl) rfl
theorem zt_3_233 : (Jvm.Cond.soleField "FlaghallModel" "minutes") ∈ zBG := zin_3 (List.mem_of_getElem? (i := 233) rfl) rfl
theorem zt_3_234 : (Jvm.Cond.laysFinal "FlaghallModel" "FlaghallModel" "isTaken" "[Z") ∈ zBG := zin_3 (List.mem_of_getElem? (i := 234) rfl) rfl
theorem zt_3_235 : (Jvm.Cond.soleField "FlaghallModel" "isTaken") ∈ zBG := zin_3 (List.mem_of_getElem? (i := 235) rfl) rfl
theorem zt_3_236 : (Jvm.Cond.laysFinal "FlaghallModel" "FlaghallModel" "isOver" "[Z") ∈ zBG := zin_3 (List.mem_of_getElem? (i := 236) rfl) rfl
theorem zt_3_237 : (Jvm.Cond.soleField "FlaghallModel" "isOver") ∈ zBG := zin_3 (List.mem_of_getElem? (i := 237) rfl) rfl
theorem zt_3_238 : (Jvm.Cond.lays "FlaghallModel" "FlaghallModel" "mortgageMany" "I") ∈ zBG := zin_3 (List.mem_of_getElem? (i := 238) rfl) rfl
theorem zt_3_239 : (Jvm.Cond.soleField "FlaghallModel" "mortgageMany") ∈ zBG := zin_3 (List.mem_of_getElem? (i := 239) rfl) rfl
theorem zt_4_0 : (Jvm.Cond.laysFinal "FlaghallModel" "FlaghallModel" "papersOf" "[I") ∈ zBG := zin_4 (List.mem_of_getElem? (i := 0) rfl) rfl
theorem zt_4_1 : (Jvm.Cond.soleField "FlaghallModel" "papersOf") ∈ zBG := zin_4 (List.mem_of_getElem? (i := 1) rfl) rfl
theorem zt_4_2 : (Jvm.Cond.laysFinal "FlaghallModel" "FlaghallModel" "places" "[I") ∈ zBG := zin_4 (List.mem_of_getElem? (i := 2) rfl) rfl
theorem zt_4_3 : (Jvm.Cond.soleField "FlaghallModel" "places") ∈ zBG := zin_4 (List.mem_of_getElem? (i := 3) rfl) rfl
theorem zt_4_4 : (Jvm.Cond.laysFinal "FlaghallModel" "FlaghallModel" "isDischarged" "[Z") ∈ zBG := zin_4 (List.mem_of_getElem? (i := 4) rfl) rfl
theorem zt_4_5 : (Jvm.Cond.soleField "FlaghallModel" "isDischarged") ∈ zBG := zin_4 (List.mem_of_getElem? (i := 5) rfl) rfl
theorem zt_4_6 : (Jvm.Cond.laysFinal "FlaghallModel" "FlaghallModel" "gains" "[J") ∈ zBG := zin_4 (List.mem_of_getElem? (i := 6) rfl) rfl
theorem zt_4_7 : (Jvm.Cond.soleField "FlaghallModel" "gains") ∈ zBG := zin_4 (List.mem_of_getElem? (i := 7) rfl) rfl
theorem zt_4_8 : (Jvm.Cond.lays "FlaghallModel" "FlaghallModel" "thrown" "I") ∈ zBG := zin_4 (List.mem_of_getElem? (i := 8) rfl) rfl
theorem zt_4_9 : (Jvm.Cond.soleField "FlaghallModel" "thrown") ∈ zBG := zin_4 (List.mem_of_getElem? (i := 9) rfl) rfl
theorem zt_4_10 : (Jvm.Cond.laysFinal "FlaghallModel" "FlaghallModel" "found" "[I") ∈ zBG := zin_4 (List.mem_of_getElem? (i := 10) rfl) rfl
theorem zt_4_11 : (Jvm.Cond.soleField "FlaghallModel" "found") ∈ zBG := zin_4 (List.mem_of_getElem? (i := 11) rfl) rfl
theorem zt_4_12 : (Jvm.Cond.laysFinal "FlaghallModel" "FlaghallModel" "next" "[I") ∈ zBG := zin_4 (List.mem_of_getElem? (i := 12) rfl) rfl
theorem zt_4_13 : (Jvm.Cond.soleField "FlaghallModel" "next") ∈ zBG := zin_4 (List.mem_of_getElem? (i := 13) rfl) rfl
theorem zt_4_14 : (Jvm.Cond.laysFinal "FlaghallModel" "FlaghallModel" "heard" "[I") ∈ zBG := zin_4 (List.mem_of_getElem? (i := 14) rfl) rfl
theorem zt_4_15 : (Jvm.Cond.soleField "FlaghallModel" "heard") ∈ zBG := zin_4 (List.mem_of_getElem? (i := 15) rfl) rfl
theorem zt_4_16 : (Jvm.Cond.lays "FlaghallModel" "FlaghallModel" "left" "J") ∈ zBG := zin_4 (List.mem_of_getElem? (i := 16) rfl) rfl
theorem zt_4_17 : (Jvm.Cond.soleField "FlaghallModel" "left") ∈ zBG := zin_4 (List.mem_of_getElem? (i := 17) rfl) rfl
theorem zt_4_18 : (Jvm.Cond.laysFinal "FlaghallModel" "FlaghallModel" "wasThere" "[Z") ∈ zBG := zin_4 (List.mem_of_getElem? (i := 18) rfl) rfl
theorem zt_4_19 : (Jvm.Cond.soleField "FlaghallModel" "wasThere") ∈ zBG := zin_4 (List.mem_of_getElem? (i := 19) rfl) rfl
theorem zt_4_20 : (Jvm.Cond.superclass "FlaghallModel" "java/lang/Object") ∈ zBG := zin_4 (List.mem_of_getElem? (i := 20) rfl) rfl
theorem zt_4_21 : (Jvm.Cond.arrayClass Jvm.ClassFile.FieldType.long) ∈ zBG := zin_4 (List.mem_of_getElem? (i := 21) rfl) rfl
theorem zt_4_22 : (Jvm.Cond.arrayClass Jvm.ClassFile.FieldType.boolean) ∈ zBG := zin_4 (List.mem_of_getElem? (i := 22) rfl) rfl
theorem zt_4_23 : (Jvm.Cond.methodLink "FlaghallLaw" (99 : Nat) ({ cls := "FlaghallModel", name := "thrown", desc := "()I" } : Jvm.MethodName)) ∈ zBG := zin_4 (List.mem_of_getElem? (i := 23) rfl) rfl
theorem zt_4_24 : (Jvm.Cond.instanceMethod ({ cls := "FlaghallModel", name := "thrown", desc := "()I" } : Jvm.MethodName)) ∈ zBG := zin_4 (List.mem_of_getElem? (i := 24) rfl) rfl
theorem zt_4_25 : (Jvm.Cond.selects "FlaghallModel" ({ cls := "FlaghallModel", name := "thrown", desc := "()I" } : Jvm.MethodName) ({ cls := "FlaghallModel", name := "thrown", desc := "()I" } : Jvm.MethodName)) ∈ zBG := zin_4 (List.mem_of_getElem? (i := 25) rfl) rfl
theorem zt_4_26 : (Jvm.Cond.code ({ cls := "FlaghallModel", name := "thrown", desc := "()I" } : Jvm.MethodName) prog_9_method_2_code (1 : Nat) (Option.some Jvm.ClassFile.FieldType.int)) ∈ zBG := zin_4 (List.mem_of_getElem? (i := 26) rfl) rfl
theorem zt_4_27 : (Jvm.Cond.methodLink "FlaghallLaw" (98 : Nat) ({ cls := "FlaghallModel", name := "letter", desc := "(C)I" } : Jvm.MethodName)) ∈ zBG := zin_4 (List.mem_of_getElem? (i := 27) rfl) rfl
theorem zt_4_28 : (Jvm.Cond.instanceMethod ({ cls := "FlaghallModel", name := "letter", desc := "(C)I" } : Jvm.MethodName)) ∈ zBG := zin_4 (List.mem_of_getElem? (i := 28) rfl) rfl
theorem zt_4_29 : (Jvm.Cond.selects "FlaghallModel" ({ cls := "FlaghallModel", name := "letter", desc := "(C)I" } : Jvm.MethodName) ({ cls := "FlaghallModel", name := "letter", desc := "(C)I" } : Jvm.MethodName)) ∈ zBG := zin_4 (List.mem_of_getElem? (i := 29) rfl) rfl
theorem zt_4_30 : (Jvm.Cond.code ({ cls := "FlaghallModel", name := "letter", desc := "(C)I" } : Jvm.MethodName) prog_9_method_8_code (2 : Nat) (Option.some Jvm.ClassFile.FieldType.int)) ∈ zBG := zin_4 (List.mem_of_getElem? (i := 30) rfl) rfl
theorem zt_4_31 : (Jvm.Cond.methodLink "FlaghallLaw" (105 : Nat) ({ cls := "FlaghallModel", name := "person", desc := "(I)I" } : Jvm.MethodName)) ∈ zBG := zin_4 (List.mem_of_getElem? (i := 31) rfl) rfl
theorem zt_4_32 : (Jvm.Cond.instanceMethod ({ cls := "FlaghallModel", name := "person", desc := "(I)I" } : Jvm.MethodName)) ∈ zBG := zin_4 (List.mem_of_getElem? (i := 32) rfl) rfl
theorem zt_4_33 : (Jvm.Cond.selects "FlaghallModel" ({ cls := "FlaghallModel", name := "person", desc := "(I)I" } : Jvm.MethodName) ({ cls := "FlaghallModel", name := "person", desc := "(I)I" } : Jvm.MethodName)) ∈ zBG := zin_4 (List.mem_of_getElem? (i := 33) rfl) rfl
theorem zt_4_34 : (Jvm.Cond.code ({ cls := "FlaghallModel", name := "person", desc := "(I)I" } : Jvm.MethodName) prog_9_method_9_code (2 : Nat) (Option.some Jvm.ClassFile.FieldType.int)) ∈ zBG := zin_4 (List.mem_of_getElem? (i := 34) rfl) rfl
theorem zt_4_35 : (Jvm.Cond.methodLink "FlaghallModel" (101 : Nat) ({ cls := "FlaghallModel", name := "isLand", desc := "(I)Z" } : Jvm.MethodName)) ∈ zBG := zin_4 (List.mem_of_getElem? (i := 35) rfl) rfl
theorem zt_4_36 : (Jvm.Cond.static ({ cls := "FlaghallModel", name := "isLand", desc := "(I)Z" } : Jvm.MethodName)) ∈ zBG := zin_4 (List.mem_of_getElem? (i := 36) rfl) rfl
theorem zt_4_37 : (Jvm.Cond.code ({ cls := "FlaghallModel", name := "isLand", desc := "(I)Z" } : Jvm.MethodName) prog_9_method_4_code (1 : Nat) (Option.some Jvm.ClassFile.FieldType.boolean)) ∈ zBG := zin_4 (List.mem_of_getElem? (i := 37) rfl) rfl
theorem zt_4_38 : (Jvm.Cond.methodLink "FlaghallModel" (85 : Nat) ({ cls := "FlaghallModel", name := "in", desc := "(III)Z" } : Jvm.MethodName)) ∈ zBG := zin_4 (List.mem_of_getElem? (i := 38) rfl) rfl
theorem zt_4_39 : (Jvm.Cond.static ({ cls := "FlaghallModel", name := "in", desc := "(III)Z" } : Jvm.MethodName)) ∈ zBG := zin_4 (List.mem_of_getElem? (i := 39) rfl) rfl
theorem zt_4_40 : (Jvm.Cond.code ({ cls := "FlaghallModel", name := "in", desc := "(III)Z" } : Jvm.MethodName) prog_9_method_3_code (3 : Nat) (Option.some Jvm.ClassFile.FieldType.boolean)) ∈ zBG := zin_4 (List.mem_of_getElem? (i := 40) rfl) rfl
theorem zt_4_41 : (Jvm.Cond.methodLink "FlaghallLaw" (109 : Nat) ({ cls := "FlaghallModel", name := "company", desc := "()I" } : Jvm.MethodName)) ∈ zBG := zin_4 (List.mem_of_getElem? (i := 41) rfl) rfl
theorem zt_4_42 : (Jvm.Cond.instanceMethod ({ cls := "FlaghallModel", name := "company", desc := "()I" } : Jvm.MethodName)) ∈ zBG := zin_4 (List.mem_of_getElem? (i := 42) rfl) rfl
theorem zt_4_43 : (Jvm.Cond.selects "FlaghallModel" ({ cls := "FlaghallModel", name := "company", desc := "()I" } : Jvm.MethodName) ({ cls := "FlaghallModel", name := "company", desc := "()I" } : Jvm.MethodName)) ∈ zBG := zin_4 (List.mem_of_getElem? (i := 43) rfl) rfl
theorem zt_4_44 : (Jvm.Cond.code ({ cls := "FlaghallModel", name := "company", desc := "()I" } : Jvm.MethodName) prog_9_method_10_code (1 : Nat) (Option.some Jvm.ClassFile.FieldType.int)) ∈ zBG := zin_4 (List.mem_of_getElem? (i := 44) rfl) rfl
theorem zt_4_45 : (Jvm.Cond.methodLink "FlaghallLaw" (113 : Nat) ({ cls := "FlaghallModel", name := "part", desc := "(III)I" } : Jvm.MethodName)) ∈ zBG := zin_4 (List.mem_of_getElem? (i := 45) rfl) rfl
theorem zt_4_46 : (Jvm.Cond.instanceMethod ({ cls := "FlaghallModel", name := "part", desc := "(III)I" } : Jvm.MethodName)) ∈ zBG := zin_4 (List.mem_of_getElem? (i := 46) rfl) rfl
theorem zt_4_47 : (Jvm.Cond.selects "FlaghallModel" ({ cls := "FlaghallModel", name := "part", desc := "(III)I" } : Jvm.MethodName) ({ cls := "FlaghallModel", name := "part", desc := "(III)I" } : Jvm.MethodName)) ∈ zBG := zin_4 (List.mem_of_getElem? (i := 47) rfl) rfl
theorem zt_4_48 : (Jvm.Cond.code ({ cls := "FlaghallModel", name := "part", desc := "(III)I" } : Jvm.MethodName) prog_9_method_11_code (6 : Nat) (Option.some Jvm.ClassFile.FieldType.int)) ∈ zBG := zin_4 (List.mem_of_getElem? (i := 48) rfl) rfl
theorem zt_4_49 : (Jvm.Cond.methodLink "FlaghallModel" (105 : Nat) ({ cls := "FlaghallModel", name := "isParty", desc := "(I)Z" } : Jvm.MethodName)) ∈ zBG := zin_4 (List.mem_of_getElem? (i := 49) rfl) rfl
theorem zt_4_51 : (Jvm.Cond.instanceMethod ({ cls := "FlaghallModel", name := "isParty", desc := "(I)Z" } : Jvm.MethodName)) ∈ zBG := zin_4 (List.mem_of_getElem? (i := 51) rfl) rfl
theorem zt_4_52 : (Jvm.Cond.code ({ cls := "FlaghallModel", name := "isParty", desc := "(I)Z" } : Jvm.MethodName) prog_9_method_5_code (2 : Nat) (Option.some Jvm.ClassFile.FieldType.boolean)) ∈ zBG := zin_4 (List.mem_of_getElem? (i := 52) rfl) rfl
theorem zt_4_53 : (Jvm.Cond.methodLink "FlaghallModel" (108 : Nat) ({ cls := "FlaghallModel", name := "lookAtFlag", desc := "(I)V" } : Jvm.MethodName)) ∈ zBG := zin_4 (List.mem_of_getElem? (i := 53) rfl) rfl
theorem zt_4_55 : (Jvm.Cond.instanceMethod ({ cls := "FlaghallModel", name := "lookAtFlag", desc := "(I)V" } : Jvm.MethodName)) ∈ zBG := zin_4 (List.mem_of_getElem? (i := 55) rfl) rfl
theorem zt_4_56 : (Jvm.Cond.code ({ cls := "FlaghallModel", name := "lookAtFlag", desc := "(I)V" } : Jvm.MethodName) prog_9_method_20_code (2 : Nat) (Option.none : Option Jvm.ClassFile.FieldType)) ∈ zBG := zin_4 (List.mem_of_getElem? (i := 56) rfl) rfl
theorem zt_4_57 : (Jvm.Cond.methodLink "FlaghallModel" (130 : Nat) ({ cls := "FlaghallModel", name := "canFly", desc := "(II)Z" } : Jvm.MethodName)) ∈ zBG := zin_4 (List.mem_of_getElem? (i := 57) rfl) rfl
theorem zt_4_59 : (Jvm.Cond.instanceMethod ({ cls := "FlaghallModel", name := "canFly", desc := "(II)Z" } : Jvm.MethodName)) ∈ zBG := zin_4 (List.mem_of_getElem? (i := 59) rfl) rfl
theorem zt_4_60 : (Jvm.Cond.code ({ cls := "FlaghallModel", name := "canFly", desc := "(II)Z" } : Jvm.MethodName) prog_9_method_19_code (5 : Nat) (Option.some Jvm.ClassFile.FieldType.boolean)) ∈ zBG := zin_4 (List.mem_of_getElem? (i := 60) rfl) rfl
theorem zt_4_61 : (Jvm.Cond.methodLink "FlaghallModel" (116 : Nat) ({ cls := "FlaghallModel", name := "findLands", desc := "()V" } : Jvm.MethodName)) ∈ zBG := zin_4 (List.mem_of_getElem? (i := 61) rfl) rfl
theorem zt_4_63 : (Jvm.Cond.instanceMethod ({ cls := "FlaghallModel", name := "findLands", desc := "()V" } : Jvm.MethodName)) ∈ zBG := zin_4 (List.mem_of_getElem? (i := 63) rfl) rfl
theorem zt_4_64 : (Jvm.Cond.code ({ cls := "FlaghallModel", name := "findLands", desc := "()V" } : Jvm.MethodName) prog_9_method_13_code (3 : Nat) (Option.none : Option Jvm.ClassFile.FieldType)) ∈ zBG := zin_4 (List.mem_of_getElem? (i := 64) rfl) rfl
theorem zt_4_65 : (Jvm.Cond.methodLink "FlaghallModel" (112 : Nat) ({ cls := "FlaghallModel", name := "landOf", desc := "(I)I" } : Jvm.MethodName)) ∈ zBG := zin_4 (List.mem_of_getElem? (i := 65) rfl) rfl
theorem zt_4_67 : (Jvm.Cond.instanceMethod ({ cls := "FlaghallModel", name := "landOf", desc := "(I)I" } : Jvm.MethodName)) ∈ zBG := zin_4 (List.mem_of_getElem? (i := 67) rfl) rfl
theorem zt_4_68 : (Jvm.Cond.code ({ cls := "FlaghallModel", name := "landOf", desc := "(I)I" } : Jvm.MethodName) prog_9_method_12_code (5 : Nat) (Option.some Jvm.ClassFile.FieldType.int)) ∈ zBG := zin_4 (List.mem_of_getElem? (i := 68) rfl) rfl
theorem zt_4_69 : (Jvm.Cond.constantLong "FlaghallModel" (128 : Nat) (-1 : Int64)) ∈ zBG := zin_4 (List.mem_of_getElem? (i := 69) rfl) rfl
theorem zt_4_70 : (Jvm.Cond.methodLink "FlaghallLaw" (116 : Nat) ({ cls := "FlaghallModel", name := "land", desc := "(I)I" } : Jvm.MethodName)) ∈ zBG := zin_4 (List.mem_of_getElem? (i := 70) rfl) rfl
theorem zt_4_71 : (Jvm.Cond.instanceMethod ({ cls := "FlaghallModel", name := "land", desc := "(I)I" } : Jvm.MethodName)) ∈ zBG := zin_4 (List.mem_of_getElem? (i := 71) rfl) rfl
theorem zt_4_72 : (Jvm.Cond.selects "FlaghallModel" ({ cls := "FlaghallModel", name := "land", desc := "(I)I" } : Jvm.MethodName) ({ cls := "FlaghallModel", name := "land", desc := "(I)I" } : Jvm.MethodName)) ∈ zBG := zin_4 (List.mem_of_getElem? (i := 72) rfl) rfl
theorem zt_4_73 : (Jvm.Cond.code ({ cls := "FlaghallModel", name := "land", desc := "(I)I" } : Jvm.MethodName) prog_9_method_14_code (2 : Nat) (Option.some Jvm.ClassFile.FieldType.int)) ∈ zBG := zin_4 (List.mem_of_getElem? (i := 73) rfl) rfl
theorem zt_4_74 : (Jvm.Cond.methodLink "FlaghallLaw" (119 : Nat) ({ cls := "FlaghallModel", name := "ship", desc := "(I)I" } : Jvm.MethodName)) ∈ zBG := zin_4 (List.mem_of_getElem? (i := 74) rfl) rfl
theorem zt_4_75 : (Jvm.Cond.instanceMethod ({ cls := "FlaghallModel", name := "ship", desc := "(I)I" } : Jvm.MethodName)) ∈ zBG := zin_4 (List.mem_of_getElem? (i := 75) rfl) rfl
theorem zt_4_76 : (Jvm.Cond.selects "FlaghallModel" ({ cls := "FlaghallModel", name := "ship", desc := "(I)I" } : Jvm.MethodName) ({ cls := "FlaghallModel", name := "ship", desc := "(I)I" } : Jvm.MethodName)) ∈ zBG := zin_4 (List.mem_of_getElem? (i := 76) rfl) rfl
theorem zt_4_77 : (Jvm.Cond.code ({ cls := "FlaghallModel", name := "ship", desc := "(I)I" } : Jvm.MethodName) prog_9_method_18_code (3 : Nat) (Option.some Jvm.ClassFile.FieldType.int)) ∈ zBG := zin_4 (List.mem_of_getElem? (i := 77) rfl) rfl
theorem zt_4_78 : (Jvm.Cond.methodLink "FlaghallModel" (122 : Nat) ({ cls := "FlaghallModel", name := "hear", desc := "()V" } : Jvm.MethodName)) ∈ zBG := zin_4 (List.mem_of_getElem? (i := 78) rfl) rfl
theorem zt_4_80 : (Jvm.Cond.instanceMethod ({ cls := "FlaghallModel", name := "hear", desc := "()V" } : Jvm.MethodName)) ∈ zBG := zin_4 (List.mem_of_getElem? (i := 80) rfl) rfl
theorem zt_4_81 : (Jvm.Cond.code ({ cls := "FlaghallModel", name := "hear", desc := "()V" } : Jvm.MethodName) prog_9_method_16_code (3 : Nat) (Option.none : Option Jvm.ClassFile.FieldType)) ∈ zBG := zin_4 (List.mem_of_getElem? (i := 81) rfl) rfl
theorem zt_4_82 : (Jvm.Cond.methodLink "FlaghallModel" (119 : Nat) ({ cls := "FlaghallModel", name := "isVowel", desc := "(I)Z" } : Jvm.MethodName)) ∈ zBG := zin_4 (List.mem_of_getElem? (i := 82) rfl) rfl
theorem zt_4_83 : (Jvm.Cond.static ({ cls := "FlaghallModel", name := "isVowel", desc := "(I)Z" } : Jvm.MethodName)) ∈ zBG := zin_4 (List.mem_of_getElem? (i := 83) rfl) rfl
theorem zt_4_84 : (Jvm.Cond.code ({ cls := "FlaghallModel", name := "isVowel", desc := "(I)Z" } : Jvm.MethodName) prog_9_method_15_code (1 : Nat) (Option.some Jvm.ClassFile.FieldType.boolean)) ∈ zBG := zin_4 (List.mem_of_getElem? (i := 84) rfl) rfl
theorem zt_4_85 : (Jvm.Cond.methodLink "FlaghallModel" (125 : Nat) ({ cls := "FlaghallModel", name := "isHeard", desc := "(I)Z" } : Jvm.MethodName)) ∈ zBG := zin_4 (List.mem_of_getElem? (i := 85) rfl) rfl
theorem zt_4_87 : (Jvm.Cond.instanceMethod ({ cls := "FlaghallModel", name := "isHeard", desc := "(I)Z" } : Jvm.MethodName)) ∈ zBG := zin_4 (List.mem_of_getElem? (i := 87) rfl) rfl
theorem zt_4_88 : (Jvm.Cond.code ({ cls := "FlaghallModel", name := "isHeard", desc := "(I)Z" } : Jvm.MethodName) prog_9_method_17_code (4 : Nat) (Option.some Jvm.ClassFile.FieldType.boolean)) ∈ zBG := zin_4 (List.mem_of_getElem? (i := 88) rfl) rfl
theorem zt_4_89 : (Jvm.Cond.methodLink "FlaghallLaw" (123 : Nat) ({ cls := "FlaghallModel", name := "sell", desc := "(IIII)I" } : Jvm.MethodName)) ∈ zBG := zin_4 (List.mem_of_getElem? (i := 89) rfl) rfl
theorem zt_4_90 : (Jvm.Cond.instanceMethod ({ cls := "FlaghallModel", name := "sell", desc := "(IIII)I" } : Jvm.MethodName)) ∈ zBG := zin_4 (List.mem_of_getElem? (i := 90) rfl) rfl
theorem zt_4_91 : (Jvm.Cond.selects "FlaghallModel" ({ cls := "FlaghallModel", name := "sell", desc := "(IIII)I" } : Jvm.MethodName) ({ cls := "FlaghallModel", name := "sell", desc := "(IIII)I" } : Jvm.MethodName)) ∈ zBG := zin_4 (List.mem_of_getElem? (i := 91) rfl) rfl
theorem zt_4_92 : (Jvm.Cond.code ({ cls := "FlaghallModel", name := "sell", desc := "(IIII)I" } : Jvm.MethodName) prog_9_method_21_code (5 : Nat) (Option.some Jvm.ClassFile.FieldType.int)) ∈ zBG := zin_4 (List.mem_of_getElem? (i := 92) rfl) rfl
theorem zt_4_93 : (Jvm.Cond.methodLink "FlaghallModel" (138 : Nat) ({ cls := "FlaghallModel", name := "isShip", desc := "(I)Z" } : Jvm.MethodName)) ∈ zBG := zin_4 (List.mem_of_getElem? (i := 93) rfl) rfl
theorem zt_4_95 : (Jvm.Cond.instanceMethod ({ cls := "FlaghallModel", name := "isShip", desc := "(I)Z" } : Jvm.MethodName)) ∈ zBG := zin_4 (List.mem_of_getElem? (i := 95) rfl) rfl
theorem zt_4_96 : (Jvm.Cond.code ({ cls := "FlaghallModel", name := "isShip", desc := "(I)Z" } : Jvm.MethodName) prog_9_method_6_code (2 : Nat) (Option.some Jvm.ClassFile.FieldType.boolean)) ∈ zBG := zin_4 (List.mem_of_getElem? (i := 96) rfl) rfl
theorem zt_4_97 : (Jvm.Cond.methodLink "FlaghallLaw" (127 : Nat) ({ cls := "FlaghallModel", name := "fly", desc := "(II)I" } : Jvm.MethodName)) ∈ zBG := zin_4 (List.mem_of_getElem? (i := 97) rfl) rfl
theorem zt_4_98 : (Jvm.Cond.instanceMethod ({ cls := "FlaghallModel", name := "fly", desc := "(II)I" } : Jvm.MethodName)) ∈ zBG := zin_4 (List.mem_of_getElem? (i := 98) rfl) rfl
theorem zt_4_99 : (Jvm.Cond.selects "FlaghallModel" ({ cls := "FlaghallModel", name := "fly", desc := "(II)I" } : Jvm.MethodName) ({ cls := "FlaghallModel", name := "fly", desc := "(II)I" } : Jvm.MethodName)) ∈ zBG := zin_4 (List.mem_of_getElem? (i := 99) rfl) rfl
theorem zt_4_100 : (Jvm.Cond.code ({ cls := "FlaghallModel", name := "fly", desc := "(II)I" } : Jvm.MethodName) prog_9_method_23_code (4 : Nat) (Option.some Jvm.ClassFile.FieldType.int)) ∈ zBG := zin_4 (List.mem_of_getElem? (i := 100) rfl) rfl
theorem zt_4_101 : (Jvm.Cond.methodLink "FlaghallModel" (143 : Nat) ({ cls := "FlaghallModel", name := "flagNow", desc := "(I)I" } : Jvm.MethodName)) ∈ zBG := zin_4 (List.mem_of_getElem? (i := 101) rfl) rfl
theorem zt_4_103 : (Jvm.Cond.instanceMethod ({ cls := "FlaghallModel", name := "flagNow", desc := "(I)I" } : Jvm.MethodName)) ∈ zBG := zin_4 (List.mem_of_getElem? (i := 103) rfl) rfl
theorem zt_4_104 : (Jvm.Cond.code ({ cls := "FlaghallModel", name := "flagNow", desc := "(I)I" } : Jvm.MethodName) prog_9_method_22_code (2 : Nat) (Option.some Jvm.ClassFile.FieldType.int)) ∈ zBG := zin_4 (List.mem_of_getElem? (i := 104) rfl) rfl
theorem zt_4_105 : (Jvm.Cond.constantLong "FlaghallModel" (141 : Nat) (129600 : Int64)) ∈ zBG := zin_4 (List.mem_of_getElem? (i := 105) rfl) rfl
theorem zt_4_106 : (Jvm.Cond.methodLink "FlaghallLaw" (130 : Nat) ({ cls := "FlaghallModel", name := "notice", desc := "(II)I" } : Jvm.MethodName)) ∈ zBG := zin_4 (List.mem_of_getElem? (i := 106) rfl) rfl
theorem zt_4_107 : (Jvm.Cond.instanceMethod ({ cls := "FlaghallModel", name := "notice", desc := "(II)I" } : Jvm.MethodName)) ∈ zBG := zin_4 (List.mem_of_getElem? (i := 107) rfl) rfl
theorem zt_4_108 : (Jvm.Cond.selects "FlaghallModel" ({ cls := "FlaghallModel", name := "notice", desc := "(II)I" } : Jvm.MethodName) ({ cls := "FlaghallModel", name := "notice", desc := "(II)I" } : Jvm.MethodName)) ∈ zBG := zin_4 (List.mem_of_getElem? (i := 108) rfl) rfl
theorem zt_4_109 : (Jvm.Cond.code ({ cls := "FlaghallModel", name := "notice", desc := "(II)I" } : Jvm.MethodName) prog_9_method_25_code (3 : Nat) (Option.some Jvm.ClassFile.FieldType.int)) ∈ zBG := zin_4 (List.mem_of_getElem? (i := 109) rfl) rfl
theorem zt_4_110 : (Jvm.Cond.methodLink "FlaghallModel" (149 : Nat) ({ cls := "FlaghallModel", name := "enter", desc := "(IIIII)I" } : Jvm.MethodName)) ∈ zBG := zin_4 (List.mem_of_getElem? (i := 110) rfl) rfl
theorem zt_4_112 : (Jvm.Cond.instanceMethod ({ cls := "FlaghallModel", name := "enter", desc := "(IIIII)I" } : Jvm.MethodName)) ∈ zBG := zin_4 (List.mem_of_getElem? (i := 112) rfl) rfl
theorem zt_4_113 : (Jvm.Cond.code ({ cls := "FlaghallModel", name := "enter", desc := "(IIIII)I" } : Jvm.MethodName) prog_9_method_24_code (6 : Nat) (Option.some Jvm.ClassFile.FieldType.int)) ∈ zBG := zin_4 (List.mem_of_getElem? (i := 113) rfl) rfl
theorem zt_4_114 : (Jvm.Cond.methodLink "FlaghallLaw" (133 : Nat) ({ cls := "FlaghallModel", name := "mortgage", desc := "(III)I" } : Jvm.MethodName)) ∈ zBG := zin_4 (List.mem_of_getElem? (i := 114) rfl) rfl
theorem zt_4_115 : (Jvm.Cond.instanceMethod ({ cls := "FlaghallModel", name := "mortgage", desc := "(III)I" } : Jvm.MethodName)) ∈ zBG := zin_4 (List.mem_of_getElem? (i := 115) rfl) rfl
theorem zt_4_116 : (Jvm.Cond.selects "FlaghallModel" ({ cls := "FlaghallModel", name := "mortgage", desc := "(III)I" } : Jvm.MethodName) ({ cls := "FlaghallModel", name := "mortgage", desc := "(III)I" } : Jvm.MethodName)) ∈ zBG := zin_4 (List.mem_of_getElem? (i := 116) rfl) rfl
theorem zt_4_117 : (Jvm.Cond.code ({ cls := "FlaghallModel", name := "mortgage", desc := "(III)I" } : Jvm.MethodName) prog_9_method_27_code (6 : Nat) (Option.some Jvm.ClassFile.FieldType.int)) ∈ zBG := zin_4 (List.mem_of_getElem? (i := 117) rfl) rfl
theorem zt_4_118 : (Jvm.Cond.constant "FlaghallModel" (155 : Nat) (1000000000 : Int32)) ∈ zBG := zin_4 (List.mem_of_getElem? (i := 118) rfl) rfl
theorem zt_4_119 : (Jvm.Cond.methodLink "FlaghallModel" (156 : Nat) ({ cls := "FlaghallModel", name := "noticeFor", desc := "(II)I" } : Jvm.MethodName)) ∈ zBG := zin_4 (List.mem_of_getElem? (i := 119) rfl) rfl
theorem zt_4_121 : (Jvm.Cond.instanceMethod ({ cls := "FlaghallModel", name := "noticeFor", desc := "(II)I" } : Jvm.MethodName)) ∈ zBG := zin_4 (List.mem_of_getElem? (i := 121) rfl) rfl
theorem zt_4_122 : (Jvm.Cond.code ({ cls := "FlaghallModel", name := "noticeFor", desc := "(II)I" } : Jvm.MethodName) prog_9_method_26_code (4 : Nat) (Option.some Jvm.ClassFile.FieldType.int)) ∈ zBG := zin_4 (List.mem_of_getElem? (i := 122) rfl) rfl
theorem zt_4_123 : (Jvm.Cond.constantLong "FlaghallModel" (153 : Nat) (20160 : Int64)) ∈ zBG := zin_4 (List.mem_of_getElem? (i := 123) rfl) rfl
theorem zt_4_124 : (Jvm.Cond.methodLink "FlaghallLaw" (137 : Nat) ({ cls := "FlaghallModel", name := "discharge", desc := "(IZ)V" } : Jvm.MethodName)) ∈ zBG := zin_4 (List.mem_of_getElem? (i := 124) rfl) rfl
theorem zt_4_125 : (Jvm.Cond.instanceMethod ({ cls := "FlaghallModel", name := "discharge", desc := "(IZ)V" } : Jvm.MethodName)) ∈ zBG := zin_4 (List.mem_of_getElem? (i := 125) rfl) rfl
theorem zt_4_126 : (Jvm.Cond.selects "FlaghallModel" ({ cls := "FlaghallModel", name := "discharge", desc := "(IZ)V" } : Jvm.MethodName) ({ cls := "FlaghallModel", name := "discharge", desc := "(IZ)V" } : Jvm.MethodName)) ∈ zBG := zin_4 (List.mem_of_getElem? (i := 126) rfl) rfl
theorem zt_4_127 : (Jvm.Cond.code ({ cls := "FlaghallModel", name := "discharge", desc := "(IZ)V" } : Jvm.MethodName) prog_9_method_28_code (5 : Nat) (Option.none : Option Jvm.ClassFile.FieldType)) ∈ zBG := zin_4 (List.mem_of_getElem? (i := 127) rfl) rfl
theorem zt_4_128 : (Jvm.Cond.methodLink "FlaghallModel" (160 : Nat) ({ cls := "FlaghallModel", name := "isMortgage", desc := "(I)Z" } : Jvm.MethodName)) ∈ zBG := zin_4 (List.mem_of_getElem? (i := 128) rfl) rfl
theorem zt_4_130 : (Jvm.Cond.instanceMethod ({ cls := "FlaghallModel", name := "isMortgage", desc := "(I)Z" } : Jvm.MethodName)) ∈ zBG := zin_4 (List.mem_of_getElem? (i := 130) rfl) rfl
theorem zt_4_131 : (Jvm.Cond.code ({ cls := "FlaghallModel", name := "isMortgage", desc := "(I)Z" } : Jvm.MethodName) prog_9_method_7_code (2 : Nat) (Option.some Jvm.ClassFile.FieldType.boolean)) ∈ zBG := zin_4 (List.mem_of_getElem? (i := 131) rfl) rfl
theorem zt_4_132 : (Jvm.Cond.methodLink "FlaghallLaw" (140 : Nat) ({ cls := "FlaghallModel", name := "lien", desc := "(IIII)I" } : Jvm.MethodName)) ∈ zBG := zin_4 (List.mem_of_getElem? (i := 132) rfl) rfl
theorem zt_4_133 : (Jvm.Cond.instanceMethod ({ cls := "FlaghallModel", name := "lien", desc := "(IIII)I" } : Jvm.MethodName)) ∈ zBG := zin_4 (List.mem_of_getElem? (i := 133) rfl) rfl
theorem zt_4_134 : (Jvm.Cond.selects "FlaghallModel" ({ cls := "FlaghallModel", name := "lien", desc := "(IIII)I" } : Jvm.MethodName) ({ cls := "FlaghallModel", name := "lien", desc := "(IIII)I" } : Jvm.MethodName)) ∈ zBG := zin_4 (List.mem_of_getElem? (i := 134) rfl) rfl
theorem zt_4_135 : (Jvm.Cond.code ({ cls := "FlaghallModel", name := "lien", desc := "(IIII)I" } : Jvm.MethodName) prog_9_method_29_code (5 : Nat) (Option.some Jvm.ClassFile.FieldType.int)) ∈ zBG := zin_4 (List.mem_of_getElem? (i := 135) rfl) rfl
theorem zt_4_136 : (Jvm.Cond.methodLink "FlaghallLaw" (143 : Nat) ({ cls := "FlaghallModel", name := "court", desc := "(III)J" } : Jvm.MethodName)) ∈ zBG := zin_4 (List.mem_of_getElem? (i := 136) rfl) rfl
theorem zt_4_137 : (Jvm.Cond.instanceMethod ({ cls := "FlaghallModel", name := "court", desc := "(III)J" } : Jvm.MethodName)) ∈ zBG := zin_4 (List.mem_of_getElem? (i := 137) rfl) rfl
theorem zt_4_138 : (Jvm.Cond.selects "FlaghallModel" ({ cls := "FlaghallModel", name := "court", desc := "(III)J" } : Jvm.MethodName) ({ cls := "FlaghallModel", name := "court", desc := "(III)J" } : Jvm.MethodName)) ∈ zBG := zin_4 (List.mem_of_getElem? (i := 138) rfl) rfl
theorem zt_4_139 : (Jvm.Cond.code ({ cls := "FlaghallModel", name := "court", desc := "(III)J" } : Jvm.MethodName) prog_9_method_35_code (5 : Nat) (Option.some Jvm.ClassFile.FieldType.long)) ∈ zBG := zin_4 (List.mem_of_getElem? (i := 139) rfl) rfl
theorem zt_4_140 : (Jvm.Cond.constant "FlaghallModel" (182 : Nat) (2000000000 : Int32)) ∈ zBG := zin_4 (List.mem_of_getElem? (i := 140) rfl) rfl
theorem zt_4_141 : (Jvm.Cond.methodLink "FlaghallModel" (183 : Nat) ({ cls := "FlaghallModel", name := "paysAll", desc := "(I)V" } : Jvm.MethodName)) ∈ zBG := zin_4 (List.mem_of_getElem? (i := 141) rfl) rfl
theorem zt_4_143 : (Jvm.Cond.instanceMethod ({ cls := "FlaghallModel", name := "paysAll", desc := "(I)V" } : Jvm.MethodName)) ∈ zBG := zin_4 (List.mem_of_getElem? (i := 143) rfl) rfl
theorem zt_4_144 : (Jvm.Cond.code ({ cls := "FlaghallModel", name := "paysAll", desc := "(I)V" } : Jvm.MethodName) prog_9_method_34_code (7 : Nat) (Option.none : Option Jvm.ClassFile.FieldType)) ∈ zBG := zin_4 (List.mem_of_getElem? (i := 144) rfl) rfl
theorem zt_4_145 : (Jvm.Cond.methodLink "FlaghallModel" (171 : Nat) ({ cls := "FlaghallModel", name := "isLien", desc := "(II)Z" } : Jvm.MethodName)) ∈ zBG := zin_4 (List.mem_of_getElem? (i := 145) rfl) rfl
theorem zt_4_147 : (Jvm.Cond.instanceMethod ({ cls := "FlaghallModel", name := "isLien", desc := "(II)Z" } : Jvm.MethodName)) ∈ zBG := zin_4 (List.mem_of_getElem? (i := 147) rfl) rfl
theorem zt_4_148 : (Jvm.Cond.code ({ cls := "FlaghallModel", name := "isLien", desc := "(II)Z" } : Jvm.MethodName) prog_9_method_30_code (3 : Nat) (Option.some Jvm.ClassFile.FieldType.boolean)) ∈ zBG := zin_4 (List.mem_of_getElem? (i := 148) rfl) rfl
theorem zt_4_149 : (Jvm.Cond.constantLong "FlaghallModel" (163 : Nat) (525600 : Int64)) ∈ zBG := zin_4 (List.mem_of_getElem? (i := 149) rfl) rfl
theorem zt_4_150 : (Jvm.Cond.methodLink "FlaghallModel" (174 : Nat) ({ cls := "FlaghallModel", name := "pays", desc := "(I)V" } : Jvm.MethodName)) ∈ zBG := zin_4 (List.mem_of_getElem? (i := 150) rfl) rfl
theorem zt_4_152 : (Jvm.Cond.instanceMethod ({ cls := "FlaghallModel", name := "pays", desc := "(I)V" } : Jvm.MethodName)) ∈ zBG := zin_4 (List.mem_of_getElem? (i := 152) rfl) rfl
theorem zt_4_153 : (Jvm.Cond.code ({ cls := "FlaghallModel", name := "pays", desc := "(I)V" } : Jvm.MethodName) prog_9_method_33_code (4 : Nat) (Option.none : Option Jvm.ClassFile.FieldType)) ∈ zBG := zin_4 (List.mem_of_getElem? (i := 153) rfl) rfl
theorem zt_4_154 : (Jvm.Cond.methodLink "FlaghallModel" (165 : Nat) ({ cls := "FlaghallModel", name := "isThere", desc := "(II)Z" } : Jvm.MethodName)) ∈ zBG := zin_4 (List.mem_of_getElem? (i := 154) rfl) rfl
theorem zt_4_156 : (Jvm.Cond.instanceMethod ({ cls := "FlaghallModel", name := "isThere", desc := "(II)Z" } : Jvm.MethodName)) ∈ zBG := zin_4 (List.mem_of_getElem? (i := 156) rfl) rfl
theorem zt_4_157 : (Jvm.Cond.code ({ cls := "FlaghallModel", name := "isThere", desc := "(II)Z" } : Jvm.MethodName) prog_9_method_31_code (3 : Nat) (Option.some Jvm.ClassFile.FieldType.boolean)) ∈ zBG := zin_4 (List.mem_of_getElem? (i := 157) rfl) rfl
theorem zt_4_158 : (Jvm.Cond.methodLink "FlaghallModel" (177 : Nat) ({ cls := "FlaghallModel", name := "rankOf", desc := "(I)I" } : Jvm.MethodName)) ∈ zBG := zin_4 (List.mem_of_getElem? (i := 158) rfl) rfl
theorem zt_4_160 : (Jvm.Cond.instanceMethod ({ cls := "FlaghallModel", name := "rankOf", desc := "(I)I" } : Jvm.MethodName)) ∈ zBG := zin_4 (List.mem_of_getElem? (i := 160) rfl) rfl
theorem zt_4_161 : (Jvm.Cond.code ({ cls := "FlaghallModel", name := "rankOf", desc := "(I)I" } : Jvm.MethodName) prog_9_method_32_code (4 : Nat) (Option.some Jvm.ClassFile.FieldType.int)) ∈ zBG := zin_4 (List.mem_of_getElem? (i := 161) rfl) rfl
theorem zt_4_162 : (Jvm.Cond.constantLong "FlaghallModel" (180 : Nat) (64 : Int64)) ∈ zBG := zin_4 (List.mem_of_getElem? (i := 162) rfl) rfl
theorem zt_4_163 : (Jvm.Cond.methodLink "FlaghallLaw" (146 : Nat) ({ cls := "FlaghallModel", name := "pass", desc := "(I)J" } : Jvm.MethodName)) ∈ zBG := zin_4 (List.mem_of_getElem? (i := 163) rfl) rfl
theorem zt_4_164 : (Jvm.Cond.instanceMethod ({ cls := "FlaghallModel", name := "pass", desc := "(I)J" } : Jvm.MethodName)) ∈ zBG := zin_4 (List.mem_of_getElem? (i := 164) rfl) rfl
theorem zt_4_165 : (Jvm.Cond.selects "FlaghallModel" ({ cls := "FlaghallModel", name := "pass", desc := "(I)J" } : Jvm.MethodName) ({ cls := "FlaghallModel", name := "pass", desc := "(I)J" } : Jvm.MethodName)) ∈ zBG := zin_4 (List.mem_of_getElem? (i := 165) rfl) rfl
theorem zt_4_166 : (Jvm.Cond.code ({ cls := "FlaghallModel", name := "pass", desc := "(I)J" } : Jvm.MethodName) prog_9_method_36_code (2 : Nat) (Option.some Jvm.ClassFile.FieldType.long)) ∈ zBG := zin_4 (List.mem_of_getElem? (i := 166) rfl) rfl
theorem zt_4_167 : (Jvm.Cond.constant "FlaghallModel" (186 : Nat) (1000000 : Int32)) ∈ zBG := zin_4 (List.mem_of_getElem? (i := 167) rfl) rfl
theorem zt_4_168 : (Jvm.Cond.methodLink "FlaghallLaw" (149 : Nat) ({ cls := "FlaghallModel", name := "share", desc := "(II)I" } : Jvm.MethodName)) ∈ zBG := zin_4 (List.mem_of_getElem? (i := 168) rfl) rfl
theorem zt_4_169 : (Jvm.Cond.instanceMethod ({ cls := "FlaghallModel", name := "share", desc := "(II)I" } : Jvm.MethodName)) ∈ zBG := zin_4 (List.mem_of_getElem? (i := 169) rfl) rfl
theorem zt_4_170 : (Jvm.Cond.selects "FlaghallModel" ({ cls := "FlaghallModel", name := "share", desc := "(II)I" } : Jvm.MethodName) ({ cls := "FlaghallModel", name := "share", desc := "(II)I" } : Jvm.MethodName)) ∈ zBG := zin_4 (List.mem_of_getElem? (i := 170) rfl) rfl
theorem zt_4_171 : (Jvm.Cond.code ({ cls := "FlaghallModel", name := "share", desc := "(II)I" } : Jvm.MethodName) prog_9_method_37_code (3 : Nat) (Option.some Jvm.ClassFile.FieldType.int)) ∈ zBG := zin_4 (List.mem_of_getElem? (i := 171) rfl) rfl
theorem zt_4_172 : (Jvm.Cond.methodLink "FlaghallLaw" (152 : Nat) ({ cls := "FlaghallModel", name := "sound", desc := "(II)C" } : Jvm.MethodName)) ∈ zBG := zin_4 (List.mem_of_getElem? (i := 172) rfl) rfl
theorem zt_4_173 : (Jvm.Cond.instanceMethod ({ cls := "FlaghallModel", name := "sound", desc := "(II)C" } : Jvm.MethodName)) ∈ zBG := zin_4 (List.mem_of_getElem? (i := 173) rfl) rfl
theorem zt_4_174 : (Jvm.Cond.selects "FlaghallModel" ({ cls := "FlaghallModel", name := "sound", desc := "(II)C" } : Jvm.MethodName) ({ cls := "FlaghallModel", name := "sound", desc := "(II)C" } : Jvm.MethodName)) ∈ zBG := zin_4 (List.mem_of_getElem? (i := 174) rfl) rfl
theorem zt_4_175 : (Jvm.Cond.code ({ cls := "FlaghallModel", name := "sound", desc := "(II)C" } : Jvm.MethodName) prog_9_method_38_code (4 : Nat) (Option.some Jvm.ClassFile.FieldType.char)) ∈ zBG := zin_4 (List.mem_of_getElem? (i := 175) rfl) rfl
theorem zt_4_176 : (Jvm.Cond.methodLink "FlaghallLaw" (155 : Nat) ({ cls := "FlaghallModel", name := "flag", desc := "(I)I" } : Jvm.MethodName)) ∈ zBG := zin_4 (List.mem_of_getElem? (i := 176) rfl) rfl
theorem zt_4_177 : (Jvm.Cond.instanceMethod ({ cls := "FlaghallModel", name := "flag", desc := "(I)I" } : Jvm.MethodName)) ∈ zBG := zin_4 (List.mem_of_getElem? (i := 177) rfl) rfl
theorem zt_4_178 : (Jvm.Cond.selects "FlaghallModel" ({ cls := "FlaghallModel", name := "flag", desc := "(I)I" } : Jvm.MethodName) ({ cls := "FlaghallModel", name := "flag", desc := "(I)I" } : Jvm.MethodName)) ∈ zBG := zin_4 (List.mem_of_getElem? (i := 178) rfl) rfl
theorem zt_4_179 : (Jvm.Cond.code ({ cls := "FlaghallModel", name := "flag", desc := "(I)I" } : Jvm.MethodName) prog_9_method_39_code (2 : Nat) (Option.some Jvm.ClassFile.FieldType.int)) ∈ zBG := zin_4 (List.mem_of_getElem? (i := 179) rfl) rfl
theorem zt_4_180 : (Jvm.Cond.methodLink "FlaghallLaw" (158 : Nat) ({ cls := "FlaghallModel", name := "rank", desc := "(I)I" } : Jvm.MethodName)) ∈ zBG := zin_4 (List.mem_of_getElem? (i := 180) rfl) rfl
theorem zt_4_181 : (Jvm.Cond.instanceMethod ({ cls := "FlaghallModel", name := "rank", desc := "(I)I" } : Jvm.MethodName)) ∈ zBG := zin_4 (List.mem_of_getElem? (i := 181) rfl) rfl
theorem zt_4_182 : (Jvm.Cond.selects "FlaghallModel" ({ cls := "FlaghallModel", name := "rank", desc := "(I)I" } : Jvm.MethodName) ({ cls := "FlaghallModel", name := "rank", desc := "(I)I" } : Jvm.MethodName)) ∈ zBG := zin_4 (List.mem_of_getElem? (i := 182) rfl) rfl
theorem zt_4_183 : (Jvm.Cond.code ({ cls := "FlaghallModel", name := "rank", desc := "(I)I" } : Jvm.MethodName) prog_9_method_40_code (2 : Nat) (Option.some Jvm.ClassFile.FieldType.int)) ∈ zBG := zin_4 (List.mem_of_getElem? (i := 183) rfl) rfl
theorem zt_4_184 : (Jvm.Cond.methodLink "FlaghallLaw" (164 : Nat) ({ cls := "FlaghallModel", name := "search", desc := "(IJI)I" } : Jvm.MethodName)) ∈ zBG := zin_4 (List.mem_of_getElem? (i := 184) rfl) rfl
theorem zt_4_185 : (Jvm.Cond.instanceMethod ({ cls := "FlaghallModel", name := "search", desc := "(IJI)I" } : Jvm.MethodName)) ∈ zBG := zin_4 (List.mem_of_getElem? (i := 185) rfl) rfl
theorem zt_4_186 : (Jvm.Cond.selects "FlaghallModel" ({ cls := "FlaghallModel", name := "search", desc := "(IJI)I" } : Jvm.MethodName) ({ cls := "FlaghallModel", name := "search", desc := "(IJI)I" } : Jvm.MethodName)) ∈ zBG := zin_4 (List.mem_of_getElem? (i := 186) rfl) rfl
theorem zt_4_187 : (Jvm.Cond.code ({ cls := "FlaghallModel", name := "search", desc := "(IJI)I" } : Jvm.MethodName) prog_9_method_42_code (9 : Nat) (Option.some Jvm.ClassFile.FieldType.int)) ∈ zBG := zin_4 (List.mem_of_getElem? (i := 187) rfl) rfl
theorem zt_4_188 : (Jvm.Cond.methodLink "FlaghallModel" (187 : Nat) ({ cls := "FlaghallModel", name := "findBook", desc := "(IJ)V" } : Jvm.MethodName)) ∈ zBG := zin_4 (List.mem_of_getElem? (i := 188) rfl) rfl
theorem zt_4_190 : (Jvm.Cond.instanceMethod ({ cls := "FlaghallModel", name := "findBook", desc := "(IJ)V" } : Jvm.MethodName)) ∈ zBG := zin_4 (List.mem_of_getElem? (i := 190) rfl) rfl
theorem zt_4_191 : (Jvm.Cond.code ({ cls := "FlaghallModel", name := "findBook", desc := "(IJ)V" } : Jvm.MethodName) prog_9_method_41_code (6 : Nat) (Option.none : Option Jvm.ClassFile.FieldType)) ∈ zBG := zin_4 (List.mem_of_getElem? (i := 191) rfl) rfl
theorem zt_4_192 : (Jvm.Cond.methodLink "FlaghallLaw" (167 : Nat) ({ cls := "FlaghallModel", name := "got", desc := "(I)J" } : Jvm.MethodName)) ∈ zBG := zin_4 (List.mem_of_getElem? (i := 192) rfl) rfl
theorem zt_4_193 : (Jvm.Cond.instanceMethod ({ cls := "FlaghallModel", name := "got", desc := "(I)J" } : Jvm.MethodName)) ∈ zBG := zin_4 (List.mem_of_getElem? (i := 193) rfl) rfl
theorem zt_4_194 : (Jvm.Cond.selects "FlaghallModel" ({ cls := "FlaghallModel", name := "got", desc := "(I)J" } : Jvm.MethodName) ({ cls := "FlaghallModel", name := "got", desc := "(I)J" } : Jvm.MethodName)) ∈ zBG := zin_4 (List.mem_of_getElem? (i := 194) rfl) rfl
theorem zt_4_195 : (Jvm.Cond.code ({ cls := "FlaghallModel", name := "got", desc := "(I)J" } : Jvm.MethodName) prog_9_method_43_code (2 : Nat) (Option.some Jvm.ClassFile.FieldType.long)) ∈ zBG := zin_4 (List.mem_of_getElem? (i := 195) rfl) rfl
theorem zt_4_196 : (Jvm.Cond.methodLink "FlaghallLaw" (170 : Nat) ({ cls := "FlaghallModel", name := "liens", desc := "(I)I" } : Jvm.MethodName)) ∈ zBG := zin_4 (List.mem_of_getElem? (i := 196) rfl) rfl
theorem zt_4_197 : (Jvm.Cond.instanceMethod ({ cls := "FlaghallModel", name := "liens", desc := "(I)I" } : Jvm.MethodName)) ∈ zBG := zin_4 (List.mem_of_getElem? (i := 197) rfl) rfl
theorem zt_4_198 : (Jvm.Cond.selects "FlaghallModel" ({ cls := "FlaghallModel", name := "liens", desc := "(I)I" } : Jvm.MethodName) ({ cls := "FlaghallModel", name := "liens", desc := "(I)I" } : Jvm.MethodName)) ∈ zBG := zin_4 (List.mem_of_getElem? (i := 198) rfl) rfl
theorem zt_4_199 : (Jvm.Cond.code ({ cls := "FlaghallModel", name := "liens", desc := "(I)I" } : Jvm.MethodName) prog_9_method_44_code (4 : Nat) (Option.some Jvm.ClassFile.FieldType.int)) ∈ zBG := zin_4 (List.mem_of_getElem? (i := 199) rfl) rfl
theorem zt_4_200 : (Jvm.Cond.constantLong "FlaghallLaw" (159 : Nat) (4294967295 : Int64)) ∈ zBG := zin_4 (List.mem_of_getElem? (i := 200) rfl) rfl
end
section
/-! ===== the state of the system as numbers: cell (position) k, slot j ===== -/
abbrev zS : Type := Nat → Nat → Int
def zsu (σ : zS) (k j : Nat) (v : Int) : zS := fun k' j' => if k' = k ∧ j' = j then v else σ k' j'
theorem zsu_at (σ : zS) (k j : Nat) (v : Int) : zsu σ k j v k j = v := by simp [zsu]
theorem zsu_row {σ : zS} {k j : Nat} {v : Int} {k' : Nat} (h : k' ≠ k) : zsu σ k j v k' = σ k' := by
  funext j'
  simp [zsu, h]
theorem zsu_ne {σ : zS} {k j : Nat} {v : Int} {j' : Nat} (h : j' ≠ j) : zsu σ k j v k j' = σ k j' := by simp [zsu, h]
def zI (x : Int) : Int32 := Int32.ofInt x
def zJ (x : Int) : Int64 := Int64.ofInt x
def w32 (x : Int) : Int := (Int32.ofInt x).toInt
def w64 (x : Int) : Int := (Int64.ofInt x).toInt
/-- a value: an int, a long, a cell by its position, an enum's constant by its number, a cell by its address -/
abbrev zV : Type := Int ⊕ (Int ⊕ (Nat ⊕ (Int ⊕ Nat)))
def vI (x : Int) : zV := .inl x
def vJ (x : Int) : zV := .inr (.inl x)
def vR (k : Nat) : zV := .inr (.inr (.inl k))
def vE (x : Int) : zV := .inr (.inr (.inr (.inl x)))
def vA (a : Nat) : zV := .inr (.inr (.inr (.inr a)))
/-- where the cells lie, where the enum's constants lie, the classes of the arrays, the classes and slots of the objects -/
abbrev zE : Type := (Nat → Nat) × (Nat → Nat) × (Nat → ClassId) × va_G
def ztv (E : zE) : zV → Value
  | .inl x => .int (zI x)
  | .inr (.inl x) => .long (zJ x)
  | .inr (.inr (.inl k)) => .ref (E.1 k)
  | .inr (.inr (.inr (.inl x))) => .ref (E.2.1 x.toNat)
  | .inr (.inr (.inr (.inr a))) => .ref a
def zcat : zV → Nat
  | .inr (.inl _) => 2
  | _ => 1
theorem ztv_cat (E : zE) (v : zV) : (ztv E v).category = zcat v := by
  rcases v with x | x | x | x | x <;> rfl
/-! The cells by position: 0 the hall, 1 its parties, 2 its ships, 3 its book, 4 the letters typed, 5 heldByLand, 6 the book's papers, 7 its mortgages, 8 standing, 9 the law's out, 10-19 parties, 20-29 their parts, 30-35 shares, 36-41 ships, 42-47 sounds, 48-107 papers, 108-167 mortgages, 168 the reference, 169-191 its arrays. -/
def zkd (k : Nat) : Nat :=
  if k < 10 then [5, 13, 14, 0, 7, 8, 12, 11, 8, 9].getD k 99 else if k < 20 then 3 else if k < 36 then 8 else if k < 42 then 4 else if k < 48 then 7 else if k < 108 then 2 else if k < 168 then 1 else if k < 169 then 6 else if k < 192 then [8, 8, 8, 8, 8, 8, 9, 8, 8, 8, 8, 8, 9, 10, 10, 8, 8, 10, 9, 8, 8, 8, 10].getD (k - 169) 99 else 99
def zln (k : Nat) : Nat :=
  if k < 10 then [0, 10, 6, 0, 8, 4, 60, 60, 60, 1].getD k 0 else if k < 36 then 10 else if k < 48 then 8 else if k < 169 then 0 else [8, 10, 100, 48, 60, 6, 6, 60, 60, 60, 60, 60, 60, 60, 60, 60, 60, 60, 10, 10, 10, 8, 60].getD (k - 169) 0
def znf (ci : Nat) : Nat := [5, 5, 9, 5, 5, 9, 31].getD ci 0
/-- the kind of slot j of an object of class ci: 0 int, 1 long, 2 a cell, 3 an enum's constant -/
def zty (ci j : Nat) : Nat :=
  if ci = 0 then [2, 2, 2, 0, 0].getD j 0 else if ci = 2 then [3, 0, 0, 1, 0, 0, 0, 0, 0].getD j 0 else if ci = 3 then [2, 0, 0, 0, 1].getD j 0 else if ci = 4 then [2, 2, 0, 0, 1].getD j 0 else if ci = 5 then [2, 2, 2, 2, 2, 0, 0, 0, 1].getD j 0 else if ci = 6 then [1, 0, 2, 0, 2, 2, 0, 2, 2, 2, 2, 0, 2, 2, 2, 2, 2, 2, 2, 2, 0, 2, 2, 2, 2, 0, 2, 2, 2, 1, 2].getD j 0 else 0
/-- the position that slot j of cell k names -/
def zrf (k j : Nat) : Nat :=
  if k = 0 then j + 1 else if k = 1 then 10 + j else if k = 2 then 36 + j else if k = 3 then j + 6 else if k = 6 then 48 + j else if k = 7 then 108 + j else if k < 20 then k + 10 else if k < 42 then (if j = 0 then k + 6 else k - 6) else [0, 0, 169, 0, 170, 171, 0, 172, 173, 174, 175, 0, 176, 177, 178, 179, 180, 181, 182, 183, 0, 184, 185, 186, 187, 0, 188, 189, 190, 0, 191].getD j 0
theorem zkd_lt {k : Nat} (h : zkd k < 99) : k < 192 := by
  rcases Nat.lt_or_ge k 192 with q | q
  · exact q
  · exfalso
    unfold zkd at h
    rw [if_neg (by omega), if_neg (by omega), if_neg (by omega), if_neg (by omega), if_neg (by omega), if_neg (by omega), if_neg (by omega), if_neg (by omega), if_neg (by omega)] at h
    omega
def zsv (σ : zS) (k j : Nat) : zV := if zty (zkd k) j = 0 then vI (σ k j) else if zty (zkd k) j = 1 then vJ (σ k j) else if zty (zkd k) j = 2 then vR (zrf k j) else vE (σ k j)
def zce (E : zE) (σ : zS) (k : Nat) : va_E :=
  if zkd k < 7 then .inr (zkd k, (List.range (znf (zkd k))).map (fun j => ztv E (zsv σ k j)))
  else if zkd k = 9 then .inl (E.2.2.1 9, zln k, .inr (.inl (fun j => zJ (σ k j))))
  else if zkd k < 11 then .inl (E.2.2.1 (zkd k), zln k, .inl (fun j => zI (σ k j)))
  else .inl (E.2.2.1 (zkd k), zln k, .inr (.inr (.inr (.inr (fun j => some (E.1 (zrf k j)))))))
def zwd (E : zE) (σ : zS) : va_W := (List.range 192).map (fun k => (E.1 k, zce E σ k))
theorem zwd_get {E : zE} {σ : zS} {k : Nat} (h : k < 192) : (zwd E σ)[k]? = some (E.1 k, zce E σ k) := by
  simp [zwd, h]
theorem zwd_inv {E : zE} {σ : zS} {k : Nat} {q : Nat × va_E} (h : (zwd E σ)[k]? = some q) : k < 192 ∧ q.1 = E.1 k := by
  simp only [zwd, List.getElem?_map] at h
  rcases Nat.lt_or_ge k 192 with hk | hk
  · rw [List.getElem?_range hk] at h
    cases h
    exact ⟨hk, rfl⟩
  · rw [List.getElem?_eq_none (by simpa using hk)] at h
    cases h
theorem zce_row {E : zE} {σ σ' : zS} {k : Nat} (h : σ k = σ' k) : zce E σ k = zce E σ' k := by
  simp only [zce, zsv, h]
theorem zwd_set {E : zE} {σ : zS} {k j : Nat} {v : Int} {e : va_E} (h : zce E (zsu σ k j v) k = e) : (zwd E σ).set k (E.1 k, e) = zwd E (zsu σ k j v) := by
  subst h
  apply List.ext_getElem?
  intro i
  rw [List.getElem?_set]
  by_cases hi : k = i
  · subst hi
    rw [if_pos rfl]
    by_cases hk : k < 192
    · rw [if_pos (by simpa [zwd] using hk), zwd_get hk]
    · rw [if_neg (by simpa [zwd] using hk), List.getElem?_eq_none (by simpa [zwd] using hk)]
  · rw [if_neg hi]
    by_cases hk : i < 192
    · rw [zwd_get hk, zwd_get hk, zce_row (zsu_row (Ne.symm hi))]
    · rw [List.getElem?_eq_none (by simpa [zwd] using hk), List.getElem?_eq_none (by simpa [zwd] using hk)]
theorem zwd_D {E : zE} {σ σ' : zS} {A : Nat → Prop} (h : va_D A (zwd E σ)) : va_D A (zwd E σ') := by
  refine ⟨fun i j p q hi hj hpq => ?_, fun k q hk => ?_⟩
  · obtain ⟨i1, i2⟩ := zwd_inv hi
    obtain ⟨j1, j2⟩ := zwd_inv hj
    exact h.1 i j _ _ (zwd_get i1) (zwd_get j1) (by rw [← i2, ← j2]; exact hpq)
  · obtain ⟨k1, k2⟩ := zwd_inv hk
    rw [k2]
    exact h.2 k _ (zwd_get k1)
/-- the cells of the world, and all that come from sz on -/
def zAW (E : zE) (sz : Nat) : Nat → Prop := fun q => (∃ k, k < 192 ∧ q = E.1 k) ∨ sz ≤ q
theorem zAW_D {E : zE} {σ : zS} {A : Nat → Prop} {sz : Nat} (h : va_D A (zwd E σ)) : va_D (zAW E sz) (zwd E σ) :=
  ⟨h.1, fun k q hk => Or.inl ⟨k, (zwd_inv hk).1, (zwd_inv hk).2⟩⟩
theorem zAW_le {E : zE} {σ : zS} {A : Nat → Prop} {H0 H : Heap} {locs : List Loc} (h : va_D A (zwd E σ)) (hS : va_S A H0 H locs) (hA : ∀ q, H0.size ≤ q → A q) : ∀ q, zAW E H.size q → A q := by
  intro q hq
  rcases hq with ⟨k, hk, rfl⟩ | hq
  · exact h.2 k _ (zwd_get hk)
  · exact hA q (Nat.le_trans hS.1 hq)
def zys (E : zE) : List (ClassId × FieldType) := [(E.2.2.1 7, .char), (E.2.2.1 8, .int), (E.2.2.1 9, .long), (E.2.2.1 10, .boolean), (E.2.2.1 11, .object RX2), (E.2.2.1 12, .object RX3), (E.2.2.1 13, .object RX4), (E.2.2.1 14, .object RX5)]
def znw : List Cond := [.fieldLinkNest RX6 113 "Flaghall$Ship" "shares" "[I" "Flaghall", .fieldLinkNest RX6 132 "Flaghall$Ship" "flown" "I" "Flaghall", .fieldLinkNest RX6 137 "Flaghall$Ship" "graceFrom" "J" "Flaghall", .fieldLinkNest RX6 153 "Flaghall$Book" "paperCount" "I" "Flaghall", .fieldLinkNest RX6 181 "Flaghall$Paper" "lienClass" "I" "Flaghall", .fieldLinkNest RX6 186 "Flaghall$Paper" "amount" "I" "Flaghall", .fieldLinkNest RX6 208 "Flaghall$Ship" "soundLength" "I" "Flaghall", .fieldLinkNest RX6 211 "Flaghall$Ship" "soundLetters" "[C" "Flaghall", .fieldLinkNest RX6 220 "Flaghall$Party" "received" "J" "Flaghall", .fieldLinkNest RX6 227 "Flaghall$Book" "papers" "[LFlaghall$Paper;" "Flaghall", .fieldLinkNest RX6 247 "Flaghall$Book" "mortgageCount" "I" "Flaghall", .fieldLinkNest RX6 260 "Flaghall$Party" "nextHome" "I" "Flaghall", .fieldLinkNest RX6 269 "Flaghall$Paper" "party" "I" "Flaghall", .fieldLinkNest RX6 285 "Flaghall$Book" "standing" "[I" "Flaghall", .fieldLinkNest RX6 288 "Flaghall$Book" "mortgages" "[LFlaghall$Mortgage;" "Flaghall", .fieldLinkNest RX6 292 "Flaghall$Mortgage" "party" "I" "Flaghall", .fieldLinkNest RX6 295 "Flaghall$Mortgage" "amount" "I" "Flaghall", .fieldLinkNest RX6 69 "Flaghall$Party" "parts" "[I" "Flaghall", .fieldLinkNest RX6 72 "Flaghall$Party" "isCompany" "Z" "Flaghall", .fieldLinkNest RX6 92 "Flaghall$Party" "home" "I" "Flaghall", .fieldLinkNest RX0 33 "Flaghall$Paper" "kind" "LFlaghall$Kind;" "Flaghall", .fieldLinkNest RX0 37 "Flaghall$Paper" "ship" "I" "Flaghall", .fieldLinkNest RX0 40 "Flaghall$Paper" "party" "I" "Flaghall", .fieldLinkNest RX0 43 "Flaghall$Paper" "minute" "J" "Flaghall", .fieldLinkNest RX0 50 "Flaghall$Mortgage" "ship" "I" "Flaghall", .fieldLinkNest RX0 51 "Flaghall$Mortgage" "party" "I" "Flaghall", .fieldLinkNest RX0 52 "Flaghall$Mortgage" "amount" "I" "Flaghall", .fieldLinkNest RX0 59 "Flaghall$Mortgage" "place" "I" "Flaghall", .fieldLinkNest RX0 62 "Flaghall$Mortgage" "row" "I" "Flaghall", .fieldLinkNest RX0 74 "Flaghall$Paper" "mortgage" "I" "Flaghall", .fieldLinkNest RX0 77 "Flaghall$Paper" "place" "I" "Flaghall", .fieldLinkNest RX0 92 "Flaghall$Paper" "isPlaceTaken" "Z" "Flaghall", .methodLinkNest RX6 101 yX5_soundsLike "Flaghall", .methodLinkNest RX6 105 yX5_handTo "Flaghall", .methodLinkNest RX6 128 yX5_flagAt "Flaghall", .methodLinkNest RX6 149 yX0_enter "Flaghall", .methodLinkNest RX6 157 yX0_enterMortgage "Flaghall", .methodLinkNest RX6 164 yX0_rankOf "Flaghall", .methodLinkNest RX6 168 yX0_isOver "Flaghall", .methodLinkNest RX6 174 yX0_enterDischarge "Flaghall", .methodLinkNest RX6 216 yX0_mortgageOfRank "Flaghall", .methodLinkNest RX6 223 yX0_firstOpenRow "Flaghall", .methodLinkNest RX6 23 yX0_init "Flaghall", .methodLinkNest RX6 231 yX3_isLienOn "Flaghall", .methodLinkNest RX6 281 yX0_readUpTo "Flaghall", .methodLinkNest RX6 36 yX4_init "Flaghall", .methodLinkNest RX6 37 yX5_init "Flaghall", .methodLinkNest RX6 76 yX4_partsOfParties "Flaghall", .methodLinkNest RX6 97 yX5_takeName "Flaghall", .methodLinkNest RX0 27 yX3_init "Flaghall", .methodLinkNest RX0 28 yX2_init "Flaghall", .methodLinkNest RX0 88 yX3_holdsPlaceFor "Flaghall", .castable "java/lang/IllegalArgumentException" "java/lang/IllegalArgumentException", .castable "java/lang/IllegalStateException" "java/lang/IllegalStateException", .castable "java/lang/IndexOutOfBoundsException" "java/lang/IndexOutOfBoundsException", .declares ⟨"java/lang/Exception", "<init>", "()V"⟩, .declares ⟨"java/lang/Exception", "<init>", "(Ljava/lang/String;)V"⟩, .declares ⟨"java/lang/RuntimeException", "<init>", "()V"⟩, .declares ⟨"java/lang/RuntimeException", "<init>", "(Ljava/lang/String;)V"⟩, .declares ⟨"java/lang/Throwable", "<init>", "()V"⟩, .declares ⟨"java/lang/Throwable", "<init>", "(Ljava/lang/String;)V"⟩]
def znc : List (String × String) := [("java/lang/IllegalArgumentException", "java/lang/IllegalStateException"), ("java/lang/IllegalArgumentException", "java/lang/IndexOutOfBoundsException"), ("java/lang/IllegalStateException", "java/lang/IllegalArgumentException"), ("java/lang/IllegalStateException", "java/lang/IndexOutOfBoundsException"), ("java/lang/IndexOutOfBoundsException", "java/lang/IllegalArgumentException"), ("java/lang/IndexOutOfBoundsException", "java/lang/IllegalStateException")]
def zen : List (Nat × String) := [(0, "NOTICE"), (1, "MORTGAGE"), (2, "DISCHARGE"), (3, "RESTORING"), (4, "LIEN"), (5, "COURT")]
def zst : List (String × Nat × String) := [(RX6, 40, "not a letter a to z"), (RX6, 51, "the word is full"), (RX6, 80, "a person, or more parts than there are"), (RX6, 95, "nothing is typed, or there are enough ships"), (RX6, 111, "seller and buyer are the same"), (RX6, 116, "the seller has not so many"), (RX6, 122, "too few shares are of that land"), (RX6, 172, "over by a sale, or so already"), (RX6, 214, "not a minute up to now"), (RX6, 237, "no such land"), (RX6, 243, "no such party"), (RX6, 245, "no such ship"), (RX6, 250, "no such mortgage"), (RX6, 252, "no such place"), (RX6, 254, "out of range"), (RX6, 256, "there are enough papers"), (RX6, 258, "there are enough parties")]
def znk : Cond → Bool
  | .fieldLinkNest .. => true
  | .methodLinkNest .. => true
  | .castable .. => true
  | .declares .. => true
  | _ => false
theorem znw_k : znw.all znk = true := by decide +kernel
theorem znk_warm {w : Cond} (hk : znk w = true) {s U : State} (hW : s.WarmedH U.vm) (h : va_Nw w s) : va_Nw w U := by
  cases w <;> first | (exact va_Nw.warmF hW h) | (exact va_Nw.warmM hW h) | (exact va_Nw.warmC hW h) | (exact va_Nw.warmD hW h) | (exact absurd hk (by simp [znk]))
/-- what holds of the launch, wherever the class's methods run -/
def zEnv (E : zE) (A : Nat → Prop) (U : State) : Prop :=
  va_K E.2.2.2 vwCl (zys E) U ∧ (∀ w ∈ znw, va_Nw w U) ∧ (∀ q ∈ znc, va_Nc q.1 q.2 U) ∧ (∀ q ∈ zen, va_Z RX1 q.2 "LFlaghall$Kind;" (.ref (E.2.1 q.1)) A U U.heap) ∧ (∀ q ∈ zst, ∃ sa, vk_R q.1 q.2.1 q.2.2 sa U) ∧ vx_Zq Bundle.tN "UNASSIGNED_STACK" Bundle.steD A U U.heap ∧ vx_Zq Bundle.tN "SUPPRESSED_SENTINEL" Bundle.listD A U U.heap ∧ (∀ i j : Nat, i < 6 → j < 6 → E.2.1 i = E.2.1 j → i = j)
theorem zEnv.to {E : zE} {A B : Nat → Prop} {u U : State} (h : zEnv E A u) (hW : u.WarmedH U.vm) (hq : ∀ a : Nat, a < u.heap.size → ¬ A a → U.heap[a]? = u.heap[a]?) (hAB : ∀ q, B q → A q) : zEnv E B U := by
  obtain ⟨h1, h2, h3, h4, h5, h6, h7, h8⟩ := h
  refine ⟨va_K.moved hW.alike h1, fun w hw => znk_warm (List.all_eq_true.mp znw_k w hw) hW (h2 w hw), fun q hq => va_Nc.moved hW.alike (h3 q hq), fun q hq' => ?_, fun q hq' => ?_, ?_, ?_, h8⟩
  · exact ((va_Z.moved hW.alike (h4 q hq')).kept hq).narrow hAB
  · obtain ⟨sa, hs⟩ := h5 q hq'
    exact ⟨sa, vk_R.warm hW hs⟩
  · exact (vx_Zq.moved hW.alike (h6.kept hq)).narrow hAB
  · exact (vx_Zq.moved hW.alike (h7.kept hq)).narrow hAB
/-- what a method finds: the world σ, and the launch -/
def zPre (E : zE) (σ : zS) (sz : Nat) (U : State) : Prop := U.heap.size = sz ∧ va_P E.2.2.2 vwCl (zwd E σ) U.heap ∧ va_D (fun _ => True) (zwd E σ) ∧ zEnv E (zAW E sz) U
def zrv (E : zE) (rk : Nat) (v : Int) : Option Value := if rk = 0 then none else if rk = 1 then some (.int (zI v)) else if rk = 2 then some (.long (zJ v)) else some (.ref (E.1 v.toNat))
/-- an exception's class by its number -/
def zex (t : Nat) : String := if t = 1 then "java/lang/IndexOutOfBoundsException" else if t = 2 then "java/lang/IllegalArgumentException" else "java/lang/IllegalStateException"
def zQc (E : zE) (sz rk t : Nat) (v : Int) (σ1 : zS) : Array Value → State → Outcome → State → Prop := fun _ st oc u => t = 0 ∧ oc = .returned (zrv E rk v) ∧ va_P E.2.2.2 vwCl (zwd E σ1) u.heap ∧ va_F (zAW E sz) st u
def zXC (E : zE) (sz t : Nat) (σ1 : zS) : String → State → State → Prop := fun X st u => t ≠ 0 ∧ X = zex t ∧ va_P E.2.2.2 vwCl (zwd E σ1) u.heap ∧ va_F (zAW E sz) st u
/-- a method's contract: from the world σ, called with as, it comes to (t, v) in the world σ1: t = 0: returns v; else it throws the exception t -/
def zCtr (l : Launch) (y : MethodName) (w : Cond) (rm : Room) (as : List zV) (rk : Nat) (σ : zS) (t : Nat) (v : Int) (σ1 : zS) : Prop :=
  l.stackTraces = false → ∀ (E : zE) (sz : Nat), vx_Met l y (w :: zBG) rm (va_Pc (as.map (ztv E)) (zPre E σ sz)) (zQc E sz rk t v σ1) (zXC E sz t σ1) rm.cells rm.slots (zAW E sz)
abbrev zO : Type := Option (Nat × Int × zS)
end
section
/-! ===== the rows of the walk over the world of numbers ===== -/
abbrev zK : Type := Program × Launch × Env × Room × State × MethodId × Array Value × List Frame × Method × Code × zE × (Nat → Prop) × (State → Prop) × Nat
def zlv (E : zE) (lv : List (Nat × zV)) : List (Nat × Value) := lv.map (fun q => (q.1, ztv E q.2))
def WG (K : zK) (cl sl : Nat) (σ : zS) (pc : Nat) (lv : List (Nat × zV)) (st : List zV) : Prop :=
  match K with
  | (p, l, e, R, s, m, args, below, meth, c, E, A, Q, n) => ∀ (H : Heap) (locs : List Loc) (ls : Array Slot), va_P E.2.2.2 vwCl (zwd E σ) H → va_S A s.heap H locs → lv_has ls n (zlv E lv) → W p l e R s m args below meth c H locs cl sl Q (F0 m pc ls (st.map (ztv E)))
def CX (K : zK) (cc : ByteArray) (own : String) (ret : Option FieldType) (rm : Room) (tb : List (Nat × Nat × Nat × Nat)) : Prop :=
  match K with
  | (p, l, e, R, s, m, args, below, meth, c, E, A, Q, n) => p.tables.exec = Jvm.exec ∧ c.code = cc ∧ meth.sig.returnType = ret ∧ c.maxLocals = n ∧ s.vm.findClass own = some m.cls ∧ (∀ w ∈ zBG, w.before args s = true) ∧ meth.locks = false ∧ zEnv E A s ∧ (∀ σ, va_D A (zwd E σ)) ∧ (∀ q, s.heap.size ≤ q → A q) ∧ l.stackTraces = false ∧ R = rm ∧ c.exceptionTable.toList = tableOf tb
theorem zlv_get {E : zE} {lv : List (Nat × zV)} {k i : Nat} {v : zV} (h : lv[k]? = some (i, v)) : (zlv E lv)[k]? = some (i, ztv E v) := by
  simp [zlv, List.getElem?_map, h]
def zup (i : Nat) (v : zV) (lv : List (Nat × zV)) : List (Nat × zV) := (i, v) :: lv.filter (fun q => !(q.1 == i) && !(q.1 + 1 == i && zcat q.2 == 2))
def zupL (i : Nat) (v : zV) (lv : List (Nat × zV)) : List (Nat × zV) := (i, v) :: lv.filter (fun q => !(q.1 == i) && (!(q.1 == i + 1) && !(q.1 + 1 == i && zcat q.2 == 2)))
theorem zlv_up (E : zE) (i : Nat) (v : zV) (lv : List (Nat × zV)) : (i, ztv E v) :: (zlv E lv).filter (fun q => !(q.1 == i) && !(q.1 + 1 == i && q.2.category == 2)) = zlv E (zup i v lv) := by
  simp only [zlv, zup, List.map_cons, List.filter_map]
  congr 2
  apply List.filter_congr
  intro q _
  simp [Function.comp, ztv_cat]
theorem zlv_upL (E : zE) (i : Nat) (v : zV) (lv : List (Nat × zV)) : (i, ztv E v) :: (zlv E lv).filter (fun q => !(q.1 == i) && (!(q.1 == i + 1) && !(q.1 + 1 == i && q.2.category == 2))) = zlv E (zupL i v lv) := by
  simp only [zlv, zupL, List.map_cons, List.filter_map]
  congr 2
  apply List.filter_congr
  intro q _
  simp [Function.comp, ztv_cat]
def zpk (l : List (Nat × zV)) (ks : List Nat) : List (Nat × zV) := ks.filterMap (fun k => l[k]?)
theorem zlv_pk (E : zE) (l : List (Nat × zV)) (ks : List Nat) : lv_pick (zlv E l) ks = zlv E (zpk l ks) := by
  simp only [lv_pick, zpk, zlv]
  induction ks with
  | nil => rfl
  | cons k ks ih =>
    have e : (List.map (fun q : Nat × zV => (q.1, ztv E q.2)) l)[k]? = (l[k]?).map (fun q => (q.1, ztv E q.2)) := List.getElem?_map
    rw [List.filterMap_cons, List.filterMap_cons, e, ih]
    cases l[k]? <;> rfl
theorem zI_add (x y : Int) : zI x + zI y = zI (x + y) := (Int32.ofInt_add x y).symm
theorem zI_sub (x y : Int) : zI x - zI y = zI (x - y) := (Int32.ofInt_sub x y).symm
theorem zI_mul (x y : Int) : zI x * zI y = zI (x * y) := (Int32.ofInt_mul x y).symm
theorem zJ_add (x y : Int) : zJ x + zJ y = zJ (x + y) := (Int64.ofInt_add x y).symm
theorem zJ_sub (x y : Int) : zJ x - zJ y = zJ (x - y) := (Int64.ofInt_sub x y).symm
theorem zJ_mul (x y : Int) : zJ x * zJ y = zJ (x * y) := (Int64.ofInt_mul x y).symm
theorem zI_lt {x y : Int} : zI x < zI y ↔ w32 x < w32 y := Int32.lt_iff_toInt_lt
theorem zI_le {x y : Int} : zI x ≤ zI y ↔ w32 x ≤ w32 y := Int32.le_iff_toInt_le
theorem zI_eq {x y : Int} : zI x = zI y ↔ w32 x = w32 y := Int32.toInt_inj.symm
theorem zJ_lt {x y : Int} : zJ x < zJ y ↔ w64 x < w64 y := Int64.lt_iff_toInt_lt
theorem zJ_le {x y : Int} : zJ x ≤ zJ y ↔ w64 x ≤ w64 y := Int64.le_iff_toInt_le
theorem zJ_eq {x y : Int} : zJ x = zJ y ↔ w64 x = w64 y := Int64.toInt_inj.symm
theorem zI_idx (x : Int) : (zI x).toNatClampNeg = (w32 x).toNat := rfl
theorem zI_i2l (x : Int) : (zI x).toInt64 = zJ (w32 x) := by
  apply Int64.toInt_inj.mp
  show (zI x).toInt64.toInt = (zJ (w32 x)).toInt
  rw [Int32.toInt_toInt64]
  show w32 x = (Int64.ofInt (w32 x)).toInt
  rw [Int64.toInt_ofInt_of_le]
  · have := Int32.le_toInt (zI x)
    show - 2 ^ 63 ≤ (zI x).toInt
    omega
  · have := Int32.toInt_lt (zI x)
    show (zI x).toInt < 2 ^ 63
    omega
theorem vp_in_z {x : Int} {n : Nat} (h : 0 ≤ w32 x ∧ w32 x < n) : vp_in (zI x) n := by
  rintro (h1 | h1)
  · have h2 := Int32.lt_iff_toInt_lt.mp h1
    have h3 : (zI x).toInt = w32 x := rfl
    rw [h3] at h2
    have h4 : (0 : Int32).toInt = 0 := rfl
    omega
  · rw [zI_idx] at h1
    omega
section RW
variable {K : zK} {cc : ByteArray} {own : String} {ret : Option FieldType} {rm : Room} {tb : List (Nat × Nat × Nat × Nat)} {cl sl : Nat} {σ : zS} {pc : Nat} {lv lv' : List (Nat × zV)} {st : List zV} {x y : Int}
theorem r_iconst (X : CX K cc own ret rm tb) {n : Int} (d : decode cc pc = .ok (.iconst n, 1)) (k : WG K cl sl σ (pc + 1) lv (vI n :: st)) : WG K cl sl σ pc lv st := by
  obtain ⟨p, l, e, R, s, m, args, below, meth, c, E, A, Q, nL⟩ := K
  obtain ⟨hx, hb, hr, hml, hown, hts, hlk, hE, hD, hA, htr, hR, htb⟩ := X
  intro H locs ls hP hS hl
  exact lv_iconst (v := zI n) hx hb d rfl (k H locs ls hP hS hl)
theorem r_bipush (X : CX K cc own ret rm tb) {n : Int} (d : decode cc pc = .ok (.bipush n, 2)) (hv : (Int8.ofInt n).toInt32 = zI n) (k : WG K cl sl σ (pc + 2) lv (vI n :: st)) : WG K cl sl σ pc lv st := by
  obtain ⟨p, l, e, R, s, m, args, below, meth, c, E, A, Q, nL⟩ := K
  obtain ⟨hx, hb, hr, hml, hown, hts, hlk, hE, hD, hA, htr, hR, htb⟩ := X
  intro H locs ls hP hS hl
  exact lv_bipush (v := zI n) hx hb d hv (k H locs ls hP hS hl)
theorem r_ldc (X : CX K cc own ret rm tb) {i : Nat} {v : Int32} {n : Int} (hw : Cond.constant own i v ∈ zBG) (hv : v = zI n) (d : decode cc pc = .ok (.ldc i, 2)) (k : WG K cl sl σ (pc + 2) lv (vI n :: st)) : WG K cl sl σ pc lv st := by
  obtain ⟨p, l, e, R, s, m, args, below, meth, c, E, A, Q, nL⟩ := K
  obtain ⟨hx, hb, hr, hml, hown, hts, hlk, hE, hD, hA, htr, hR, htb⟩ := X
  intro H locs ls hP hS hl
  subst hv
  exact W.ldc (g := F0 m pc ls (st.map (ztv E))) hx hb hown (hts _ hw) rfl d (k H locs ls hP hS hl)
theorem r_lconst (X : CX K cc own ret rm tb) {i : Fin 2} {n : Int} (d : decode cc pc = .ok (.lconst i, 1)) (hv : Int64.ofNat (i : Nat) = zJ n) (k : WG K cl sl σ (pc + 1) lv (vJ n :: st)) : WG K cl sl σ pc lv st := by
  obtain ⟨p, l, e, R, s, m, args, below, meth, c, E, A, Q, nL⟩ := K
  obtain ⟨hx, hb, hr, hml, hown, hts, hlk, hE, hD, hA, htr, hR, htb⟩ := X
  intro H locs ls hP hS hl
  exact lv_lconst (v := zJ n) hx hb d hv (k H locs ls hP hS hl)
theorem r_ldc2 (X : CX K cc own ret rm tb) {i : Nat} {v : Int64} {n : Int} (hw : Cond.constantLong own i v ∈ zBG) (hv : v = zJ n) (d : decode cc pc = .ok (.ldc2_w i, 3)) (k : WG K cl sl σ (pc + 3) lv (vJ n :: st)) : WG K cl sl σ pc lv st := by
  obtain ⟨p, l, e, R, s, m, args, below, meth, c, E, A, Q, nL⟩ := K
  obtain ⟨hx, hb, hr, hml, hown, hts, hlk, hE, hD, hA, htr, hR, htb⟩ := X
  intro H locs ls hP hS hl
  subst hv
  exact lv_ldc2 hx hb hown (hts _ hw) d (k H locs ls hP hS hl)
theorem r_iload_n (X : CX K cc own ret rm tb) {k0 : Fin 4} {i j : Nat} (d : decode cc pc = .ok (.iload_n k0, 1)) (hi : (k0 : Nat) = i) (hj : lv[j]? = some (i, vI x)) (k : WG K cl sl σ (pc + 1) lv (vI x :: st)) : WG K cl sl σ pc lv st := by
  obtain ⟨p, l, e, R, s, m, args, below, meth, c, E, A, Q, nL⟩ := K
  obtain ⟨hx, hb, hr, hml, hown, hts, hlk, hE, hD, hA, htr, hR, htb⟩ := X
  intro H locs ls hP hS hl
  exact lv_iload_n (x := zI x) hx hb d hi (lv_at hl j (zlv_get hj)) (k H locs ls hP hS hl)
theorem r_iload (X : CX K cc own ret rm tb) {i j : Nat} (d : decode cc pc = .ok (.iload i, 2)) (hj : lv[j]? = some (i, vI x)) (k : WG K cl sl σ (pc + 2) lv (vI x :: st)) : WG K cl sl σ pc lv st := by
  obtain ⟨p, l, e, R, s, m, args, below, meth, c, E, A, Q, nL⟩ := K
  obtain ⟨hx, hb, hr, hml, hown, hts, hlk, hE, hD, hA, htr, hR, htb⟩ := X
  intro H locs ls hP hS hl
  exact lv_iload (x := zI x) hx hb d (lv_at hl j (zlv_get hj)) (k H locs ls hP hS hl)
theorem r_istore_n (X : CX K cc own ret rm tb) {k0 : Fin 4} {i : Nat} (d : decode cc pc = .ok (.istore_n k0, 1)) (hi : (k0 : Nat) = i) (hn : i < K.2.2.2.2.2.2.2.2.2.2.2.2.2) (hv : zup i (vI x) lv = lv') (k : WG K cl sl σ (pc + 1) lv' st) : WG K cl sl σ pc lv (vI x :: st) := by
  obtain ⟨p, l, e, R, s, m, args, below, meth, c, E, A, Q, nL⟩ := K
  obtain ⟨hx, hb, hr, hml, hown, hts, hlk, hE, hD, hA, htr, hR, htb⟩ := X
  intro H locs ls hP hS hl
  subst hv
  exact lv_istore_n (x := zI x) hx hb d hi hl hn (zlv_up E i (vI x) lv) (fun ls2 hl2 => k H locs ls2 hP hS hl2)
theorem r_istore (X : CX K cc own ret rm tb) {i : Nat} (d : decode cc pc = .ok (.istore i, 2)) (hn : i < K.2.2.2.2.2.2.2.2.2.2.2.2.2) (hv : zup i (vI x) lv = lv') (k : WG K cl sl σ (pc + 2) lv' st) : WG K cl sl σ pc lv (vI x :: st) := by
  obtain ⟨p, l, e, R, s, m, args, below, meth, c, E, A, Q, nL⟩ := K
  obtain ⟨hx, hb, hr, hml, hown, hts, hlk, hE, hD, hA, htr, hR, htb⟩ := X
  intro H locs ls hP hS hl
  subst hv
  exact lv_istore (x := zI x) hx hb d hl hn (zlv_up E i (vI x) lv) (fun ls2 hl2 => k H locs ls2 hP hS hl2)
theorem r_lload_n (X : CX K cc own ret rm tb) {k0 : Fin 4} {i j : Nat} (d : decode cc pc = .ok (.lload_n k0, 1)) (hi : (k0 : Nat) = i) (hj : lv[j]? = some (i, vJ x)) (k : WG K cl sl σ (pc + 1) lv (vJ x :: st)) : WG K cl sl σ pc lv st := by
  obtain ⟨p, l, e, R, s, m, args, below, meth, c, E, A, Q, nL⟩ := K
  obtain ⟨hx, hb, hr, hml, hown, hts, hlk, hE, hD, hA, htr, hR, htb⟩ := X
  intro H locs ls hP hS hl
  exact lv_lload_n (x := zJ x) hx hb d hi (lv_at hl j (zlv_get hj)) (k H locs ls hP hS hl)
theorem r_lload (X : CX K cc own ret rm tb) {i j : Nat} (d : decode cc pc = .ok (.lload i, 2)) (hj : lv[j]? = some (i, vJ x)) (k : WG K cl sl σ (pc + 2) lv (vJ x :: st)) : WG K cl sl σ pc lv st := by
  obtain ⟨p, l, e, R, s, m, args, below, meth, c, E, A, Q, nL⟩ := K
  obtain ⟨hx, hb, hr, hml, hown, hts, hlk, hE, hD, hA, htr, hR, htb⟩ := X
  intro H locs ls hP hS hl
  exact lv_lload (x := zJ x) hx hb d (lv_at hl j (zlv_get hj)) (k H locs ls hP hS hl)
theorem r_lstore_n (X : CX K cc own ret rm tb) {k0 : Fin 4} {i : Nat} (d : decode cc pc = .ok (.lstore_n k0, 1)) (hi : (k0 : Nat) = i) (hn : i + 1 < K.2.2.2.2.2.2.2.2.2.2.2.2.2) (hv : zupL i (vJ x) lv = lv') (k : WG K cl sl σ (pc + 1) lv' st) : WG K cl sl σ pc lv (vJ x :: st) := by
  obtain ⟨p, l, e, R, s, m, args, below, meth, c, E, A, Q, nL⟩ := K
  obtain ⟨hx, hb, hr, hml, hown, hts, hlk, hE, hD, hA, htr, hR, htb⟩ := X
  intro H locs ls hP hS hl
  subst hv
  exact lv_lstore_n (x := zJ x) hx hb d hi hl hn (zlv_upL E i (vJ x) lv) (fun ls2 hl2 => k H locs ls2 hP hS hl2)
theorem r_lstore (X : CX K cc own ret rm tb) {i : Nat} (d : decode cc pc = .ok (.lstore i, 2)) (hn : i + 1 < K.2.2.2.2.2.2.2.2.2.2.2.2.2) (hv : zupL i (vJ x) lv = lv') (k : WG K cl sl σ (pc + 2) lv' st) : WG K cl sl σ pc lv (vJ x :: st) := by
  obtain ⟨p, l, e, R, s, m, args, below, meth, c, E, A, Q, nL⟩ := K
  obtain ⟨hx, hb, hr, hml, hown, hts, hlk, hE, hD, hA, htr, hR, htb⟩ := X
  intro H locs ls hP hS hl
  subst hv
  exact lv_lstore (x := zJ x) hx hb d hl hn (zlv_upL E i (vJ x) lv) (fun ls2 hl2 => k H locs ls2 hP hS hl2)
theorem r_aload_nR (X : CX K cc own ret rm tb) {r : Nat} {k0 : Fin 4} {i j : Nat} (d : decode cc pc = .ok (.aload_n k0, 1)) (hi : (k0 : Nat) = i) (hj : lv[j]? = some (i, vR r)) (k : WG K cl sl σ (pc + 1) lv (vR r :: st)) : WG K cl sl σ pc lv st := by
  obtain ⟨p, l, e, R, s, m, args, below, meth, c, E, A, Q, nL⟩ := K
  obtain ⟨hx, hb, hr, hml, hown, hts, hlk, hE, hD, hA, htr, hR, htb⟩ := X
  intro H locs ls hP hS hl
  exact lv_aload_n (x := E.1 r) hx hb d hi (lv_at hl j (zlv_get hj)) (k H locs ls hP hS hl)
theorem r_aloadR (X : CX K cc own ret rm tb) {r : Nat} {i j : Nat} (d : decode cc pc = .ok (.aload i, 2)) (hj : lv[j]? = some (i, vR r)) (k : WG K cl sl σ (pc + 2) lv (vR r :: st)) : WG K cl sl σ pc lv st := by
  obtain ⟨p, l, e, R, s, m, args, below, meth, c, E, A, Q, nL⟩ := K
  obtain ⟨hx, hb, hr, hml, hown, hts, hlk, hE, hD, hA, htr, hR, htb⟩ := X
  intro H locs ls hP hS hl
  exact lv_aload (x := E.1 r) hx hb d (lv_at hl j (zlv_get hj)) (k H locs ls hP hS hl)
theorem r_astore_nR (X : CX K cc own ret rm tb) {r : Nat} {k0 : Fin 4} {i : Nat} (d : decode cc pc = .ok (.astore_n k0, 1)) (hi : (k0 : Nat) = i) (hn : i < K.2.2.2.2.2.2.2.2.2.2.2.2.2) (hv : zup i (vR r) lv = lv') (k : WG K cl sl σ (pc + 1) lv' st) : WG K cl sl σ pc lv (vR r :: st) := by
  obtain ⟨p, l, e, R, s, m, args, below, meth, c, E, A, Q, nL⟩ := K
  obtain ⟨hx, hb, hr, hml, hown, hts, hlk, hE, hD, hA, htr, hR, htb⟩ := X
  intro H locs ls hP hS hl
  subst hv
  exact lv_astore_n (x := E.1 r) hx hb d hi hl hn (zlv_up E i (vR r) lv) (fun ls2 hl2 => k H locs ls2 hP hS hl2)
theorem r_astoreR (X : CX K cc own ret rm tb) {r : Nat} {i : Nat} (d : decode cc pc = .ok (.astore i, 2)) (hn : i < K.2.2.2.2.2.2.2.2.2.2.2.2.2) (hv : zup i (vR r) lv = lv') (k : WG K cl sl σ (pc + 2) lv' st) : WG K cl sl σ pc lv (vR r :: st) := by
  obtain ⟨p, l, e, R, s, m, args, below, meth, c, E, A, Q, nL⟩ := K
  obtain ⟨hx, hb, hr, hml, hown, hts, hlk, hE, hD, hA, htr, hR, htb⟩ := X
  intro H locs ls hP hS hl
  subst hv
  exact lv_astore (x := E.1 r) hx hb d hl hn (zlv_up E i (vR r) lv) (fun ls2 hl2 => k H locs ls2 hP hS hl2)
theorem r_aload_nA (X : CX K cc own ret rm tb) {r : Nat} {k0 : Fin 4} {i j : Nat} (d : decode cc pc = .ok (.aload_n k0, 1)) (hi : (k0 : Nat) = i) (hj : lv[j]? = some (i, vA r)) (k : WG K cl sl σ (pc + 1) lv (vA r :: st)) : WG K cl sl σ pc lv st := by
  obtain ⟨p, l, e, R, s, m, args, below, meth, c, E, A, Q, nL⟩ := K
  obtain ⟨hx, hb, hr, hml, hown, hts, hlk, hE, hD, hA, htr, hR, htb⟩ := X
  intro H locs ls hP hS hl
  exact lv_aload_n (x := r) hx hb d hi (lv_at hl j (zlv_get hj)) (k H locs ls hP hS hl)
theorem r_aloadA (X : CX K cc own ret rm tb) {r : Nat} {i j : Nat} (d : decode cc pc = .ok (.aload i, 2)) (hj : lv[j]? = some (i, vA r)) (k : WG K cl sl σ (pc + 2) lv (vA r :: st)) : WG K cl sl σ pc lv st := by
  obtain ⟨p, l, e, R, s, m, args, below, meth, c, E, A, Q, nL⟩ := K
  obtain ⟨hx, hb, hr, hml, hown, hts, hlk, hE, hD, hA, htr, hR, htb⟩ := X
  intro H locs ls hP hS hl
  exact lv_aload (x := r) hx hb d (lv_at hl j (zlv_get hj)) (k H locs ls hP hS hl)
theorem r_astore_nA (X : CX K cc own ret rm tb) {r : Nat} {k0 : Fin 4} {i : Nat} (d : decode cc pc = .ok (.astore_n k0, 1)) (hi : (k0 : Nat) = i) (hn : i < K.2.2.2.2.2.2.2.2.2.2.2.2.2) (hv : zup i (vA r) lv = lv') (k : WG K cl sl σ (pc + 1) lv' st) : WG K cl sl σ pc lv (vA r :: st) := by
  obtain ⟨p, l, e, R, s, m, args, below, meth, c, E, A, Q, nL⟩ := K
  obtain ⟨hx, hb, hr, hml, hown, hts, hlk, hE, hD, hA, htr, hR, htb⟩ := X
  intro H locs ls hP hS hl
  subst hv
  exact lv_astore_n (x := r) hx hb d hi hl hn (zlv_up E i (vA r) lv) (fun ls2 hl2 => k H locs ls2 hP hS hl2)
theorem r_astoreA (X : CX K cc own ret rm tb) {r : Nat} {i : Nat} (d : decode cc pc = .ok (.astore i, 2)) (hn : i < K.2.2.2.2.2.2.2.2.2.2.2.2.2) (hv : zup i (vA r) lv = lv') (k : WG K cl sl σ (pc + 2) lv' st) : WG K cl sl σ pc lv (vA r :: st) := by
  obtain ⟨p, l, e, R, s, m, args, below, meth, c, E, A, Q, nL⟩ := K
  obtain ⟨hx, hb, hr, hml, hown, hts, hlk, hE, hD, hA, htr, hR, htb⟩ := X
  intro H locs ls hP hS hl
  subst hv
  exact lv_astore (x := r) hx hb d hl hn (zlv_up E i (vA r) lv) (fun ls2 hl2 => k H locs ls2 hP hS hl2)
theorem r_aload_nE (X : CX K cc own ret rm tb) {r : Int} {k0 : Fin 4} {i j : Nat} (d : decode cc pc = .ok (.aload_n k0, 1)) (hi : (k0 : Nat) = i) (hj : lv[j]? = some (i, vE r)) (k : WG K cl sl σ (pc + 1) lv (vE r :: st)) : WG K cl sl σ pc lv st := by
  obtain ⟨p, l, e, R, s, m, args, below, meth, c, E, A, Q, nL⟩ := K
  obtain ⟨hx, hb, hr, hml, hown, hts, hlk, hE, hD, hA, htr, hR, htb⟩ := X
  intro H locs ls hP hS hl
  exact lv_aload_n (x := E.2.1 r.toNat) hx hb d hi (lv_at hl j (zlv_get hj)) (k H locs ls hP hS hl)
theorem r_aloadE (X : CX K cc own ret rm tb) {r : Int} {i j : Nat} (d : decode cc pc = .ok (.aload i, 2)) (hj : lv[j]? = some (i, vE r)) (k : WG K cl sl σ (pc + 2) lv (vE r :: st)) : WG K cl sl σ pc lv st := by
  obtain ⟨p, l, e, R, s, m, args, below, meth, c, E, A, Q, nL⟩ := K
  obtain ⟨hx, hb, hr, hml, hown, hts, hlk, hE, hD, hA, htr, hR, htb⟩ := X
  intro H locs ls hP hS hl
  exact lv_aload (x := E.2.1 r.toNat) hx hb d (lv_at hl j (zlv_get hj)) (k H locs ls hP hS hl)
theorem r_astore_nE (X : CX K cc own ret rm tb) {r : Int} {k0 : Fin 4} {i : Nat} (d : decode cc pc = .ok (.astore_n k0, 1)) (hi : (k0 : Nat) = i) (hn : i < K.2.2.2.2.2.2.2.2.2.2.2.2.2) (hv : zup i (vE r) lv = lv') (k : WG K cl sl σ (pc + 1) lv' st) : WG K cl sl σ pc lv (vE r :: st) := by
  obtain ⟨p, l, e, R, s, m, args, below, meth, c, E, A, Q, nL⟩ := K
  obtain ⟨hx, hb, hr, hml, hown, hts, hlk, hE, hD, hA, htr, hR, htb⟩ := X
  intro H locs ls hP hS hl
  subst hv
  exact lv_astore_n (x := E.2.1 r.toNat) hx hb d hi hl hn (zlv_up E i (vE r) lv) (fun ls2 hl2 => k H locs ls2 hP hS hl2)
theorem r_astoreE (X : CX K cc own ret rm tb) {r : Int} {i : Nat} (d : decode cc pc = .ok (.astore i, 2)) (hn : i < K.2.2.2.2.2.2.2.2.2.2.2.2.2) (hv : zup i (vE r) lv = lv') (k : WG K cl sl σ (pc + 2) lv' st) : WG K cl sl σ pc lv (vE r :: st) := by
  obtain ⟨p, l, e, R, s, m, args, below, meth, c, E, A, Q, nL⟩ := K
  obtain ⟨hx, hb, hr, hml, hown, hts, hlk, hE, hD, hA, htr, hR, htb⟩ := X
  intro H locs ls hP hS hl
  subst hv
  exact lv_astore (x := E.2.1 r.toNat) hx hb d hl hn (zlv_up E i (vE r) lv) (fun ls2 hl2 => k H locs ls2 hP hS hl2)
theorem r_iinc (X : CX K cc own ret rm tb) {i j : Nat} {n : Int} (d : decode cc pc = .ok (.iinc i n, 3)) (hj : lv[j]? = some (i, vI x)) (hn : i < K.2.2.2.2.2.2.2.2.2.2.2.2.2) (hv : zup i (vI (x + n)) lv = lv') (k : WG K cl sl σ (pc + 3) lv' st) : WG K cl sl σ pc lv st := by
  obtain ⟨p, l, e, R, s, m, args, below, meth, c, E, A, Q, nL⟩ := K
  obtain ⟨hx, hb, hr, hml, hown, hts, hlk, hE, hD, hA, htr, hR, htb⟩ := X
  intro H locs ls hP hS hl
  subst hv
  exact lv_iinc (x := zI x) (v := zI (x + n)) hx hb d hl (zlv_get hj) (zI_add x n) hn (zlv_up E i (vI (x + n)) lv) (fun ls2 hl2 => k H locs ls2 hP hS hl2)
theorem r_sub (X : CX K cc own ret rm tb) (ks : List Nat) (hv : zpk lv ks = lv') (k : WG K cl sl σ pc lv' st) : WG K cl sl σ pc lv st := by
  obtain ⟨p, l, e, R, s, m, args, below, meth, c, E, A, Q, nL⟩ := K
  obtain ⟨hx, hb, hr, hml, hown, hts, hlk, hE, hD, hA, htr, hR, htb⟩ := X
  intro H locs ls hP hS hl
  subst hv
  exact k H locs ls hP hS (lv_sub hl ks (zlv_pk E lv ks))
theorem r_iadd (X : CX K cc own ret rm tb) (d : decode cc pc = .ok (.iadd, 1)) (k : WG K cl sl σ (pc + 1) lv (vI (x + y) :: st)) : WG K cl sl σ pc lv (vI y :: vI x :: st) := by
  obtain ⟨p, l, e, R, s, m, args, below, meth, c, E, A, Q, nL⟩ := K
  obtain ⟨hx, hb, hr, hml, hown, hts, hlk, hE, hD, hA, htr, hR, htb⟩ := X
  intro H locs ls hP hS hl
  refine lv_iadd (x := zI x) (y := zI y) hx hb d ?_
  rw [zI_add]
  exact k H locs ls hP hS hl
theorem r_isub (X : CX K cc own ret rm tb) (d : decode cc pc = .ok (.isub, 1)) (k : WG K cl sl σ (pc + 1) lv (vI (x - y) :: st)) : WG K cl sl σ pc lv (vI y :: vI x :: st) := by
  obtain ⟨p, l, e, R, s, m, args, below, meth, c, E, A, Q, nL⟩ := K
  obtain ⟨hx, hb, hr, hml, hown, hts, hlk, hE, hD, hA, htr, hR, htb⟩ := X
  intro H locs ls hP hS hl
  refine lv_isub (x := zI x) (y := zI y) hx hb d ?_
  rw [zI_sub]
  exact k H locs ls hP hS hl
theorem r_imul (X : CX K cc own ret rm tb) (d : decode cc pc = .ok (.imul, 1)) (k : WG K cl sl σ (pc + 1) lv (vI (x * y) :: st)) : WG K cl sl σ pc lv (vI y :: vI x :: st) := by
  obtain ⟨p, l, e, R, s, m, args, below, meth, c, E, A, Q, nL⟩ := K
  obtain ⟨hx, hb, hr, hml, hown, hts, hlk, hE, hD, hA, htr, hR, htb⟩ := X
  intro H locs ls hP hS hl
  refine lv_imul (x := zI x) (y := zI y) hx hb d ?_
  rw [zI_mul]
  exact k H locs ls hP hS hl
theorem r_ladd (X : CX K cc own ret rm tb) (d : decode cc pc = .ok (.ladd, 1)) (k : WG K cl sl σ (pc + 1) lv (vJ (x + y) :: st)) : WG K cl sl σ pc lv (vJ y :: vJ x :: st) := by
  obtain ⟨p, l, e, R, s, m, args, below, meth, c, E, A, Q, nL⟩ := K
  obtain ⟨hx, hb, hr, hml, hown, hts, hlk, hE, hD, hA, htr, hR, htb⟩ := X
  intro H locs ls hP hS hl
  refine lv_ladd (x := zJ x) (y := zJ y) hx hb d ?_
  rw [zJ_add]
  exact k H locs ls hP hS hl
theorem r_lsub (X : CX K cc own ret rm tb) (d : decode cc pc = .ok (.lsub, 1)) (k : WG K cl sl σ (pc + 1) lv (vJ (x - y) :: st)) : WG K cl sl σ pc lv (vJ y :: vJ x :: st) := by
  obtain ⟨p, l, e, R, s, m, args, below, meth, c, E, A, Q, nL⟩ := K
  obtain ⟨hx, hb, hr, hml, hown, hts, hlk, hE, hD, hA, htr, hR, htb⟩ := X
  intro H locs ls hP hS hl
  refine lv_lsub (x := zJ x) (y := zJ y) hx hb d ?_
  rw [zJ_sub]
  exact k H locs ls hP hS hl
theorem r_lmul (X : CX K cc own ret rm tb) (d : decode cc pc = .ok (.lmul, 1)) (k : WG K cl sl σ (pc + 1) lv (vJ (x * y) :: st)) : WG K cl sl σ pc lv (vJ y :: vJ x :: st) := by
  obtain ⟨p, l, e, R, s, m, args, below, meth, c, E, A, Q, nL⟩ := K
  obtain ⟨hx, hb, hr, hml, hown, hts, hlk, hE, hD, hA, htr, hR, htb⟩ := X
  intro H locs ls hP hS hl
  refine lv_lmul (x := zJ x) (y := zJ y) hx hb d ?_
  rw [zJ_mul]
  exact k H locs ls hP hS hl
theorem r_i2l (X : CX K cc own ret rm tb) (d : decode cc pc = .ok (.i2l, 1)) (k : WG K cl sl σ (pc + 1) lv (vJ (w32 x) :: st)) : WG K cl sl σ pc lv (vI x :: st) := by
  obtain ⟨p, l, e, R, s, m, args, below, meth, c, E, A, Q, nL⟩ := K
  obtain ⟨hx, hb, hr, hml, hown, hts, hlk, hE, hD, hA, htr, hR, htb⟩ := X
  intro H locs ls hP hS hl
  exact lv_i2l (x := zI x) (v := zJ (w32 x)) hx hb d (zI_i2l x) (k H locs ls hP hS hl)
theorem r_iand (X : CX K cc own ret rm tb) {z : Int} (hz : zI x &&& zI y = zI z) (d : decode cc pc = .ok (.iand, 1)) (k : WG K cl sl σ (pc + 1) lv (vI z :: st)) : WG K cl sl σ pc lv (vI y :: vI x :: st) := by
  obtain ⟨p, l, e, R, s, m, args, below, meth, c, E, A, Q, nL⟩ := K
  obtain ⟨hx, hb, hr, hml, hown, hts, hlk, hE, hD, hA, htr, hR, htb⟩ := X
  intro H locs ls hP hS hl
  refine lv_iand (x := zI x) (y := zI y) hx hb d ?_
  rw [hz]
  exact k H locs ls hP hS hl
theorem r_i2c (X : CX K cc own ret rm tb) {z : Int} (hz : ((zI x).toUInt32 % 65536).toInt32 = zI z) (d : decode cc pc = .ok (.i2c, 1)) (k : WG K cl sl σ (pc + 1) lv (vI z :: st)) : WG K cl sl σ pc lv (vI x :: st) := by
  obtain ⟨p, l, e, R, s, m, args, below, meth, c, E, A, Q, nL⟩ := K
  obtain ⟨hx, hb, hr, hml, hown, hts, hlk, hE, hD, hA, htr, hR, htb⟩ := X
  intro H locs ls hP hS hl
  exact lv_i2c (x := zI x) (v := zI z) hx hb d hz (k H locs ls hP hS hl)
theorem r_lshl (X : CX K cc own ret rm tb) {z : Int} (hz : zJ x <<< ((zI y).toInt64 &&& 63) = zJ z) (d : decode cc pc = .ok (.lshl, 1)) (k : WG K cl sl σ (pc + 1) lv (vJ z :: st)) : WG K cl sl σ pc lv (vI y :: vJ x :: st) := by
  obtain ⟨p, l, e, R, s, m, args, below, meth, c, E, A, Q, nL⟩ := K
  obtain ⟨hx, hb, hr, hml, hown, hts, hlk, hE, hD, hA, htr, hR, htb⟩ := X
  intro H locs ls hP hS hl
  exact lv_lshl (x := zJ x) (y := zI y) (v := zJ z) hx hb d hz (k H locs ls hP hS hl)
theorem r_lor (X : CX K cc own ret rm tb) {z : Int} (hz : zJ x ||| zJ y = zJ z) (d : decode cc pc = .ok (.lor, 1)) (k : WG K cl sl σ (pc + 1) lv (vJ z :: st)) : WG K cl sl σ pc lv (vJ y :: vJ x :: st) := by
  obtain ⟨p, l, e, R, s, m, args, below, meth, c, E, A, Q, nL⟩ := K
  obtain ⟨hx, hb, hr, hml, hown, hts, hlk, hE, hD, hA, htr, hR, htb⟩ := X
  intro H locs ls hP hS hl
  refine lv_lor (x := zJ x) (y := zJ y) hx hb d ?_
  rw [hz]
  exact k H locs ls hP hS hl
theorem r_land (X : CX K cc own ret rm tb) {z : Int} (hz : zJ x &&& zJ y = zJ z) (d : decode cc pc = .ok (.land, 1)) (k : WG K cl sl σ (pc + 1) lv (vJ z :: st)) : WG K cl sl σ pc lv (vJ y :: vJ x :: st) := by
  obtain ⟨p, l, e, R, s, m, args, below, meth, c, E, A, Q, nL⟩ := K
  obtain ⟨hx, hb, hr, hml, hown, hts, hlk, hE, hD, hA, htr, hR, htb⟩ := X
  intro H locs ls hP hS hl
  refine lv_land (x := zJ x) (y := zJ y) hx hb d ?_
  rw [hz]
  exact k H locs ls hP hS hl
theorem r_ldiv (X : CX K cc own ret rm tb) {z : Int} (hy : ¬ zJ y = 0) (hz : zJ x / zJ y = zJ z) (d : decode cc pc = .ok (.ldiv, 1)) (k : WG K cl sl σ (pc + 1) lv (vJ z :: st)) : WG K cl sl σ pc lv (vJ y :: vJ x :: st) := by
  obtain ⟨p, l, e, R, s, m, args, below, meth, c, E, A, Q, nL⟩ := K
  obtain ⟨hx, hb, hr, hml, hown, hts, hlk, hE, hD, hA, htr, hR, htb⟩ := X
  intro H locs ls hP hS hl
  refine lv_ldiv (x := zJ x) (y := zJ y) hx hb d hy ?_
  rw [hz]
  exact k H locs ls hP hS hl
theorem r_dup (X : CX K cc own ret rm tb) {v : zV} (hc : zcat v = 1) (d : decode cc pc = .ok (.dup, 1)) (k : WG K cl sl σ (pc + 1) lv (v :: v :: st)) : WG K cl sl σ pc lv (v :: st) := by
  obtain ⟨p, l, e, R, s, m, args, below, meth, c, E, A, Q, nL⟩ := K
  obtain ⟨hx, hb, hr, hml, hown, hts, hlk, hE, hD, hA, htr, hR, htb⟩ := X
  intro H locs ls hP hS hl
  exact lv_dup (va := ztv E v) hx hb d ((ztv_cat E v).trans hc) (k H locs ls hP hS hl)
theorem r_pop (X : CX K cc own ret rm tb) {v : zV} (hc : zcat v = 1) (d : decode cc pc = .ok (.pop, 1)) (k : WG K cl sl σ (pc + 1) lv st) : WG K cl sl σ pc lv (v :: st) := by
  obtain ⟨p, l, e, R, s, m, args, below, meth, c, E, A, Q, nL⟩ := K
  obtain ⟨hx, hb, hr, hml, hown, hts, hlk, hE, hD, hA, htr, hR, htb⟩ := X
  intro H locs ls hP hS hl
  exact lv_pop (va := ztv E v) hx hb d ((ztv_cat E v).trans hc) (k H locs ls hP hS hl)
theorem r_dup2 (X : CX K cc own ret rm tb) {v u : zV} (hc : zcat v = 1) (hu : zcat u = 1) (d : decode cc pc = .ok (.dup2, 1)) (k : WG K cl sl σ (pc + 1) lv (v :: u :: v :: u :: st)) : WG K cl sl σ pc lv (v :: u :: st) := by
  obtain ⟨p, l, e, R, s, m, args, below, meth, c, E, A, Q, nL⟩ := K
  obtain ⟨hx, hb, hr, hml, hown, hts, hlk, hE, hD, hA, htr, hR, htb⟩ := X
  intro H locs ls hP hS hl
  exact lv_dup2_11 (va := ztv E v) (vb := ztv E u) hx hb d ((ztv_cat E v).trans hc) ((ztv_cat E u).trans hu) (k H locs ls hP hS hl)
theorem r_goto (X : CX K cc own ret rm tb) {off : Int} {tgt : Nat} (d : decode cc pc = .ok (.goto off, 3)) (ht : (pc : Int) + off = (tgt : Int)) (k : WG K cl sl σ tgt lv st) : WG K cl sl σ pc lv st := by
  obtain ⟨p, l, e, R, s, m, args, below, meth, c, E, A, Q, nL⟩ := K
  obtain ⟨hx, hb, hr, hml, hown, hts, hlk, hE, hD, hA, htr, hR, htb⟩ := X
  intro H locs ls hP hS hl
  exact lv_goto hx hb d ht (k H locs ls hP hS hl)
theorem r_icmp_eq (X : CX K cc own ret rm tb) {off : Int} {tgt : Nat} (d : decode cc pc = .ok (.if_icmp .eq off, 3)) (ht : (pc : Int) + off = (tgt : Int)) (kt : w32 x = w32 y → WG K cl sl σ tgt lv st) (kf : ¬ (w32 x = w32 y) → WG K cl sl σ (pc + 3) lv st) : WG K cl sl σ pc lv (vI y :: vI x :: st) := by
  obtain ⟨p, l, e, R, s, m, args, below, meth, c, E, A, Q, nL⟩ := K
  obtain ⟨hx, hb, hr, hml, hown, hts, hlk, hE, hD, hA, htr, hR, htb⟩ := X
  intro H locs ls hP hS hl
  exact lv_icmp_eq (x := zI x) (y := zI y) hx hb d ht (fun h => kt (zI_eq.mp h) H locs ls hP hS hl) (fun h => kf (fun g => h (zI_eq.mpr g)) H locs ls hP hS hl)
theorem r_if_eq (X : CX K cc own ret rm tb) {off : Int} {tgt : Nat} (d : decode cc pc = .ok (.ifCond .eq off, 3)) (ht : (pc : Int) + off = (tgt : Int)) (kt : w32 x = 0 → WG K cl sl σ tgt lv st) (kf : ¬ (w32 x = 0) → WG K cl sl σ (pc + 3) lv st) : WG K cl sl σ pc lv (vI x :: st) := by
  obtain ⟨p, l, e, R, s, m, args, below, meth, c, E, A, Q, nL⟩ := K
  obtain ⟨hx, hb, hr, hml, hown, hts, hlk, hE, hD, hA, htr, hR, htb⟩ := X
  intro H locs ls hP hS hl
  exact lv_if_eq (x := zI x) hx hb d ht (fun h => kt ((zI_eq (y := 0)).mp h) H locs ls hP hS hl) (fun h => kf (fun g => h ((zI_eq (y := 0)).mpr g)) H locs ls hP hS hl)
theorem r_icmp_ne (X : CX K cc own ret rm tb) {off : Int} {tgt : Nat} (d : decode cc pc = .ok (.if_icmp .ne off, 3)) (ht : (pc : Int) + off = (tgt : Int)) (kt : ¬ w32 x = w32 y → WG K cl sl σ tgt lv st) (kf : w32 x = w32 y → WG K cl sl σ (pc + 3) lv st) : WG K cl sl σ pc lv (vI y :: vI x :: st) := by
  obtain ⟨p, l, e, R, s, m, args, below, meth, c, E, A, Q, nL⟩ := K
  obtain ⟨hx, hb, hr, hml, hown, hts, hlk, hE, hD, hA, htr, hR, htb⟩ := X
  intro H locs ls hP hS hl
  exact lv_icmp_ne (x := zI x) (y := zI y) hx hb d ht (fun h => kt (fun g => h (zI_eq.mpr g)) H locs ls hP hS hl) (fun h => kf (zI_eq.mp h) H locs ls hP hS hl)
theorem r_if_ne (X : CX K cc own ret rm tb) {off : Int} {tgt : Nat} (d : decode cc pc = .ok (.ifCond .ne off, 3)) (ht : (pc : Int) + off = (tgt : Int)) (kt : ¬ w32 x = 0 → WG K cl sl σ tgt lv st) (kf : w32 x = 0 → WG K cl sl σ (pc + 3) lv st) : WG K cl sl σ pc lv (vI x :: st) := by
  obtain ⟨p, l, e, R, s, m, args, below, meth, c, E, A, Q, nL⟩ := K
  obtain ⟨hx, hb, hr, hml, hown, hts, hlk, hE, hD, hA, htr, hR, htb⟩ := X
  intro H locs ls hP hS hl
  exact lv_if_ne (x := zI x) hx hb d ht (fun h => kt (fun g => h ((zI_eq (y := 0)).mpr g)) H locs ls hP hS hl) (fun h => kf ((zI_eq (y := 0)).mp h) H locs ls hP hS hl)
theorem r_icmp_lt (X : CX K cc own ret rm tb) {off : Int} {tgt : Nat} (d : decode cc pc = .ok (.if_icmp .lt off, 3)) (ht : (pc : Int) + off = (tgt : Int)) (kt : w32 x < w32 y → WG K cl sl σ tgt lv st) (kf : ¬ (w32 x < w32 y) → WG K cl sl σ (pc + 3) lv st) : WG K cl sl σ pc lv (vI y :: vI x :: st) := by
  obtain ⟨p, l, e, R, s, m, args, below, meth, c, E, A, Q, nL⟩ := K
  obtain ⟨hx, hb, hr, hml, hown, hts, hlk, hE, hD, hA, htr, hR, htb⟩ := X
  intro H locs ls hP hS hl
  exact lv_icmp_lt (x := zI x) (y := zI y) hx hb d ht (fun h => kt (zI_lt.mp h) H locs ls hP hS hl) (fun h => kf (fun g => h (zI_lt.mpr g)) H locs ls hP hS hl)
theorem r_if_lt (X : CX K cc own ret rm tb) {off : Int} {tgt : Nat} (d : decode cc pc = .ok (.ifCond .lt off, 3)) (ht : (pc : Int) + off = (tgt : Int)) (kt : w32 x < 0 → WG K cl sl σ tgt lv st) (kf : ¬ (w32 x < 0) → WG K cl sl σ (pc + 3) lv st) : WG K cl sl σ pc lv (vI x :: st) := by
  obtain ⟨p, l, e, R, s, m, args, below, meth, c, E, A, Q, nL⟩ := K
  obtain ⟨hx, hb, hr, hml, hown, hts, hlk, hE, hD, hA, htr, hR, htb⟩ := X
  intro H locs ls hP hS hl
  exact lv_if_lt (x := zI x) hx hb d ht (fun h => kt ((zI_lt (y := 0)).mp h) H locs ls hP hS hl) (fun h => kf (fun g => h ((zI_lt (y := 0)).mpr g)) H locs ls hP hS hl)
theorem r_icmp_ge (X : CX K cc own ret rm tb) {off : Int} {tgt : Nat} (d : decode cc pc = .ok (.if_icmp .ge off, 3)) (ht : (pc : Int) + off = (tgt : Int)) (kt : w32 y ≤ w32 x → WG K cl sl σ tgt lv st) (kf : ¬ (w32 y ≤ w32 x) → WG K cl sl σ (pc + 3) lv st) : WG K cl sl σ pc lv (vI y :: vI x :: st) := by
  obtain ⟨p, l, e, R, s, m, args, below, meth, c, E, A, Q, nL⟩ := K
  obtain ⟨hx, hb, hr, hml, hown, hts, hlk, hE, hD, hA, htr, hR, htb⟩ := X
  intro H locs ls hP hS hl
  exact lv_icmp_ge (x := zI x) (y := zI y) hx hb d ht (fun h => kt (zI_le.mp h) H locs ls hP hS hl) (fun h => kf (fun g => h (zI_le.mpr g)) H locs ls hP hS hl)
theorem r_if_ge (X : CX K cc own ret rm tb) {off : Int} {tgt : Nat} (d : decode cc pc = .ok (.ifCond .ge off, 3)) (ht : (pc : Int) + off = (tgt : Int)) (kt : 0 ≤ w32 x → WG K cl sl σ tgt lv st) (kf : ¬ (0 ≤ w32 x) → WG K cl sl σ (pc + 3) lv st) : WG K cl sl σ pc lv (vI x :: st) := by
  obtain ⟨p, l, e, R, s, m, args, below, meth, c, E, A, Q, nL⟩ := K
  obtain ⟨hx, hb, hr, hml, hown, hts, hlk, hE, hD, hA, htr, hR, htb⟩ := X
  intro H locs ls hP hS hl
  exact lv_if_ge (x := zI x) hx hb d ht (fun h => kt ((zI_le (x := 0)).mp h) H locs ls hP hS hl) (fun h => kf (fun g => h ((zI_le (x := 0)).mpr g)) H locs ls hP hS hl)
theorem r_icmp_gt (X : CX K cc own ret rm tb) {off : Int} {tgt : Nat} (d : decode cc pc = .ok (.if_icmp .gt off, 3)) (ht : (pc : Int) + off = (tgt : Int)) (kt : w32 y < w32 x → WG K cl sl σ tgt lv st) (kf : ¬ (w32 y < w32 x) → WG K cl sl σ (pc + 3) lv st) : WG K cl sl σ pc lv (vI y :: vI x :: st) := by
  obtain ⟨p, l, e, R, s, m, args, below, meth, c, E, A, Q, nL⟩ := K
  obtain ⟨hx, hb, hr, hml, hown, hts, hlk, hE, hD, hA, htr, hR, htb⟩ := X
  intro H locs ls hP hS hl
  exact lv_icmp_gt (x := zI x) (y := zI y) hx hb d ht (fun h => kt (zI_lt.mp h) H locs ls hP hS hl) (fun h => kf (fun g => h (zI_lt.mpr g)) H locs ls hP hS hl)
theorem r_if_gt (X : CX K cc own ret rm tb) {off : Int} {tgt : Nat} (d : decode cc pc = .ok (.ifCond .gt off, 3)) (ht : (pc : Int) + off = (tgt : Int)) (kt : 0 < w32 x → WG K cl sl σ tgt lv st) (kf : ¬ (0 < w32 x) → WG K cl sl σ (pc + 3) lv st) : WG K cl sl σ pc lv (vI x :: st) := by
  obtain ⟨p, l, e, R, s, m, args, below, meth, c, E, A, Q, nL⟩ := K
  obtain ⟨hx, hb, hr, hml, hown, hts, hlk, hE, hD, hA, htr, hR, htb⟩ := X
  intro H locs ls hP hS hl
  exact lv_if_gt (x := zI x) hx hb d ht (fun h => kt ((zI_lt (x := 0)).mp h) H locs ls hP hS hl) (fun h => kf (fun g => h ((zI_lt (x := 0)).mpr g)) H locs ls hP hS hl)
theorem r_icmp_le (X : CX K cc own ret rm tb) {off : Int} {tgt : Nat} (d : decode cc pc = .ok (.if_icmp .le off, 3)) (ht : (pc : Int) + off = (tgt : Int)) (kt : w32 x ≤ w32 y → WG K cl sl σ tgt lv st) (kf : ¬ (w32 x ≤ w32 y) → WG K cl sl σ (pc + 3) lv st) : WG K cl sl σ pc lv (vI y :: vI x :: st) := by
  obtain ⟨p, l, e, R, s, m, args, below, meth, c, E, A, Q, nL⟩ := K
  obtain ⟨hx, hb, hr, hml, hown, hts, hlk, hE, hD, hA, htr, hR, htb⟩ := X
  intro H locs ls hP hS hl
  exact lv_icmp_le (x := zI x) (y := zI y) hx hb d ht (fun h => kt (zI_le.mp h) H locs ls hP hS hl) (fun h => kf (fun g => h (zI_le.mpr g)) H locs ls hP hS hl)
theorem r_if_le (X : CX K cc own ret rm tb) {off : Int} {tgt : Nat} (d : decode cc pc = .ok (.ifCond .le off, 3)) (ht : (pc : Int) + off = (tgt : Int)) (kt : w32 x ≤ 0 → WG K cl sl σ tgt lv st) (kf : ¬ (w32 x ≤ 0) → WG K cl sl σ (pc + 3) lv st) : WG K cl sl σ pc lv (vI x :: st) := by
  obtain ⟨p, l, e, R, s, m, args, below, meth, c, E, A, Q, nL⟩ := K
  obtain ⟨hx, hb, hr, hml, hown, hts, hlk, hE, hD, hA, htr, hR, htb⟩ := X
  intro H locs ls hP hS hl
  exact lv_if_le (x := zI x) hx hb d ht (fun h => kt ((zI_le (y := 0)).mp h) H locs ls hP hS hl) (fun h => kf (fun g => h ((zI_le (y := 0)).mpr g)) H locs ls hP hS hl)
end RW
end
section
theorem zu_0 : ∀ w ∈ u_ws RX0 TX0 5, w ∈ zBG := by
  intro w hw
  rcases List.mem_map.mp hw with ⟨k, hk, rfl⟩
  rw [List.mem_range] at hk
  match k, hk with
  | 0, _ => exact zt_1_122
  | 1, _ => exact zt_1_124
  | 2, _ => exact zt_1_126
  | 3, _ => exact zt_1_128
  | 4, _ => exact zt_1_130
theorem zu_2 : ∀ w ∈ u_ws RX2 TX2 5, w ∈ zBG := by
  intro w hw
  rcases List.mem_map.mp hw with ⟨k, hk, rfl⟩
  rw [List.mem_range] at hk
  match k, hk with
  | 0, _ => exact zt_1_101
  | 1, _ => exact zt_1_103
  | 2, _ => exact zt_1_105
  | 3, _ => exact zt_1_107
  | 4, _ => exact zt_1_109
theorem zu_3 : ∀ w ∈ u_ws RX3 TX3 9, w ∈ zBG := by
  intro w hw
  rcases List.mem_map.mp hw with ⟨k, hk, rfl⟩
  rw [List.mem_range] at hk
  match k, hk with
  | 0, _ => exact zt_1_65
  | 1, _ => exact zt_1_67
  | 2, _ => exact zt_1_69
  | 3, _ => exact zt_1_71
  | 4, _ => exact zt_1_73
  | 5, _ => exact zt_1_75
  | 6, _ => exact zt_1_77
  | 7, _ => exact zt_1_79
  | 8, _ => exact zt_1_81
theorem zu_4 : ∀ w ∈ u_ws RX4 TX4 5, w ∈ zBG := by
  intro w hw
  rcases List.mem_map.mp hw with ⟨k, hk, rfl⟩
  rw [List.mem_range] at hk
  match k, hk with
  | 0, _ => exact zt_1_146
  | 1, _ => exact zt_1_148
  | 2, _ => exact zt_1_150
  | 3, _ => exact zt_1_152
  | 4, _ => exact zt_1_154
theorem zu_5 : ∀ w ∈ u_ws RX5 TX5 5, w ∈ zBG := by
  intro w hw
  rcases List.mem_map.mp hw with ⟨k, hk, rfl⟩
  rw [List.mem_range] at hk
  match k, hk with
  | 0, _ => exact zt_1_174
  | 1, _ => exact zt_1_176
  | 2, _ => exact zt_1_178
  | 3, _ => exact zt_1_180
  | 4, _ => exact zt_1_182
theorem zu_6 : ∀ w ∈ u_ws RX6 TX6 9, w ∈ zBG := by
  intro w hw
  rcases List.mem_map.mp hw with ⟨k, hk, rfl⟩
  rw [List.mem_range] at hk
  match k, hk with
  | 0, _ => exact zt_1_194
  | 1, _ => exact zt_1_196
  | 2, _ => exact zt_1_198
  | 3, _ => exact zt_1_200
  | 4, _ => exact zt_1_202
  | 5, _ => exact zt_1_204
  | 6, _ => exact zt_1_206
  | 7, _ => exact zt_1_208
  | 8, _ => exact zt_1_210
theorem zu_7 : ∀ w ∈ u_ws RX7 TX7 31, w ∈ zBG := by
  intro w hw
  rcases List.mem_map.mp hw with ⟨k, hk, rfl⟩
  rw [List.mem_range] at hk
  match k, hk with
  | 0, _ => exact zt_3_198
  | 1, _ => exact zt_3_200
  | 2, _ => exact zt_3_202
  | 3, _ => exact zt_3_204
  | 4, _ => exact zt_3_206
  | 5, _ => exact zt_3_208
  | 6, _ => exact zt_3_210
  | 7, _ => exact zt_3_212
  | 8, _ => exact zt_3_214
  | 9, _ => exact zt_3_216
  | 10, _ => exact zt_3_218
  | 11, _ => exact zt_3_220
  | 12, _ => exact zt_3_222
  | 13, _ => exact zt_3_224
  | 14, _ => exact zt_3_226
  | 15, _ => exact zt_3_228
  | 16, _ => exact zt_3_230
  | 17, _ => exact zt_3_232
  | 18, _ => exact zt_3_234
  | 19, _ => exact zt_3_236
  | 20, _ => exact zt_3_238
  | 21, _ => exact zt_4_0
  | 22, _ => exact zt_4_2
  | 23, _ => exact zt_4_4
  | 24, _ => exact zt_4_6
  | 25, _ => exact zt_4_8
  | 26, _ => exact zt_4_10
  | 27, _ => exact zt_4_12
  | 28, _ => exact zt_4_14
  | 29, _ => exact zt_4_16
  | 30, _ => exact zt_4_18
  | k + 31, hk => exact absurd hk (by omega)
theorem zce_obj {E : zE} {σ : zS} {k ci : Nat} (h : zkd k = ci) (h7 : ci < 7) : zce E σ k = .inr (ci, (List.range (znf ci)).map (fun j => ztv E (zsv σ k j))) := by
  subst h
  simp only [zce, if_pos h7]
theorem zce_int {E : zE} {σ : zS} {k ci : Nat} (h : zkd k = ci) (h7 : ci = 7 ∨ ci = 8 ∨ ci = 10) : zce E σ k = .inl (E.2.2.1 ci, zln k, .inl (fun j => zI (σ k j))) := by
  subst h
  simp only [zce]
  rw [if_neg (by omega), if_neg (by omega), if_pos (by omega)]
theorem zce_long {E : zE} {σ : zS} {k : Nat} (h : zkd k = 9) : zce E σ k = .inl (E.2.2.1 9, zln k, .inr (.inl (fun j => zJ (σ k j)))) := by
  simp only [zce]
  rw [if_neg (by omega), if_pos h]
theorem zce_ref {E : zE} {σ : zS} {k ci : Nat} (h : zkd k = ci) (h7 : 10 < ci) : zce E σ k = .inl (E.2.2.1 ci, zln k, .inr (.inr (.inr (.inr (fun j => some (E.1 (zrf k j))))))) := by
  subst h
  simp only [zce]
  rw [if_neg (by omega), if_neg (by omega), if_neg (by omega)]
theorem zsv_i {σ : zS} {k ci j : Nat} (hk : zkd k = ci) (h : zty ci j = 0) : zsv σ k j = vI (σ k j) := by simp [zsv, hk, h]
theorem zsv_l {σ : zS} {k ci j : Nat} (hk : zkd k = ci) (h : zty ci j = 1) : zsv σ k j = vJ (σ k j) := by simp [zsv, hk, h]
theorem zsv_r {σ : zS} {k ci j : Nat} (hk : zkd k = ci) (h : zty ci j = 2) : zsv σ k j = vR (zrf k j) := by simp [zsv, hk, h]
theorem zsv_e {σ : zS} {k ci j : Nat} (hk : zkd k = ci) (h : zty ci j = 3) : zsv σ k j = vE (σ k j) := by simp [zsv, hk, h]
theorem zsv_ne {σ : zS} {k j j' : Nat} {x : Int} (h : j' ≠ j) : zsv (zsu σ k j x) k j' = zsv σ k j' := by simp only [zsv, zsu_ne h]
theorem zmap_set {α : Type} {n j : Nat} {f g : Nat → α} (h : ∀ i, i ≠ j → g i = f i) : ((List.range n).map f).set j (g j) = (List.range n).map g := by
  apply List.ext_getElem?
  intro i
  rw [List.getElem?_set]
  by_cases hi : j = i
  · subst hi
    rw [if_pos rfl]
    by_cases hn : j < n
    · rw [if_pos (by simpa using hn)]
      simp [hn]
    · rw [if_neg (by simpa using hn), List.getElem?_eq_none (by simpa using hn)]
  · rw [if_neg hi]
    by_cases hn : i < n
    · simp [hn, h i (Ne.symm hi)]
    · rw [List.getElem?_eq_none (by simpa using hn), List.getElem?_eq_none (by simpa using hn)]
theorem zget_obj {E : zE} {σ : zS} {k ci : Nat} (h : zkd k = ci) (h7 : ci < 7) : (zwd E σ)[k]? = some (E.1 k, .inr (ci, (List.range (znf ci)).map (fun j => ztv E (zsv σ k j)))) := by
  rw [zwd_get (zkd_lt (by omega)), zce_obj h h7]
theorem zget_int {E : zE} {σ : zS} {k ci : Nat} (h : zkd k = ci) (h7 : ci = 7 ∨ ci = 8 ∨ ci = 10) : (zwd E σ)[k]? = some (E.1 k, .inl (E.2.2.1 ci, zln k, .inl (fun j => zI (σ k j)))) := by
  rw [zwd_get (zkd_lt (by omega)), zce_int h h7]
theorem zget_long {E : zE} {σ : zS} {k : Nat} (h : zkd k = 9) : (zwd E σ)[k]? = some (E.1 k, .inl (E.2.2.1 9, zln k, .inr (.inl (fun j => zJ (σ k j))))) := by
  rw [zwd_get (zkd_lt (by omega)), zce_long h]
theorem zget_ref {E : zE} {σ : zS} {k ci : Nat} (h : zkd k = ci) (h7 : 10 < ci) (h9 : ci < 99) : (zwd E σ)[k]? = some (E.1 k, .inl (E.2.2.1 ci, zln k, .inr (.inr (.inr (.inr (fun j => some (E.1 (zrf k j)))))))) := by
  rw [zwd_get (zkd_lt (by omega)), zce_ref h h7]
theorem zput_obj {E : zE} {σ : zS} {k ci j : Nat} {x : Int} {v : zV} (h : zkd k = ci) (h7 : ci < 7) (hv : zsv (zsu σ k j x) k j = v) :
    (zwd E σ).set k (E.1 k, .inr (ci, ((List.range (znf ci)).map (fun j => ztv E (zsv σ k j))).set j (ztv E v))) = zwd E (zsu σ k j x) := by
  apply zwd_set
  rw [zce_obj h h7]
  subst hv
  congr 2
  exact (zmap_set (f := fun j => ztv E (zsv σ k j)) (g := fun j' => ztv E (zsv (zsu σ k j x) k j')) (fun i hi => by simp only [zsv_ne hi])).symm
theorem zput_int {E : zE} {σ : zS} {k ci j : Nat} {x : Int} (h : zkd k = ci) (h7 : ci = 7 ∨ ci = 8 ∨ ci = 10) :
    (zwd E σ).set k (E.1 k, .inl (E.2.2.1 ci, zln k, .inl (upd (fun j => zI (σ k j)) j (zI x)))) = zwd E (zsu σ k j x) := by
  apply zwd_set
  rw [zce_int h h7]
  congr 4
  funext i
  by_cases hi : i = j
  · subst hi
    simp [upd, zsu]
  · simp [upd, zsu, hi]
theorem zput_long {E : zE} {σ : zS} {k j : Nat} {x : Int} (h : zkd k = 9) :
    (zwd E σ).set k (E.1 k, .inl (E.2.2.1 9, zln k, .inr (.inl (vp_updL (fun j => zJ (σ k j)) j (zJ x))))) = zwd E (zsu σ k j x) := by
  apply zwd_set
  rw [zce_long h]
  congr 5
  funext i
  by_cases hi : i = j
  · subst hi
    simp [vp_updL, zsu]
  · simp [vp_updL, zsu, hi]
theorem zb_I {x : Int} (h : x = 0 ∨ x = 1) : zI x &&& 1 = zI x := by
  rcases h with rfl | rfl <;> decide +kernel
theorem zb_fit {x : Int} (h : x = 0 ∨ x = 1) : fits .boolean (.int (zI x)) = true := by
  rcases h with rfl | rfl <;> decide +kernel
theorem zb_nar {x : Int} (h : x = 0 ∨ x = 1) : narrow .boolean (.int (zI x)) = .int (zI x) := by
  rcases h with rfl | rfl <;> decide +kernel
theorem zc_I {x : Int} (h : 0 ≤ x ∧ x < 65536) : (zI x).toUInt32.toUInt16.toUInt32.toInt32 = zI x := by
  obtain ⟨n, rfl⟩ := Int.eq_ofNat_of_zero_le h.1
  have hn : n < 65536 := by omega
  apply Int32.toInt_inj.mp
  apply congrArg (fun b : BitVec 32 => b.toInt)
  show ((zI n).toUInt32.toUInt16.toUInt32.toInt32).toBitVec = (zI n).toBitVec
  have e : (zI n).toBitVec = BitVec.ofNat 32 n := by
    show BitVec.ofInt 32 (n : Int) = BitVec.ofNat 32 n
    exact BitVec.ofInt_natCast 32 n
  show ((zI n).toBitVec.setWidth 16).setWidth 32 = (zI n).toBitVec
  rw [e]
  apply BitVec.eq_of_toNat_eq
  simp only [BitVec.toNat_setWidth, BitVec.toNat_ofNat]
  omega
theorem zc_nar {x : Int} (h : 0 ≤ x ∧ x < 65536) : narrow .char (.int (zI x)) = .int (zI x) := congrArg Value.int (zc_I h)
theorem zb_vp {x : Int} (h : x = 0 ∨ x = 1) : vp_nar .boolean (zI x) = zI x := zb_I h
theorem zc_vp {x : Int} (h : 0 ≤ x ∧ x < 65536) : vp_nar .char (zI x) = zI x := zc_I h
section RM
variable {K : zK} {cc : ByteArray} {own : String} {ret : Option FieldType} {rm : Room} {tb : List (Nat × Nat × Nat × Nat)} {cl sl : Nat} {σ : zS} {pc : Nat} {lv lv' : List (Nat × zV)} {st : List zV} {x y : Int}
theorem r_get (X : CX K cc own ret rm tb) {C : String} {T : u_T} {N ci k j idx : Nat} {v : zV} (hc : vwCl[ci]? = some (C, T, N)) (hN : znf ci = N) (h7 : ci < 7) (hin : ∀ w ∈ u_ws C T N, w ∈ zBG) (hk : zkd k = ci) (hj : j < N) (hw : Cond.fieldLink own idx (T j).1 (T j).2.1 (T j).2.2.1 ∈ zBG) (d : decode cc pc = .ok (.getfield idx, 3)) (hv : zsv σ k j = v) (kk : WG K cl sl σ (pc + 3) lv (v :: st)) : WG K cl sl σ pc lv (vR k :: st) := by
  obtain ⟨p, l, e, R, s, m, args, below, meth, c, E, A, Q, nL⟩ := K
  obtain ⟨hx, hb, hr, hml, hown, hts, hlk, hE, hD, hA, htr, hR, htb⟩ := X
  intro H locs ls hP hS hl
  exact va_get (D := E.2.2.2) hx hb hts hin hown hE.1 hP k (zget_obj hk h7) hc j hj (hts _ hw) (fun _ h => h) (by rw [List.getElem?_map, List.getElem?_range (by omega)]; exact congrArg (fun v => some (ztv E v)) hv) d (kk H locs ls hP hS hl)
theorem r_getN (X : CX K cc own ret rm tb) {host : String} {C : String} {T : u_T} {N ci k j idx : Nat} {v : zV} (hc : vwCl[ci]? = some (C, T, N)) (hN : znf ci = N) (h7 : ci < 7) (hin : ∀ w ∈ u_ws C T N, w ∈ zBG) (hk : zkd k = ci) (hj : j < N) (hw : Cond.fieldLinkNest own idx (T j).1 (T j).2.1 (T j).2.2.1 host ∈ znw) (d : decode cc pc = .ok (.getfield idx, 3)) (hv : zsv σ k j = v) (kk : WG K cl sl σ (pc + 3) lv (v :: st)) : WG K cl sl σ pc lv (vR k :: st) := by
  obtain ⟨p, l, e, R, s, m, args, below, meth, c, E, A, Q, nL⟩ := K
  obtain ⟨hx, hb, hr, hml, hown, hts, hlk, hE, hD, hA, htr, hR, htb⟩ := X
  intro H locs ls hP hS hl
  exact va_getN (D := E.2.2.2) hx hb hts hin hown hE.1 hP k (zget_obj hk h7) hc j hj (va_Nw.use rfl (hE.2.1 _ hw)) (fun _ h => h) (by rw [List.getElem?_map, List.getElem?_range (by omega)]; exact congrArg (fun v => some (ztv E v)) hv) d (kk H locs ls hP hS hl)
theorem r_put (X : CX K cc own ret rm tb) {C : String} {T : u_T} {N ci k j idx : Nat} {v : zV} (hc : vwCl[ci]? = some (C, T, N)) (hN : znf ci = N) (h7 : ci < 7) (hin : ∀ w ∈ u_ws C T N, w ∈ zBG) (hk : zkd k = ci) (hj : j < N) (ty0 : Nat → FieldType) (hty : ∀ k, k < N → parseFieldDescriptor (T k).2.2.1 = some (ty0 k)) (hnm : ∀ a, a < N → ∀ b, b < N → a ≠ b → (T a).2.1 ≠ (T b).2.1) (hfin : (T j).2.2.2 = false) {ty : FieldType} (hd : parseFieldDescriptor (T j).2.2.1 = some ty) (hn : ∀ E, narrow ty (ztv E v) = ztv E v) (hfit : ∀ E, fits ty (ztv E v) = true) (hw : Cond.fieldLink own idx (T j).1 (T j).2.1 (T j).2.2.1 ∈ zBG) (d : decode cc pc = .ok (.putfield idx, 3)) (hv : zsv (zsu σ k j x) k j = v) (kk : ∀ σ1, σ1 = zsu σ k j x → WG K cl sl σ1 (pc + 3) lv st) : WG K cl sl σ pc lv (v :: vR k :: st) := by
  obtain ⟨p, l, e, R, s, m, args, below, meth, c, E, A, Q, nL⟩ := K
  obtain ⟨hx, hb, hr, hml, hown, hts, hlk, hE, hD, hA, htr, hR, htb⟩ := X
  intro H locs ls hP hS hl
  refine va_put (D := E.2.2.2) hx hb hts hin ty0 hty hnm hown hE.1 hP (hD σ) hS k (zget_obj hk h7) hc j hj (hts _ hw) (fun _ h => h) hfin hd (hn E) (hfit E) (by simp; omega) d (fun H1 locs1 hP1 hD1 hS1 => ?_)
  rw [zput_obj hk h7 hv] at hP1
  exact kk _ rfl H1 locs1 ls hP1 hS1 hl
theorem r_putN (X : CX K cc own ret rm tb) {host : String} {C : String} {T : u_T} {N ci k j idx : Nat} {v : zV} (hc : vwCl[ci]? = some (C, T, N)) (hN : znf ci = N) (h7 : ci < 7) (hin : ∀ w ∈ u_ws C T N, w ∈ zBG) (hk : zkd k = ci) (hj : j < N) (ty0 : Nat → FieldType) (hty : ∀ k, k < N → parseFieldDescriptor (T k).2.2.1 = some (ty0 k)) (hnm : ∀ a, a < N → ∀ b, b < N → a ≠ b → (T a).2.1 ≠ (T b).2.1) (hfin : (T j).2.2.2 = false) {ty : FieldType} (hd : parseFieldDescriptor (T j).2.2.1 = some ty) (hn : ∀ E, narrow ty (ztv E v) = ztv E v) (hfit : ∀ E, fits ty (ztv E v) = true) (hw : Cond.fieldLinkNest own idx (T j).1 (T j).2.1 (T j).2.2.1 host ∈ znw) (d : decode cc pc = .ok (.putfield idx, 3)) (hv : zsv (zsu σ k j x) k j = v) (kk : ∀ σ1, σ1 = zsu σ k j x → WG K cl sl σ1 (pc + 3) lv st) : WG K cl sl σ pc lv (v :: vR k :: st) := by
  obtain ⟨p, l, e, R, s, m, args, below, meth, c, E, A, Q, nL⟩ := K
  obtain ⟨hx, hb, hr, hml, hown, hts, hlk, hE, hD, hA, htr, hR, htb⟩ := X
  intro H locs ls hP hS hl
  refine va_putN (D := E.2.2.2) hx hb hts hin ty0 hty hnm hown hE.1 hP (hD σ) hS k (zget_obj hk h7) hc j hj (va_Nw.use rfl (hE.2.1 _ hw)) (fun _ h => h) hfin hd (hn E) (hfit E) (by simp; omega) d (fun H1 locs1 hP1 hD1 hS1 => ?_)
  rw [zput_obj hk h7 hv] at hP1
  exact kk _ rfl H1 locs1 ls hP1 hS1 hl
theorem r_iald (X : CX K cc own ret rm tb) {k n : Nat} (hk : zkd k = 8) (hn : zln k = n) (hi : 0 ≤ w32 x ∧ w32 x < (n : Int)) (d : decode cc pc = .ok (.iaload, 1)) (kk : WG K cl sl σ (pc + 1) lv (vI (σ k (w32 x).toNat) :: st)) : WG K cl sl σ pc lv (vI x :: vR k :: st) := by
  obtain ⟨p, l, e, R, s, m, args, below, meth, c, E, A, Q, nL⟩ := K
  obtain ⟨hx, hb, hr, hml, hown, hts, hlk, hE, hD, hA, htr, hR, htb⟩ := X
  intro H locs ls hP hS hl
  exact va_iald (D := E.2.2.2) (i := zI x) hx hb hE.1 hP k 1 (zget_int hk (by omega)) rfl (vp_in_z (by rw [hn]; exact hi)) d (kk H locs ls hP hS hl)
theorem r_cald (X : CX K cc own ret rm tb) {k n : Nat} (hk : zkd k = 7) (hn : zln k = n) (hi : 0 ≤ w32 x ∧ w32 x < (n : Int)) (d : decode cc pc = .ok (.caload, 1)) (kk : WG K cl sl σ (pc + 1) lv (vI (σ k (w32 x).toNat) :: st)) : WG K cl sl σ pc lv (vI x :: vR k :: st) := by
  obtain ⟨p, l, e, R, s, m, args, below, meth, c, E, A, Q, nL⟩ := K
  obtain ⟨hx, hb, hr, hml, hown, hts, hlk, hE, hD, hA, htr, hR, htb⟩ := X
  intro H locs ls hP hS hl
  exact va_cald (D := E.2.2.2) (i := zI x) hx hb hE.1 hP k 0 (zget_int hk (by omega)) rfl (vp_in_z (by rw [hn]; exact hi)) d (kk H locs ls hP hS hl)
theorem r_zald (X : CX K cc own ret rm tb) {k n : Nat} (hk : zkd k = 10) (hn : zln k = n) (hi : 0 ≤ w32 x ∧ w32 x < (n : Int)) (d : decode cc pc = .ok (.baload, 1)) (kk : WG K cl sl σ (pc + 1) lv (vI (σ k (w32 x).toNat) :: st)) : WG K cl sl σ pc lv (vI x :: vR k :: st) := by
  obtain ⟨p, l, e, R, s, m, args, below, meth, c, E, A, Q, nL⟩ := K
  obtain ⟨hx, hb, hr, hml, hown, hts, hlk, hE, hD, hA, htr, hR, htb⟩ := X
  intro H locs ls hP hS hl
  exact va_zald (D := E.2.2.2) (i := zI x) hx hb hE.1 hP k 3 (zget_int hk (by omega)) rfl (vp_in_z (by rw [hn]; exact hi)) d (kk H locs ls hP hS hl)
theorem r_lald (X : CX K cc own ret rm tb) {k n : Nat} (hk : zkd k = 9) (hn : zln k = n) (hi : 0 ≤ w32 x ∧ w32 x < (n : Int)) (d : decode cc pc = .ok (.laload, 1)) (kk : WG K cl sl σ (pc + 1) lv (vJ (σ k (w32 x).toNat) :: st)) : WG K cl sl σ pc lv (vI x :: vR k :: st) := by
  obtain ⟨p, l, e, R, s, m, args, below, meth, c, E, A, Q, nL⟩ := K
  obtain ⟨hx, hb, hr, hml, hown, hts, hlk, hE, hD, hA, htr, hR, htb⟩ := X
  intro H locs ls hP hS hl
  exact va_lald (D := E.2.2.2) (i := zI x) hx hb hE.1 hP k 2 (zget_long hk) rfl (vp_in_z (by rw [hn]; exact hi)) d (kk H locs ls hP hS hl)
theorem r_iast (X : CX K cc own ret rm tb) {k n : Nat} (hk : zkd k = 8) (hn : zln k = n) (hi : 0 ≤ w32 x ∧ w32 x < (n : Int)) (d : decode cc pc = .ok (.iastore, 1)) (kk : ∀ σ1, σ1 = zsu σ k (w32 x).toNat y → WG K cl sl σ1 (pc + 1) lv st) : WG K cl sl σ pc lv (vI y :: vI x :: vR k :: st) := by
  obtain ⟨p, l, e, R, s, m, args, below, meth, c, E, A, Q, nL⟩ := K
  obtain ⟨hx, hb, hr, hml, hown, hts, hlk, hE, hD, hA, htr, hR, htb⟩ := X
  intro H locs ls hP hS hl
  refine va_iast (D := E.2.2.2) (i := zI x) (x := zI y) hx hb hE.1 hP (hD σ) hS k 1 (zget_int hk (by omega)) rfl (vp_in_z (by rw [hn]; exact hi)) d (fun H1 locs1 hP1 hD1 hS1 => ?_)
  rw [zI_idx, zput_int hk (by omega)] at hP1
  exact kk _ rfl H1 locs1 ls hP1 hS1 hl
theorem r_cast (X : CX K cc own ret rm tb) {k n : Nat} (hk : zkd k = 7) (hn : zln k = n) (hi : 0 ≤ w32 x ∧ w32 x < (n : Int)) (hrg : 0 ≤ y ∧ y < 65536) (d : decode cc pc = .ok (.castore, 1)) (kk : ∀ σ1, σ1 = zsu σ k (w32 x).toNat y → WG K cl sl σ1 (pc + 1) lv st) : WG K cl sl σ pc lv (vI y :: vI x :: vR k :: st) := by
  obtain ⟨p, l, e, R, s, m, args, below, meth, c, E, A, Q, nL⟩ := K
  obtain ⟨hx, hb, hr, hml, hown, hts, hlk, hE, hD, hA, htr, hR, htb⟩ := X
  intro H locs ls hP hS hl
  refine va_cast (D := E.2.2.2) (i := zI x) (x := zI y) hx hb hE.1 hP (hD σ) hS k 0 (zget_int hk (by omega)) rfl (vp_in_z (by rw [hn]; exact hi)) d (fun H1 locs1 hP1 hD1 hS1 => ?_)
  rw [zc_vp hrg, zI_idx, zput_int hk (by omega)] at hP1
  exact kk _ rfl H1 locs1 ls hP1 hS1 hl
theorem r_zast (X : CX K cc own ret rm tb) {k n : Nat} (hk : zkd k = 10) (hn : zln k = n) (hi : 0 ≤ w32 x ∧ w32 x < (n : Int)) (hrg : y = 0 ∨ y = 1) (d : decode cc pc = .ok (.bastore, 1)) (kk : ∀ σ1, σ1 = zsu σ k (w32 x).toNat y → WG K cl sl σ1 (pc + 1) lv st) : WG K cl sl σ pc lv (vI y :: vI x :: vR k :: st) := by
  obtain ⟨p, l, e, R, s, m, args, below, meth, c, E, A, Q, nL⟩ := K
  obtain ⟨hx, hb, hr, hml, hown, hts, hlk, hE, hD, hA, htr, hR, htb⟩ := X
  intro H locs ls hP hS hl
  refine va_zast (D := E.2.2.2) (i := zI x) (x := zI y) hx hb hE.1 hP (hD σ) hS k 3 (zget_int hk (by omega)) rfl (vp_in_z (by rw [hn]; exact hi)) d (fun H1 locs1 hP1 hD1 hS1 => ?_)
  rw [zb_vp hrg, zI_idx, zput_int hk (by omega)] at hP1
  exact kk _ rfl H1 locs1 ls hP1 hS1 hl
theorem r_last (X : CX K cc own ret rm tb) {k n : Nat} (hk : zkd k = 9) (hn : zln k = n) (hi : 0 ≤ w32 x ∧ w32 x < (n : Int)) (d : decode cc pc = .ok (.lastore, 1)) (kk : ∀ σ1, σ1 = zsu σ k (w32 x).toNat y → WG K cl sl σ1 (pc + 1) lv st) : WG K cl sl σ pc lv (vJ y :: vI x :: vR k :: st) := by
  obtain ⟨p, l, e, R, s, m, args, below, meth, c, E, A, Q, nL⟩ := K
  obtain ⟨hx, hb, hr, hml, hown, hts, hlk, hE, hD, hA, htr, hR, htb⟩ := X
  intro H locs ls hP hS hl
  refine va_last (D := E.2.2.2) (i := zI x) (x := zJ y) hx hb hE.1 hP (hD σ) hS k 2 (zget_long hk) rfl (vp_in_z (by rw [hn]; exact hi)) d (fun H1 locs1 hP1 hD1 hS1 => ?_)
  rw [zI_idx, zput_long hk] at hP1
  exact kk _ rfl H1 locs1 ls hP1 hS1 hl
theorem r_aald (X : CX K cc own ret rm tb) {k n ci : Nat} {C : String} (hk : zkd k = ci) (h7 : 10 < ci) (h9 : ci < 99) (ht : ∀ E : zE, (zys E)[ci - 7]? = some (E.2.2.1 ci, .object C)) (hn : zln k = n) (hi : 0 ≤ w32 x ∧ w32 x < (n : Int)) (d : decode cc pc = .ok (.aaload, 1)) (kk : WG K cl sl σ (pc + 1) lv (vR (zrf k (w32 x).toNat) :: st)) : WG K cl sl σ pc lv (vI x :: vR k :: st) := by
  obtain ⟨p, l, e, R, s, m, args, below, meth, c, E, A, Q, nL⟩ := K
  obtain ⟨hx, hb, hr, hml, hown, hts, hlk, hE, hD, hA, htr, hR, htb⟩ := X
  intro H locs ls hP hS hl
  exact va_aldq (D := E.2.2.2) (i := zI x) hx hb hE.1 hP k (ci - 7) (zget_ref hk h7 h9) (ht E) (vp_in_z (by rw [hn]; exact hi)) d (kk H locs ls hP hS hl)
theorem r_alen (X : CX K cc own ret rm tb) {k n : Nat} {z : Int} (hk : zkd k = 7 ∨ zkd k = 8 ∨ zkd k = 10) (hn : zln k = n) (hz : Int32.ofNat n = zI z) (d : decode cc pc = .ok (.arraylength, 1)) (kk : WG K cl sl σ (pc + 1) lv (vI z :: st)) : WG K cl sl σ pc lv (vR k :: st) := by
  obtain ⟨p, l, e, R, s, m, args, below, meth, c, E, A, Q, nL⟩ := K
  obtain ⟨hx, hb, hr, hml, hown, hts, hlk, hE, hD, hA, htr, hR, htb⟩ := X
  intro H locs ls hP hS hl
  have hz2 : Int32.ofNat (zln k) = zI z := by rw [hn]; exact hz
  rcases hk with hk | hk | hk
  · exact va_alen (D := E.2.2.2) (v := zI z) hx hb hE.1 hP k 0 (zget_int hk (by omega)) rfl hz2 d (kk H locs ls hP hS hl)
  · exact va_alen (D := E.2.2.2) (v := zI z) hx hb hE.1 hP k 1 (zget_int hk (by omega)) rfl hz2 d (kk H locs ls hP hS hl)
  · exact va_alen (D := E.2.2.2) (v := zI z) hx hb hE.1 hP k 3 (zget_int hk (by omega)) rfl hz2 d (kk H locs ls hP hS hl)
theorem r_gets (X : CX K cc own ret rm tb) {i idx : Nat} {nm : String} (hq : (i, nm) ∈ zen) (hw : Cond.fieldLink own idx RX1 nm "LFlaghall$Kind;" ∈ zBG) (d : decode cc pc = .ok (.getstatic idx, 3)) (kk : WG K cl sl σ (pc + 3) lv (vE i :: st)) : WG K cl sl σ pc lv st := by
  obtain ⟨p, l, e, R, s, m, args, below, meth, c, E, A, Q, nL⟩ := K
  obtain ⟨hx, hb, hr, hml, hown, hts, hlk, hE, hD, hA, htr, hR, htb⟩ := X
  intro H locs ls hP hS hl
  exact va_gets hx hb (hE.2.2.2.1 _ hq) hS hown (hts _ hw) (fun _ h => h) d (kk H locs ls hP hS hl)
theorem r_acmp_ne (X : CX K cc own ret rm tb) {off : Int} {tgt : Nat} (h1 : 0 ≤ x ∧ x < 6) (h2 : 0 ≤ y ∧ y < 6) (d : decode cc pc = .ok (.if_acmp .ne off, 3)) (ht : (pc : Int) + off = (tgt : Int)) (kt : ¬ x = y → WG K cl sl σ tgt lv st) (kf : x = y → WG K cl sl σ (pc + 3) lv st) : WG K cl sl σ pc lv (vE y :: vE x :: st) := by
  obtain ⟨p, l, e, R, s, m, args, below, meth, c, E, A, Q, nL⟩ := K
  obtain ⟨hx, hb, hr, hml, hown, hts, hlk, hE, hD, hA, htr, hR, htb⟩ := X
  intro H locs ls hP hS hl
  refine lv_acmp_ne (rx := some (E.2.1 x.toNat)) (ry := some (E.2.1 y.toNat)) hx hb d ht (fun h => kt (fun g => h (by rw [g])) H locs ls hP hS hl) (fun h => kf ?_ H locs ls hP hS hl)
  have h3 := hE.2.2.2.2.2.2.2 x.toNat y.toNat (by omega) (by omega) (Option.some.inj h)
  omega
end RM
end
section
/-! ===== calls, ends, throws ===== -/
theorem zPre_blind {E : zE} {σ : zS} {sz : Nat} {as : List Value} : FrameBlind (va_Pc as (zPre E σ sz)) := by
  intro a U g mk h
  obtain ⟨h1, h2, h3, h4, h5⟩ := h
  exact ⟨h1, h2, h3, h4, h5.to (U := U.calling g mk a) (State.WarmedH.refl U) (fun _ _ _ => rfl) (fun _ h => h)⟩
theorem zPre_at {E : zE} {σ : zS} {A : Nat → Prop} {s U : State} {H : Heap} {locs : List Loc} (hP : va_P E.2.2.2 vwCl (zwd E σ) H) (hS : va_S A s.heap H locs) (hE : zEnv E A s) (hD : ∀ σ, va_D A (zwd E σ)) (hA : ∀ q, s.heap.size ≤ q → A q) (hU : U.heap = H) (hW : s.WarmedH U.vm) : zPre E σ H.size U :=
  ⟨by rw [hU], by rw [hU]; exact hP, (hD σ).weaken (fun _ _ _ _ => trivial), hE.to hW (fun a h1 h2 => by rw [hU]; exact hS.2.1 a h1 h2) (zAW_le (hD σ) hS hA)⟩
def zrk (rk : Nat) (v : Int) : Option zV := if rk = 0 then none else if rk = 1 then some (vI v) else if rk = 2 then some (vJ v) else some (vR v.toNat)
theorem zrk_v (E : zE) (rk : Nat) (v : Int) : (zrk rk v).map (ztv E) = zrv E rk v := by
  unfold zrk zrv
  by_cases h0 : rk = 0
  · simp [h0]
  · by_cases h1 : rk = 1
    · simp [h1, ztv, vI]
    · by_cases h2 : rk = 2
      · simp [h2, ztv, vJ]
      · simp [h0, h1, h2, ztv, vR]
section ZC
variable {p : Program} {l : Launch} {e : Env} {R : Room} {s : State} {m : MethodId} {args : Array Value} {below : List Frame} {meth : Method} {c : Code} {H : Heap} {locs : List Loc} {cells slots : Nat} {Q : State → Prop}
variable {mc ms : Nat} {A : Nat → Prop} {a : Array Value} {pc : Nat} {ls : Array Slot} {st0 rest : List Value} {E : zE} {rk t : Nat} {v : Int} {σ1 : zS}
theorem z_call0 (hr : vx_Run p l e R s m args below meth c H locs cells slots mc ms (F0 m pc ls st0) rest (zQc E H.size rk 0 v σ1 a) (zXC E H.size 0 σ1) (zAW E H.size)) (hS : va_S A s.heap H locs) (hF : ∀ q, zAW E H.size q → A q)
    (kk : ∀ (H1 : Heap) (locs1 : List Loc), va_P E.2.2.2 vwCl (zwd E σ1) H1 → va_S A s.heap H1 locs1 → W p l e R s m args below meth c H1 locs1 (cells + mc) (slots + ms) Q (F0 m (pc + 3) ls ((zrv E rk v).toList ++ rest))) : W p l e R s m args below meth c H locs cells slots Q (F0 m pc ls st0) := by
  intro T hT X
  rcases hr T hT X with ⟨v', st₀, t, T', L, h0, X', hL, e1, e2, ⟨-, hv, hb, hF'⟩, st⟩ | ⟨q, st₀, t, T', L, E', ce, h0, X', hL, e1, e2, ⟨h9, -⟩, hce, hcv, hcl, st⟩
  · cases hv
    obtain ⟨k1, k2, k3⟩ := vx_keep h0 e1 hS (fun q _ h => hF q h) hF hL hF'
    obtain ⟨t2, a1, b1⟩ := kk T'.heap (locs ++ L) (by rw [e1]; exact hb) k3 T' rfl X'
    exact ⟨t2, st t2 a1, b1⟩
  · exact absurd rfl h9
theorem z_callX (hr : vx_Run p l e R s m args below meth c H locs cells slots mc ms (F0 m pc ls st0) rest (zQc E H.size rk t v σ1 a) (zXC E H.size t σ1) (zAW E H.size)) (ht : t ≠ 0) (hS : va_S A s.heap H locs) (hF : ∀ q, zAW E H.size q → A q)
    (kx : ∀ (ce : Cell) (q : Addr) (H1 : Heap) (locs1 : List Loc), va_P E.2.2.2 vwCl (zwd E σ1) H1 → va_S A s.heap H1 locs1 → H1[q]? = some ce → ce.vm = .none → s.vm.findClass (zex t) = some ce.cls → vx_W p l e R s m args below meth c H1 locs1 (cells + mc) (slots + ms) Q (F0 m pc ls rest) q) : W p l e R s m args below meth c H locs cells slots Q (F0 m pc ls st0) := by
  intro T hT X
  rcases hr T hT X with ⟨v', st₀, t, T', L, h0, X', hL, e1, e2, ⟨h9, -⟩, st⟩ | ⟨q, st₀, t', T', L, E', ce, h0, X', hL, e1, e2, ⟨-, hE', hb, hF'⟩, hce, hcv, hcl, st⟩
  · exact absurd h9 ht
  · subst hE'
    obtain ⟨k1, k2, k3⟩ := vx_keep h0 e1 hS (fun q _ h => hF q h) hF hL hF'
    obtain ⟨t2, a1, b1⟩ := kx ce q T'.heap (locs ++ L) (by rw [e1]; exact hb) k3 (by rw [e1]; exact hce) hcv hcl T' rfl X'
    exact ⟨t2, st.trans a1, b1⟩
end ZC
theorem zgood {w : Cond} (hw : w ∈ zBG) : GoodIn zBG (w :: zBG) := fun x h => (List.mem_cons.mp h).elim (fun e => by rw [e]; exact ⟨hw, zBG_good hw⟩) (fun h => ⟨h, zBG_good h⟩)
/-- what a method's end owes -/
def FN (K : zK) (rk t : Nat) (v : Int) (σ1 : zS) (mc ms : Nat) : Prop :=
  match K with
  | (p, l, e, R, s, m, args, below, meth, c, E, A, Q, n) => ∃ sz, Q = vx_MQ below (zQc E sz rk t v σ1) (zXC E sz t σ1) args s mc ms (zAW E sz) ∧ A = zAW E sz ∧ s.heap.size = sz
def zla : Nat → List zV → List (Nat × zV)
  | _, [] => []
  | i, v :: vs => (i, v) :: zla (if zcat v = 2 then i + 2 else i + 1) vs
theorem zla_v (E : zE) : ∀ (as : List zV) (i : Nat), lv_args i (as.map (ztv E)) = zlv E (zla i as)
  | [], _ => rfl
  | v :: vs, i => by
    show (i, ztv E v) :: lv_args (if (ztv E v).category = 2 then i + 2 else i + 1) (vs.map (ztv E)) = (i, ztv E v) :: zlv E (zla (if zcat v = 2 then i + 2 else i + 1) vs)
    rw [ztv_cat, zla_v E vs]
theorem zsl_len (E : zE) : ∀ as : List zV, (lg_sl (as.map (ztv E))).length = (as.map zcat).sum
  | [] => rfl
  | v :: vs => by
    show ((if (ztv E v).category = 2 then [Slot.val (ztv E v), .second] else [Slot.val (ztv E v)]) ++ lg_sl (vs.map (ztv E))).length = zcat v + (vs.map zcat).sum
    rw [List.length_append, zsl_len E vs, ztv_cat]
    have h : zcat v = 1 ∨ zcat v = 2 := by rcases v with x | x | x | x | x <;> simp [zcat]
    rcases h with h | h <;> simp [h]
theorem zCtr_in {y : MethodName} {b : ByteArray} {n : Nat} {ret : Option FieldType} {rm : Room} {as : List zV} {rk : Nat} {σ : zS} {t : Nat} {v : Int} {σ1 : zS} (own : String) (hy : plainName y.cls = true) (hown : y.cls = own) (hlen : (as.map zcat).sum ≤ n)
    (body : ∀ K : zK, K.2.2.2.2.2.2.2.2.2.2.2.2.2 = n → CX K b own ret rm [] → FN K rk t v σ1 rm.cells rm.slots → WG K 0 0 σ 0 (zla 0 as) []) : ∀ l, zCtr l y (.code y b n ret) rm as rk σ t v σ1 := by
  intro l htr E sz
  refine vx_ofW (cc := b) (maxL := n) (ret := ret) hy rfl ?_
  intro p e s m args below meth c s₁ B hml htab hv
  obtain ⟨rfl, hsz, hP, hD, hE⟩ := hv
  have hts := atoms_spec (ws := Cond.code y b n ret :: zBG) B.pre
  have hD' : ∀ σ', va_D (zAW E sz) (zwd E σ') := fun σ' => zwd_D (zAW_D hD)
  have hl := lv_entry (as.map (ztv E)) (n := n) (by rw [zsl_len]; exact hlen)
  rw [lg_entry_eq]
  rw [zla_v] at hl
  have h := body (p, l, e, rm, s, m, (as.map (ztv E)).toArray, below, meth, c, E, zAW E sz, vx_MQ below (zQc E sz rk t v σ1) (zXC E sz t σ1) (as.map (ztv E)).toArray s rm.cells rm.slots (zAW E sz), n) rfl
    ⟨B.exec, B.bytes, B.returns, hml, hown ▸ findClass_of_methodNamed B.named, fun w hw => hts w (List.mem_cons_of_mem _ hw), B.notSynchronized, hE, hD', fun q hq => Or.inr (by rw [← hsz]; exact hq), htr, rfl, by
      show c.exceptionTable.toList = tableOf []
      cases h9 : c.exceptionTable.toList with
      | nil => rfl
      | cons x xs => exact absurd (htab x (by rw [h9]; exact List.mem_cons_self)) id⟩ ⟨sz, rfl, rfl, hsz⟩
  exact h s.heap [] _ hP va_S.rf hl
theorem zCtr_inH {y : MethodName} {b : ByteArray} {n : Nat} {ret : Option FieldType} {rm : Room} {tb : List (Nat × Nat × Nat × Nat)} {as : List zV} {rk : Nat} {σ : zS} {t : Nat} {v : Int} {σ1 : zS} (own : String) (hy : plainName y.cls = true) (hown : y.cls = own) (hlen : (as.map zcat).sum ≤ n)
    (body : ∀ K : zK, K.2.2.2.2.2.2.2.2.2.2.2.2.2 = n → CX K b own ret rm tb → FN K rk t v σ1 rm.cells rm.slots → WG K 0 0 σ 0 (zla 0 as) []) : ∀ l, zCtr l y (.codeWith y b n ret tb) rm as rk σ t v σ1 := by
  intro l htr E sz
  refine vx_ofWH (cc := b) (maxL := n) (ret := ret) (hh := tb) hy rfl ?_
  intro p e s m args below meth c s₁ B hml hv
  obtain ⟨rfl, hsz, hP, hD, hE⟩ := hv
  have hts := atoms_spec (ws := Cond.codeWith y b n ret tb :: zBG) B.pre
  have hD' : ∀ σ', va_D (zAW E sz) (zwd E σ') := fun σ' => zwd_D (zAW_D hD)
  have hl := lv_entry (as.map (ztv E)) (n := n) (by rw [zsl_len]; exact hlen)
  rw [lg_entry_eq]
  rw [zla_v] at hl
  have h := body (p, l, e, rm, s, m, (as.map (ztv E)).toArray, below, meth, c, E, zAW E sz, vx_MQ below (zQc E sz rk t v σ1) (zXC E sz t σ1) (as.map (ztv E)).toArray s rm.cells rm.slots (zAW E sz), n) rfl
    ⟨B.exec, B.bytes, B.returns, hml, hown ▸ findClass_of_methodNamed B.named, fun w hw => hts w (List.mem_cons_of_mem _ hw), B.notSynchronized, hE, hD', fun q hq => Or.inr (by rw [← hsz]; exact hq), htr, rfl, vx_table (x := y) B (hts _ List.mem_cons_self)⟩ ⟨sz, rfl, rfl, hsz⟩
  exact h s.heap [] _ hP va_S.rf hl
section RC
variable {K : zK} {cc : ByteArray} {own : String} {ret : Option FieldType} {rm : Room} {tb : List (Nat × Nat × Nat × Nat)} {cl sl : Nat} {σ : zS} {pc : Nat} {lv lv' : List (Nat × zV)} {st : List zV} {x y : Int} {rk t : Nat} {v : Int} {σ1 : zS}
theorem r_iret (X : CX K cc own ret rm tb) {mc ms : Nat} (F : FN K 1 t v σ1 mc ms) (hret : ret = some .int) (hs : some (0, x, σ) = some (t, v, σ1)) (hc : cl ≤ mc) (hsl : sl ≤ ms) (d : decode cc pc = .ok (.ireturn, 1)) : WG K cl sl σ pc lv [vI x] := by
  obtain ⟨p, l, e, R, s, m, args, below, meth, c, E, A, Q, nL⟩ := K
  obtain ⟨hx, hb, hr, hml, hown, hts, hlk, hE, hD, hA, htr, hR, htb⟩ := X
  intro H locs ls hP hS hl
  obtain ⟨sz, rfl, rfl, hsz⟩ := F
  cases hs
  refine W.widen hc hsl ?_
  refine vx_ret ?_
  exact W.iret (v := zI x) hx hb (hr.trans hret) (fun u hu hW => ⟨rfl, rfl, by rw [hu]; exact hP, hS.F hu⟩) hS.2.2 d hlk
theorem r_lret (X : CX K cc own ret rm tb) {mc ms : Nat} (F : FN K 2 t v σ1 mc ms) (hret : ret = some .long) (hs : some (0, x, σ) = some (t, v, σ1)) (hc : cl ≤ mc) (hsl : sl ≤ ms) (d : decode cc pc = .ok (.lreturn, 1)) : WG K cl sl σ pc lv [vJ x] := by
  obtain ⟨p, l, e, R, s, m, args, below, meth, c, E, A, Q, nL⟩ := K
  obtain ⟨hx, hb, hr, hml, hown, hts, hlk, hE, hD, hA, htr, hR, htb⟩ := X
  intro H locs ls hP hS hl
  obtain ⟨sz, rfl, rfl, hsz⟩ := F
  cases hs
  refine W.widen hc hsl ?_
  refine vx_ret ?_
  exact W.lret (v := zJ x) hx hb (hr.trans hret) (fun u hu hW => ⟨rfl, rfl, by rw [hu]; exact hP, hS.F hu⟩) hS.2.2 d hlk
theorem r_zret (X : CX K cc own ret rm tb) {mc ms : Nat} {ty : FieldType} (F : FN K 1 t v σ1 mc ms) (hret : ret = some ty) (hn : narrow ty (.int (zI x)) = .int (zI x)) (hs : some (0, x, σ) = some (t, v, σ1)) (hc : cl ≤ mc) (hsl : sl ≤ ms) (d : decode cc pc = .ok (.ireturn, 1)) : WG K cl sl σ pc lv [vI x] := by
  obtain ⟨p, l, e, R, s, m, args, below, meth, c, E, A, Q, nL⟩ := K
  obtain ⟨hx, hb, hr, hml, hown, hts, hlk, hE, hD, hA, htr, hR, htb⟩ := X
  intro H locs ls hP hS hl
  obtain ⟨sz, rfl, rfl, hsz⟩ := F
  cases hs
  refine W.widen hc hsl ?_
  refine vx_ret ?_
  exact W.zret (v := zI x) hx hb (hr.trans hret) hn (fun u hu hW => ⟨rfl, rfl, by rw [hu]; exact hP, hS.F hu⟩) hS.2.2 d hlk
theorem r_vret (X : CX K cc own ret rm tb) {mc ms : Nat} (F : FN K 0 t v σ1 mc ms) (hret : ret = none) (hs : some (0, 0, σ) = some (t, v, σ1)) (hc : cl ≤ mc) (hsl : sl ≤ ms) (d : decode cc pc = .ok (.return_, 1)) : WG K cl sl σ pc lv [] := by
  obtain ⟨p, l, e, R, s, m, args, below, meth, c, E, A, Q, nL⟩ := K
  obtain ⟨hx, hb, hr, hml, hown, hts, hlk, hE, hD, hA, htr, hR, htb⟩ := X
  intro H locs ls hP hS hl
  obtain ⟨sz, rfl, rfl, hsz⟩ := F
  cases hs
  refine W.widen hc hsl ?_
  refine vx_ret ?_
  exact W.vret hx hb (hr.trans hret) (fun u hu hW => ⟨rfl, rfl, by rw [hu]; exact hP, hS.F hu⟩) hS.2.2 d hlk
theorem r_aret (X : CX K cc own ret rm tb) {mc ms k : Nat} {cn : String} (F : FN K 3 t v σ1 mc ms) (hret : ret = some (.object cn)) (hs : some (0, (k : Int), σ) = some (t, v, σ1)) (hc : cl ≤ mc) (hsl : sl ≤ ms) (d : decode cc pc = .ok (.areturn, 1)) : WG K cl sl σ pc lv [vR k] := by
  obtain ⟨p, l, e, R, s, m, args, below, meth, c, E, A, Q, nL⟩ := K
  obtain ⟨hx, hb, hr, hml, hown, hts, hlk, hE, hD, hA, htr, hR, htb⟩ := X
  intro H locs ls hP hS hl
  obtain ⟨sz, rfl, rfl, hsz⟩ := F
  cases hs
  refine W.widen hc hsl ?_
  refine vx_ret ?_
  exact W.aret (v := .ref (E.1 k)) hx hb (hr.trans hret) (Or.inl ⟨cn, rfl⟩) (Or.inr ⟨_, rfl⟩) (fun u hu hW => ⟨rfl, rfl, by rw [hu]; exact hP, hS.F hu⟩) hS.2.2 d hlk
theorem r_callV0 (X : CX K cc own ret rm tb) {k0 : Nat} {yy : MethodName} {b2 : ByteArray} {n2 nA idx : Nat} {ret2 : Option FieldType} {rm2 : Room} {as stk : List zV} (hC : zCtr K.2.1 yy (.code yy b2 n2 ret2) rm2 (vR k0 :: as) rk σ 0 v σ1) (hcode : Cond.code yy b2 n2 ret2 ∈ zBG) (hini : Cond.initialized yy.cls ∈ zBG) (hy : yy.cls ≠ "java/lang/invoke/MethodHandle" ∧ yy.cls ≠ "java/lang/invoke/VarHandle") (hpar : (parseMethodDescriptor yy.desc).map (fun d => d.parameters.length) = some nA) (hnA : as.length = nA) (hfr : rm2.frames + 1 ≤ rm.frames ∧ 8 + (n2 + 11) + rm2.locals ≤ rm.locals) (hrm : cl + rm2.cells ≤ rm.cells ∧ sl + rm2.slots ≤ rm.slots) (hcat : (st.map zcat).sum ≤ 8) (hst : stk = as.reverse ++ vR k0 :: st) (hlnk : Cond.methodLink own idx yy ∈ zBG) (hins : Cond.instanceMethod yy ∈ zBG) (hsel : Cond.selects yy.cls yy yy ∈ zBG) {ci : Nat} {q : vw_C} (hk : zkd k0 = ci) (h7 : ci < 7) (hq : vwCl[ci]? = some q) (hqc : q.1 = yy.cls) (d : decode cc pc = .ok (.invokevirtual idx, 3)) (kk : WG K (cl + rm2.cells) (sl + rm2.slots) σ1 (pc + 3) lv ((zrk rk v).toList ++ st)) : WG K cl sl σ pc lv stk := by
  obtain ⟨p, l, e, R, s, m, args, below, meth, c, E, A, Q, nL⟩ := K
  obtain ⟨hx, hb, hr, hml, hown, hts, hlk, hE, hD, hA, htr, hR, htb⟩ := X
  intro H locs ls hP hS hl
  have hfr2 : rm2.frames + 1 ≤ R.frames := by rw [hR]; exact hfr.1
  have hlo2 : 8 + (n2 + 11) + rm2.locals ≤ R.locals := by rw [hR]; exact hfr.2
  have hrm2 : cl + rm2.cells ≤ R.cells ∧ sl + rm2.slots ≤ R.slots := by rw [hR]; exact hrm
  have hpar2 : ∀ sig, parseMethodDescriptor yy.desc = some sig → nA = sig.parameters.length := fun sig h => by rw [h] at hpar; exact (Option.some.inj hpar).symm
  have hrec : ∃ cellB : Cell, H[E.1 k0]? = some cellB ∧ cellB.vm.isStatics = false ∧ s.vm.findClass yy.cls = some cellB.cls := by
    obtain ⟨cb, g1, g2, g3⟩ := va_recv (D := E.2.2.2) hE.1 hP (q0 := k0) hq (zget_obj hk h7)
    exact ⟨cb, g1, g2, by rw [← hqc]; exact g3⟩
  refine z_call0 (vx_runV (As := as.map (ztv E)) (rest := st.map (ztv E)) (b := E.1 k0) (C := yy.cls) ⟨hx, hb, hml, hown, hts⟩ (hC htr E H.size) ⟨⟨rfl, rfl, hfr2, hlo2, pay_in hts (zgood hcode), List.mem_cons_self, hts _ hcode, hts _ hini, hy, hpar2, hts _ hlnk⟩, hts _ hins, hts _ hsel⟩ ⟨zPre_blind, hrec, fun U hU hW => ⟨rfl, zPre_at hP hS hE hD hA hU hW⟩⟩ rfl (by simpa using hnA) (hl.1) (by subst hst; simp [ztv, vR]) (lv_room (by rw [List.map_map]; simpa [Function.comp_def, ztv_cat] using hcat)) d hrm2) hS (zAW_le (hD σ) hS hA) (fun H1 locs1 hP1 hS1 => ?_)
  have h9 := kk H1 locs1 ls hP1 hS1 hl
  rw [List.map_append] at h9
  rw [← zrk_v, ← show ((zrk rk v).toList.map (ztv E)) = ((zrk rk v).map (ztv E)).toList from by cases zrk rk v <;> rfl]
  exact h9
theorem r_callVX (X : CX K cc own ret rm tb) {k0 : Nat} {yy : MethodName} {b2 : ByteArray} {n2 nA idx : Nat} {ret2 : Option FieldType} {rm2 : Room} {as stk : List zV} {rk0 : Nat} {v0 : Int} {mc ms : Nat} (ht : t ≠ 0) (htb0 : tb = []) (F : FN K rk0 t v0 σ1 mc ms) (hC : zCtr K.2.1 yy (.code yy b2 n2 ret2) rm2 (vR k0 :: as) rk σ t v σ1) (hcode : Cond.code yy b2 n2 ret2 ∈ zBG) (hini : Cond.initialized yy.cls ∈ zBG) (hy : yy.cls ≠ "java/lang/invoke/MethodHandle" ∧ yy.cls ≠ "java/lang/invoke/VarHandle") (hpar : (parseMethodDescriptor yy.desc).map (fun d => d.parameters.length) = some nA) (hnA : as.length = nA) (hfr : rm2.frames + 1 ≤ rm.frames ∧ 8 + (n2 + 11) + rm2.locals ≤ rm.locals) (hrm : cl + rm2.cells ≤ rm.cells ∧ sl + rm2.slots ≤ rm.slots) (hcat : (st.map zcat).sum ≤ 8) (hst : stk = as.reverse ++ vR k0 :: st) (hlnk : Cond.methodLink own idx yy ∈ zBG) (hins : Cond.instanceMethod yy ∈ zBG) (hsel : Cond.selects yy.cls yy yy ∈ zBG) {ci : Nat} {q : vw_C} (hk : zkd k0 = ci) (h7 : ci < 7) (hq : vwCl[ci]? = some q) (hqc : q.1 = yy.cls) (d : decode cc pc = .ok (.invokevirtual idx, 3)) (hcm : cl + rm2.cells ≤ mc) (hsm : sl + rm2.slots ≤ ms) : WG K cl sl σ pc lv stk := by
  obtain ⟨p, l, e, R, s, m, args, below, meth, c, E, A, Q, nL⟩ := K
  obtain ⟨hx, hb, hr, hml, hown, hts, hlk, hE, hD, hA, htr, hR, htb⟩ := X
  intro H locs ls hP hS hl
  have hfr2 : rm2.frames + 1 ≤ R.frames := by rw [hR]; exact hfr.1
  have hlo2 : 8 + (n2 + 11) + rm2.locals ≤ R.locals := by rw [hR]; exact hfr.2
  have hrm2 : cl + rm2.cells ≤ R.cells ∧ sl + rm2.slots ≤ R.slots := by rw [hR]; exact hrm
  have hpar2 : ∀ sig, parseMethodDescriptor yy.desc = some sig → nA = sig.parameters.length := fun sig h => by rw [h] at hpar; exact (Option.some.inj hpar).symm
  have hrec : ∃ cellB : Cell, H[E.1 k0]? = some cellB ∧ cellB.vm.isStatics = false ∧ s.vm.findClass yy.cls = some cellB.cls := by
    obtain ⟨cb, g1, g2, g3⟩ := va_recv (D := E.2.2.2) hE.1 hP (q0 := k0) hq (zget_obj hk h7)
    exact ⟨cb, g1, g2, by rw [← hqc]; exact g3⟩
  obtain ⟨sz, rfl, rfl, hsz⟩ := F
  refine z_callX (vx_runV (As := as.map (ztv E)) (rest := st.map (ztv E)) (b := E.1 k0) (C := yy.cls) ⟨hx, hb, hml, hown, hts⟩ (hC htr E H.size) ⟨⟨rfl, rfl, hfr2, hlo2, pay_in hts (zgood hcode), List.mem_cons_self, hts _ hcode, hts _ hini, hy, hpar2, hts _ hlnk⟩, hts _ hins, hts _ hsel⟩ ⟨zPre_blind, hrec, fun U hU hW => ⟨rfl, zPre_at hP hS hE hD hA hU hW⟩⟩ rfl (by simpa using hnA) (hl.1) (by subst hst; simp [ztv, vR]) (lv_room (by rw [List.map_map]; simpa [Function.comp_def, ztv_cat] using hcat)) d hrm2) ht hS (zAW_le (hD σ) hS hA) (fun ce q H1 locs1 hP1 hS1 hce hcv hcl => ?_)
  subst htb0
  refine vx_out (fun x hx => by rw [htb] at hx; cases hx) hlk hce hcv hcl (fun u hu hal => ⟨ht, rfl, by rw [hu]; exact hP1, hS1.F hu⟩) hS1.2.2 hcm hsm
theorem r_callN0 (X : CX K cc own ret rm tb) {k0 : Nat} {yy : MethodName} {b2 : ByteArray} {n2 nA idx : Nat} {ret2 : Option FieldType} {rm2 : Room} {as stk : List zV} (hC : zCtr K.2.1 yy (.code yy b2 n2 ret2) rm2 (vR k0 :: as) rk σ 0 v σ1) (hcode : Cond.code yy b2 n2 ret2 ∈ zBG) (hini : Cond.initialized yy.cls ∈ zBG) (hy : yy.cls ≠ "java/lang/invoke/MethodHandle" ∧ yy.cls ≠ "java/lang/invoke/VarHandle") (hpar : (parseMethodDescriptor yy.desc).map (fun d => d.parameters.length) = some nA) (hnA : as.length = nA) (hfr : rm2.frames + 1 ≤ rm.frames ∧ 8 + (n2 + 11) + rm2.locals ≤ rm.locals) (hrm : cl + rm2.cells ≤ rm.cells ∧ sl + rm2.slots ≤ rm.slots) (hcat : (st.map zcat).sum ≤ 8) (hst : stk = as.reverse ++ vR k0 :: st) {host : String} (hlnk : Cond.methodLinkNest own idx yy host ∈ znw) (hins : Cond.instanceMethod yy ∈ zBG) (hsel : Cond.selects yy.cls yy yy ∈ zBG) {ci : Nat} {q : vw_C} (hk : zkd k0 = ci) (h7 : ci < 7) (hq : vwCl[ci]? = some q) (hqc : q.1 = yy.cls) (d : decode cc pc = .ok (.invokevirtual idx, 3)) (kk : WG K (cl + rm2.cells) (sl + rm2.slots) σ1 (pc + 3) lv ((zrk rk v).toList ++ st)) : WG K cl sl σ pc lv stk := by
  obtain ⟨p, l, e, R, s, m, args, below, meth, c, E, A, Q, nL⟩ := K
  obtain ⟨hx, hb, hr, hml, hown, hts, hlk, hE, hD, hA, htr, hR, htb⟩ := X
  intro H locs ls hP hS hl
  have hfr2 : rm2.frames + 1 ≤ R.frames := by rw [hR]; exact hfr.1
  have hlo2 : 8 + (n2 + 11) + rm2.locals ≤ R.locals := by rw [hR]; exact hfr.2
  have hrm2 : cl + rm2.cells ≤ R.cells ∧ sl + rm2.slots ≤ R.slots := by rw [hR]; exact hrm
  have hpar2 : ∀ sig, parseMethodDescriptor yy.desc = some sig → nA = sig.parameters.length := fun sig h => by rw [h] at hpar; exact (Option.some.inj hpar).symm
  have hrec : ∃ cellB : Cell, H[E.1 k0]? = some cellB ∧ cellB.vm.isStatics = false ∧ s.vm.findClass yy.cls = some cellB.cls := by
    obtain ⟨cb, g1, g2, g3⟩ := va_recv (D := E.2.2.2) hE.1 hP (q0 := k0) hq (zget_obj hk h7)
    exact ⟨cb, g1, g2, by rw [← hqc]; exact g3⟩
  refine z_call0 (vx_runVN (As := as.map (ztv E)) (rest := st.map (ztv E)) (b := E.1 k0) (C := yy.cls) (host := host) ⟨hx, hb, hml, hown, hts⟩ (hC htr E H.size) ⟨⟨⟨rfl, rfl, hfr2, hlo2, pay_in hts (zgood hcode), List.mem_cons_self⟩, hts _ hcode, hts _ hini, hy, hpar2, va_Nw.use rfl (hE.2.1 _ hlnk)⟩, hts _ hins, hts _ hsel⟩ ⟨zPre_blind, hrec, fun U hU hW => ⟨rfl, zPre_at hP hS hE hD hA hU hW⟩⟩ rfl (by simpa using hnA) (hl.1) (by subst hst; simp [ztv, vR]) (lv_room (by rw [List.map_map]; simpa [Function.comp_def, ztv_cat] using hcat)) d hrm2) hS (zAW_le (hD σ) hS hA) (fun H1 locs1 hP1 hS1 => ?_)
  have h9 := kk H1 locs1 ls hP1 hS1 hl
  rw [List.map_append] at h9
  rw [← zrk_v, ← show ((zrk rk v).toList.map (ztv E)) = ((zrk rk v).map (ztv E)).toList from by cases zrk rk v <;> rfl]
  exact h9
theorem r_callNX (X : CX K cc own ret rm tb) {k0 : Nat} {yy : MethodName} {b2 : ByteArray} {n2 nA idx : Nat} {ret2 : Option FieldType} {rm2 : Room} {as stk : List zV} {rk0 : Nat} {v0 : Int} {mc ms : Nat} (ht : t ≠ 0) (htb0 : tb = []) (F : FN K rk0 t v0 σ1 mc ms) (hC : zCtr K.2.1 yy (.code yy b2 n2 ret2) rm2 (vR k0 :: as) rk σ t v σ1) (hcode : Cond.code yy b2 n2 ret2 ∈ zBG) (hini : Cond.initialized yy.cls ∈ zBG) (hy : yy.cls ≠ "java/lang/invoke/MethodHandle" ∧ yy.cls ≠ "java/lang/invoke/VarHandle") (hpar : (parseMethodDescriptor yy.desc).map (fun d => d.parameters.length) = some nA) (hnA : as.length = nA) (hfr : rm2.frames + 1 ≤ rm.frames ∧ 8 + (n2 + 11) + rm2.locals ≤ rm.locals) (hrm : cl + rm2.cells ≤ rm.cells ∧ sl + rm2.slots ≤ rm.slots) (hcat : (st.map zcat).sum ≤ 8) (hst : stk = as.reverse ++ vR k0 :: st) {host : String} (hlnk : Cond.methodLinkNest own idx yy host ∈ znw) (hins : Cond.instanceMethod yy ∈ zBG) (hsel : Cond.selects yy.cls yy yy ∈ zBG) {ci : Nat} {q : vw_C} (hk : zkd k0 = ci) (h7 : ci < 7) (hq : vwCl[ci]? = some q) (hqc : q.1 = yy.cls) (d : decode cc pc = .ok (.invokevirtual idx, 3)) (hcm : cl + rm2.cells ≤ mc) (hsm : sl + rm2.slots ≤ ms) : WG K cl sl σ pc lv stk := by
  obtain ⟨p, l, e, R, s, m, args, below, meth, c, E, A, Q, nL⟩ := K
  obtain ⟨hx, hb, hr, hml, hown, hts, hlk, hE, hD, hA, htr, hR, htb⟩ := X
  intro H locs ls hP hS hl
  have hfr2 : rm2.frames + 1 ≤ R.frames := by rw [hR]; exact hfr.1
  have hlo2 : 8 + (n2 + 11) + rm2.locals ≤ R.locals := by rw [hR]; exact hfr.2
  have hrm2 : cl + rm2.cells ≤ R.cells ∧ sl + rm2.slots ≤ R.slots := by rw [hR]; exact hrm
  have hpar2 : ∀ sig, parseMethodDescriptor yy.desc = some sig → nA = sig.parameters.length := fun sig h => by rw [h] at hpar; exact (Option.some.inj hpar).symm
  have hrec : ∃ cellB : Cell, H[E.1 k0]? = some cellB ∧ cellB.vm.isStatics = false ∧ s.vm.findClass yy.cls = some cellB.cls := by
    obtain ⟨cb, g1, g2, g3⟩ := va_recv (D := E.2.2.2) hE.1 hP (q0 := k0) hq (zget_obj hk h7)
    exact ⟨cb, g1, g2, by rw [← hqc]; exact g3⟩
  obtain ⟨sz, rfl, rfl, hsz⟩ := F
  refine z_callX (vx_runVN (As := as.map (ztv E)) (rest := st.map (ztv E)) (b := E.1 k0) (C := yy.cls) (host := host) ⟨hx, hb, hml, hown, hts⟩ (hC htr E H.size) ⟨⟨⟨rfl, rfl, hfr2, hlo2, pay_in hts (zgood hcode), List.mem_cons_self⟩, hts _ hcode, hts _ hini, hy, hpar2, va_Nw.use rfl (hE.2.1 _ hlnk)⟩, hts _ hins, hts _ hsel⟩ ⟨zPre_blind, hrec, fun U hU hW => ⟨rfl, zPre_at hP hS hE hD hA hU hW⟩⟩ rfl (by simpa using hnA) (hl.1) (by subst hst; simp [ztv, vR]) (lv_room (by rw [List.map_map]; simpa [Function.comp_def, ztv_cat] using hcat)) d hrm2) ht hS (zAW_le (hD σ) hS hA) (fun ce q H1 locs1 hP1 hS1 hce hcv hcl => ?_)
  subst htb0
  refine vx_out (fun x hx => by rw [htb] at hx; cases hx) hlk hce hcv hcl (fun u hu hal => ⟨ht, rfl, by rw [hu]; exact hP1, hS1.F hu⟩) hS1.2.2 hcm hsm
theorem r_callS0 (X : CX K cc own ret rm tb) {k0 : Nat} {yy : MethodName} {b2 : ByteArray} {n2 nA idx : Nat} {ret2 : Option FieldType} {rm2 : Room} {as stk : List zV} (hC : zCtr K.2.1 yy (.code yy b2 n2 ret2) rm2 as rk σ 0 v σ1) (hcode : Cond.code yy b2 n2 ret2 ∈ zBG) (hini : Cond.initialized yy.cls ∈ zBG) (hy : yy.cls ≠ "java/lang/invoke/MethodHandle" ∧ yy.cls ≠ "java/lang/invoke/VarHandle") (hpar : (parseMethodDescriptor yy.desc).map (fun d => d.parameters.length) = some nA) (hnA : as.length = nA) (hfr : rm2.frames + 1 ≤ rm.frames ∧ 8 + (n2 + 11) + rm2.locals ≤ rm.locals) (hrm : cl + rm2.cells ≤ rm.cells ∧ sl + rm2.slots ≤ rm.slots) (hcat : (st.map zcat).sum ≤ 8) (hst : stk = as.reverse ++ st) (hlnk : Cond.methodLink own idx yy ∈ zBG) (hsta : Cond.static yy ∈ zBG) (d : decode cc pc = .ok (.invokestatic idx, 3)) (kk : WG K (cl + rm2.cells) (sl + rm2.slots) σ1 (pc + 3) lv ((zrk rk v).toList ++ st)) : WG K cl sl σ pc lv stk := by
  obtain ⟨p, l, e, R, s, m, args, below, meth, c, E, A, Q, nL⟩ := K
  obtain ⟨hx, hb, hr, hml, hown, hts, hlk, hE, hD, hA, htr, hR, htb⟩ := X
  intro H locs ls hP hS hl
  have hfr2 : rm2.frames + 1 ≤ R.frames := by rw [hR]; exact hfr.1
  have hlo2 : 8 + (n2 + 11) + rm2.locals ≤ R.locals := by rw [hR]; exact hfr.2
  have hrm2 : cl + rm2.cells ≤ R.cells ∧ sl + rm2.slots ≤ R.slots := by rw [hR]; exact hrm
  have hpar2 : ∀ sig, parseMethodDescriptor yy.desc = some sig → nA = sig.parameters.length := fun sig h => by rw [h] at hpar; exact (Option.some.inj hpar).symm
  refine z_call0 (vx_runS (As := as.map (ztv E)) (rest := st.map (ztv E)) ⟨hx, hb, hml, hown, hts⟩ (hC htr E H.size) ⟨⟨rfl, rfl, hfr2, hlo2, pay_in hts (zgood hcode), List.mem_cons_self, hts _ hcode, hts _ hini, hy, hpar2, hts _ hlnk⟩, hts _ hsta⟩ ⟨zPre_blind, fun U hU hW => ⟨rfl, zPre_at hP hS hE hD hA hU hW⟩⟩ rfl (by simpa using hnA) (hl.1) (by subst hst; simp) (lv_room (by rw [List.map_map]; simpa [Function.comp_def, ztv_cat] using hcat)) d hrm2) hS (zAW_le (hD σ) hS hA) (fun H1 locs1 hP1 hS1 => ?_)
  have h9 := kk H1 locs1 ls hP1 hS1 hl
  rw [List.map_append] at h9
  rw [← zrk_v, ← show ((zrk rk v).toList.map (ztv E)) = ((zrk rk v).map (ztv E)).toList from by cases zrk rk v <;> rfl]
  exact h9
theorem r_callSX (X : CX K cc own ret rm tb) {k0 : Nat} {yy : MethodName} {b2 : ByteArray} {n2 nA idx : Nat} {ret2 : Option FieldType} {rm2 : Room} {as stk : List zV} {rk0 : Nat} {v0 : Int} {mc ms : Nat} (ht : t ≠ 0) (htb0 : tb = []) (F : FN K rk0 t v0 σ1 mc ms) (hC : zCtr K.2.1 yy (.code yy b2 n2 ret2) rm2 as rk σ t v σ1) (hcode : Cond.code yy b2 n2 ret2 ∈ zBG) (hini : Cond.initialized yy.cls ∈ zBG) (hy : yy.cls ≠ "java/lang/invoke/MethodHandle" ∧ yy.cls ≠ "java/lang/invoke/VarHandle") (hpar : (parseMethodDescriptor yy.desc).map (fun d => d.parameters.length) = some nA) (hnA : as.length = nA) (hfr : rm2.frames + 1 ≤ rm.frames ∧ 8 + (n2 + 11) + rm2.locals ≤ rm.locals) (hrm : cl + rm2.cells ≤ rm.cells ∧ sl + rm2.slots ≤ rm.slots) (hcat : (st.map zcat).sum ≤ 8) (hst : stk = as.reverse ++ st) (hlnk : Cond.methodLink own idx yy ∈ zBG) (hsta : Cond.static yy ∈ zBG) (d : decode cc pc = .ok (.invokestatic idx, 3)) (hcm : cl + rm2.cells ≤ mc) (hsm : sl + rm2.slots ≤ ms) : WG K cl sl σ pc lv stk := by
  obtain ⟨p, l, e, R, s, m, args, below, meth, c, E, A, Q, nL⟩ := K
  obtain ⟨hx, hb, hr, hml, hown, hts, hlk, hE, hD, hA, htr, hR, htb⟩ := X
  intro H locs ls hP hS hl
  have hfr2 : rm2.frames + 1 ≤ R.frames := by rw [hR]; exact hfr.1
  have hlo2 : 8 + (n2 + 11) + rm2.locals ≤ R.locals := by rw [hR]; exact hfr.2
  have hrm2 : cl + rm2.cells ≤ R.cells ∧ sl + rm2.slots ≤ R.slots := by rw [hR]; exact hrm
  have hpar2 : ∀ sig, parseMethodDescriptor yy.desc = some sig → nA = sig.parameters.length := fun sig h => by rw [h] at hpar; exact (Option.some.inj hpar).symm
  obtain ⟨sz, rfl, rfl, hsz⟩ := F
  refine z_callX (vx_runS (As := as.map (ztv E)) (rest := st.map (ztv E)) ⟨hx, hb, hml, hown, hts⟩ (hC htr E H.size) ⟨⟨rfl, rfl, hfr2, hlo2, pay_in hts (zgood hcode), List.mem_cons_self, hts _ hcode, hts _ hini, hy, hpar2, hts _ hlnk⟩, hts _ hsta⟩ ⟨zPre_blind, fun U hU hW => ⟨rfl, zPre_at hP hS hE hD hA hU hW⟩⟩ rfl (by simpa using hnA) (hl.1) (by subst hst; simp) (lv_room (by rw [List.map_map]; simpa [Function.comp_def, ztv_cat] using hcat)) d hrm2) ht hS (zAW_le (hD σ) hS hA) (fun ce q H1 locs1 hP1 hS1 hce hcv hcl => ?_)
  subst htb0
  refine vx_out (fun x hx => by rw [htb] at hx; cases hx) hlk hce hcv hcl (fun u hu hal => ⟨ht, rfl, by rw [hu]; exact hP1, hS1.F hu⟩) hS1.2.2 hcm hsm
theorem r_throw (X : CX K cc own ret rm tb) {mc ms ik is ic te : Nat} {cls text : String} (F : FN K rk t v σ1 mc ms) (hs : some (te, 0, σ) = some (t, v, σ1)) (hte : te ≠ 0) (hcls : cls = zex te) (htb0 : tb = []) (hfit : Bundle.fit cls = true) (hnames : ∀ n ∈ (["java/lang/RuntimeException", "java/lang/Exception"] : List String), Bundle.fit n = true) (hk : Cond.classLink own ik cls ∈ zBG) (hini : Cond.initialized cls ∈ zBG) (hstr : (own, is, text) ∈ zst) (h1 : ∀ w ∈ (vx_atS own ic cls ["java/lang/RuntimeException", "java/lang/Exception"]).filter goodWord, w ∈ zBG) (h2 : ∀ w ∈ (vx_atS own ic cls ["java/lang/RuntimeException", "java/lang/Exception"]).filter (fun w => !goodWord w), w ∈ znw) (hgood : ∀ w ∈ Cond.classLink own ik cls :: Cond.initialized cls :: vx_atS own ic cls ["java/lang/RuntimeException", "java/lang/Exception"], vx_ot w = true) (d0 : decode cc pc = .ok (.new ik, 3)) (d3 : decode cc (pc + 3) = .ok (.dup, 1)) (d4 : decode cc (pc + 4) = .ok (.ldc is, 2)) (d6 : decode cc (pc + 6) = .ok (.invokespecial ic, 3)) (d9 : decode cc (pc + 9) = .ok (.athrow, 1)) (hfr : 5 < rm.frames) (hlo : (st.map zcat).sum + 82 ≤ rm.locals) (hrc : cl + 1 ≤ rm.cells ∧ sl + 6 ≤ rm.slots) (hcm : cl + 1 ≤ mc) (hsm : sl + 6 ≤ ms) : WG K cl sl σ pc lv st := by
  obtain ⟨p, l, e, R, s, m, args, below, meth, c, E, A, Q, nL⟩ := K
  obtain ⟨hx, hb, hr, hml, hown, hts, hlk, hE, hD, hA, htr, hR, htb⟩ := X
  intro H locs ls hP hS hl
  obtain ⟨sz, rfl, rfl, hsz⟩ := F
  cases hs
  subst htb0
  obtain ⟨sa, hsa⟩ := hE.2.2.2.2.1 _ hstr
  refine vx_throwS (names := ["java/lang/RuntimeException", "java/lang/Exception"]) (sa := sa) (A := zAW E sz) hx hb htr hown hfit hnames (hts _ hk) (hts _ hini) hsa (fun w hw => ?_) hgood hE.2.2.2.2.2.1 hE.2.2.2.2.2.2.1 hS (hl.1.trans hml.symm) d0 d3 d4 d6 d9 (fun x hx => by rw [htb] at hx; cases hx) (by rw [hR]; exact hfr) (by rw [hR, List.map_map]; simpa [Function.comp_def, ztv_cat] using hlo) (by rw [hR]; exact hrc.1) (by rw [hR]; exact hrc.2) hlk (fun u hal hz hq => ⟨hte, hcls, ?_, ?_⟩) hS.2.2 hcm hsm
  · by_cases g : goodWord w = true
    · exact hts w (h1 w (List.mem_filter.mpr ⟨hw, g⟩))
    · have hz : w ∈ znw := h2 w (List.mem_filter.mpr ⟨hw, by simpa using g⟩)
      have hot := hgood w (List.mem_cons_of_mem _ (List.mem_cons_of_mem _ hw))
      have ho : w.onTables = true := by
        simp only [vx_ot, Bool.or_eq_true] at hot
        exact hot.resolve_right g
      exact va_Nw.use ho (hE.2.1 _ hz)
  · exact hP.kept (fun k q hk => hq q.1 (vx_lt hP hk))
  · exact ⟨Nat.le_trans hS.1 hz, fun q h1 h2 => (hq q (Nat.lt_of_lt_of_le h1 hS.1)).trans (hS.2.1 q h1 h2)⟩
end RC
theorem zth1_1 : ∀ w ∈ (vx_atS RX6 239 "java/lang/IndexOutOfBoundsException" ["java/lang/RuntimeException", "java/lang/Exception"]).filter goodWord, w ∈ zBG := fun w hw => List.mem_filter.mpr ⟨(by decide +kernel : ∀ w ∈ (vx_atS RX6 239 "java/lang/IndexOutOfBoundsException" ["java/lang/RuntimeException", "java/lang/Exception"]).filter goodWord, w ∈ lw_tbl) w hw, (List.mem_filter.mp hw).2⟩
theorem zth1_2 : ∀ w ∈ (vx_atS RX6 239 "java/lang/IndexOutOfBoundsException" ["java/lang/RuntimeException", "java/lang/Exception"]).filter (fun w => !goodWord w), w ∈ znw := by decide +kernel
theorem zth1_3 : ∀ w ∈ Cond.classLink RX6 235 "java/lang/IndexOutOfBoundsException" :: Cond.initialized "java/lang/IndexOutOfBoundsException" :: vx_atS RX6 239 "java/lang/IndexOutOfBoundsException" ["java/lang/RuntimeException", "java/lang/Exception"], vx_ot w = true := by decide +kernel
theorem zth1_4 : Cond.classLink RX6 235 "java/lang/IndexOutOfBoundsException" ∈ zBG := zt_2_78
theorem zth1_5 : Cond.initialized "java/lang/IndexOutOfBoundsException" ∈ zBG := zt_1_15
theorem zth2_1 : ∀ w ∈ (vx_atS RX6 42 "java/lang/IllegalArgumentException" ["java/lang/RuntimeException", "java/lang/Exception"]).filter goodWord, w ∈ zBG := fun w hw => List.mem_filter.mpr ⟨(by decide +kernel : ∀ w ∈ (vx_atS RX6 42 "java/lang/IllegalArgumentException" ["java/lang/RuntimeException", "java/lang/Exception"]).filter goodWord, w ∈ lw_tbl) w hw, (List.mem_filter.mp hw).2⟩
theorem zth2_2 : ∀ w ∈ (vx_atS RX6 42 "java/lang/IllegalArgumentException" ["java/lang/RuntimeException", "java/lang/Exception"]).filter (fun w => !goodWord w), w ∈ znw := by decide +kernel
theorem zth2_3 : ∀ w ∈ Cond.classLink RX6 38 "java/lang/IllegalArgumentException" :: Cond.initialized "java/lang/IllegalArgumentException" :: vx_atS RX6 42 "java/lang/IllegalArgumentException" ["java/lang/RuntimeException", "java/lang/Exception"], vx_ot w = true := by decide +kernel
theorem zth2_4 : Cond.classLink RX6 38 "java/lang/IllegalArgumentException" ∈ zBG := zt_1_222
theorem zth2_5 : Cond.initialized "java/lang/IllegalArgumentException" ∈ zBG := zt_1_13
theorem zth3_1 : ∀ w ∈ (vx_atS RX6 53 "java/lang/IllegalStateException" ["java/lang/RuntimeException", "java/lang/Exception"]).filter goodWord, w ∈ zBG := fun w hw => List.mem_filter.mpr ⟨(by decide +kernel : ∀ w ∈ (vx_atS RX6 53 "java/lang/IllegalStateException" ["java/lang/RuntimeException", "java/lang/Exception"]).filter goodWord, w ∈ lw_tbl) w hw, (List.mem_filter.mp hw).2⟩
theorem zth3_2 : ∀ w ∈ (vx_atS RX6 53 "java/lang/IllegalStateException" ["java/lang/RuntimeException", "java/lang/Exception"]).filter (fun w => !goodWord w), w ∈ znw := by decide +kernel
theorem zth3_3 : ∀ w ∈ Cond.classLink RX6 49 "java/lang/IllegalStateException" :: Cond.initialized "java/lang/IllegalStateException" :: vx_atS RX6 53 "java/lang/IllegalStateException" ["java/lang/RuntimeException", "java/lang/Exception"], vx_ot w = true := by decide +kernel
theorem zth3_4 : Cond.classLink RX6 49 "java/lang/IllegalStateException" ∈ zBG := zt_2_50
theorem zth3_5 : Cond.initialized "java/lang/IllegalStateException" ∈ zBG := zt_1_14
theorem zth_n : ∀ n ∈ (["java/lang/RuntimeException", "java/lang/Exception"] : List String), Bundle.fit n = true := by decide +kernel
end
